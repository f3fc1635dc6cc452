theorem d_Bd_run_2 : decode mm_Bd_run.2.1 2 = .ok (.invokevirtual 29, 3) := by decide +kernel
theorem d_Bd_run_5 : decode mm_Bd_run.2.1 5 = .ok (.lstore 4, 2) := by decide +kernel
theorem d_Bd_run_7 : decode mm_Bd_run.2.1 7 = .ok (.lconst 0, 1) := by decide +kernel
theorem d_Bd_run_8 : decode mm_Bd_run.2.1 8 = .ok (.lstore 6, 2) := by decide +kernel
theorem d_Bd_run_10 : decode mm_Bd_run.2.1 10 = .ok (.lconst 0, 1) := by decide +kernel
theorem d_Bd_run_11 : decode mm_Bd_run.2.1 11 = .ok (.lstore 8, 2) := by decide +kernel
theorem d_Bd_run_13 : decode mm_Bd_run.2.1 13 = .ok (.iconst 0, 1) := by decide +kernel
theorem d_Bd_run_14 : decode mm_Bd_run.2.1 14 = .ok (.istore 10, 2) := by decide +kernel
theorem d_Bd_run_16 : decode mm_Bd_run.2.1 16 = .ok (.iload 10, 2) := by decide +kernel
theorem d_Bd_run_18 : decode mm_Bd_run.2.1 18 = .ok (.aload_n 1, 1) := by decide +kernel
theorem d_Bd_run_19 : decode mm_Bd_run.2.1 19 = .ok (.getfield 35, 3) := by decide +kernel
theorem d_Bd_run_22 : decode mm_Bd_run.2.1 22 = .ok (.if_icmp .ge 120, 3) := by decide +kernel
theorem d_Bd_run_25 : decode mm_Bd_run.2.1 25 = .ok (.lload 6, 2) := by decide +kernel
theorem d_Bd_run_27 : decode mm_Bd_run.2.1 27 = .ok (.lload 4, 2) := by decide +kernel
theorem d_Bd_run_29 : decode mm_Bd_run.2.1 29 = .ok (.lcmp, 1) := by decide +kernel
theorem d_Bd_run_30 : decode mm_Bd_run.2.1 30 = .ok (.ifCond .eq 112, 3) := by decide +kernel
theorem d_Bd_run_33 : decode mm_Bd_run.2.1 33 = .ok (.iconst 0, 1) := by decide +kernel
theorem d_Bd_run_34 : decode mm_Bd_run.2.1 34 = .ok (.istore 11, 2) := by decide +kernel
theorem d_Bd_run_36 : decode mm_Bd_run.2.1 36 = .ok (.iload 11, 2) := by decide +kernel
theorem d_Bd_run_38 : decode mm_Bd_run.2.1 38 = .ok (.aload_n 1, 1) := by decide +kernel
theorem d_Bd_run_39 : decode mm_Bd_run.2.1 39 = .ok (.getfield 35, 3) := by decide +kernel
theorem d_Bd_run_42 : decode mm_Bd_run.2.1 42 = .ok (.if_icmp .ge 94, 3) := by decide +kernel
theorem d_Bd_run_45 : decode mm_Bd_run.2.1 45 = .ok (.lconst 1, 1) := by decide +kernel
theorem d_Bd_run_46 : decode mm_Bd_run.2.1 46 = .ok (.iload 11, 2) := by decide +kernel
theorem d_Bd_run_48 : decode mm_Bd_run.2.1 48 = .ok (.lshl, 1) := by decide +kernel
theorem d_Bd_run_49 : decode mm_Bd_run.2.1 49 = .ok (.lstore 12, 2) := by decide +kernel
theorem d_Bd_run_51 : decode mm_Bd_run.2.1 51 = .ok (.lload 4, 2) := by decide +kernel
theorem d_Bd_run_53 : decode mm_Bd_run.2.1 53 = .ok (.lload 6, 2) := by decide +kernel
theorem d_Bd_run_55 : decode mm_Bd_run.2.1 55 = .ok (.ldc2_w 38, 3) := by decide +kernel
theorem d_Bd_run_58 : decode mm_Bd_run.2.1 58 = .ok (.lxor, 1) := by decide +kernel
theorem d_Bd_run_59 : decode mm_Bd_run.2.1 59 = .ok (.land, 1) := by decide +kernel
theorem d_Bd_run_60 : decode mm_Bd_run.2.1 60 = .ok (.lload 12, 2) := by decide +kernel
theorem d_Bd_run_62 : decode mm_Bd_run.2.1 62 = .ok (.land, 1) := by decide +kernel
theorem d_Bd_run_63 : decode mm_Bd_run.2.1 63 = .ok (.lconst 0, 1) := by decide +kernel
theorem d_Bd_run_64 : decode mm_Bd_run.2.1 64 = .ok (.lcmp, 1) := by decide +kernel
theorem d_Bd_run_65 : decode mm_Bd_run.2.1 65 = .ok (.ifCond .eq 65, 3) := by decide +kernel
theorem d_Bd_run_68 : decode mm_Bd_run.2.1 68 = .ok (.aload_n 1, 1) := by decide +kernel
theorem d_Bd_run_69 : decode mm_Bd_run.2.1 69 = .ok (.getfield 40, 3) := by decide +kernel
theorem d_Bd_run_72 : decode mm_Bd_run.2.1 72 = .ok (.iload 11, 2) := by decide +kernel
theorem d_Bd_run_74 : decode mm_Bd_run.2.1 74 = .ok (.laload, 1) := by decide +kernel
theorem d_Bd_run_75 : decode mm_Bd_run.2.1 75 = .ok (.lload 6, 2) := by decide +kernel
theorem d_Bd_run_77 : decode mm_Bd_run.2.1 77 = .ok (.ldc2_w 38, 3) := by decide +kernel
theorem d_Bd_run_80 : decode mm_Bd_run.2.1 80 = .ok (.lxor, 1) := by decide +kernel
theorem d_Bd_run_81 : decode mm_Bd_run.2.1 81 = .ok (.land, 1) := by decide +kernel
theorem d_Bd_run_82 : decode mm_Bd_run.2.1 82 = .ok (.lconst 0, 1) := by decide +kernel
theorem d_Bd_run_83 : decode mm_Bd_run.2.1 83 = .ok (.lcmp, 1) := by decide +kernel
theorem d_Bd_run_84 : decode mm_Bd_run.2.1 84 = .ok (.ifCond .eq 6, 3) := by decide +kernel
theorem d_Bd_run_87 : decode mm_Bd_run.2.1 87 = .ok (.goto 43, 3) := by decide +kernel
theorem d_Bd_run_90 : decode mm_Bd_run.2.1 90 = .ok (.lload 6, 2) := by decide +kernel
theorem d_Bd_run_92 : decode mm_Bd_run.2.1 92 = .ok (.lload 12, 2) := by decide +kernel
theorem d_Bd_run_94 : decode mm_Bd_run.2.1 94 = .ok (.lor, 1) := by decide +kernel
theorem d_Bd_run_95 : decode mm_Bd_run.2.1 95 = .ok (.lstore 6, 2) := by decide +kernel
theorem d_Bd_run_97 : decode mm_Bd_run.2.1 97 = .ok (.aload_n 1, 1) := by decide +kernel
theorem d_Bd_run_98 : decode mm_Bd_run.2.1 98 = .ok (.aload_n 1, 1) := by decide +kernel
theorem d_Bd_run_99 : decode mm_Bd_run.2.1 99 = .ok (.getfield 43, 3) := by decide +kernel
theorem d_Bd_run_102 : decode mm_Bd_run.2.1 102 = .ok (.iload 11, 2) := by decide +kernel
theorem d_Bd_run_104 : decode mm_Bd_run.2.1 104 = .ok (.aaload, 1) := by decide +kernel
theorem d_Bd_run_105 : decode mm_Bd_run.2.1 105 = .ok (.invokevirtual 47, 3) := by decide +kernel
theorem d_Bd_run_108 : decode mm_Bd_run.2.1 108 = .ok (.ifCond .eq 22, 3) := by decide +kernel
theorem d_Bd_run_111 : decode mm_Bd_run.2.1 111 = .ok (.aload_n 0, 1) := by decide +kernel
theorem d_Bd_run_112 : decode mm_Bd_run.2.1 112 = .ok (.aload_n 1, 1) := by decide +kernel
theorem d_Bd_run_113 : decode mm_Bd_run.2.1 113 = .ok (.aload_n 1, 1) := by decide +kernel
theorem d_Bd_run_114 : decode mm_Bd_run.2.1 114 = .ok (.getfield 43, 3) := by decide +kernel
theorem d_Bd_run_117 : decode mm_Bd_run.2.1 117 = .ok (.iload 11, 2) := by decide +kernel
theorem d_Bd_run_119 : decode mm_Bd_run.2.1 119 = .ok (.aaload, 1) := by decide +kernel
theorem d_Bd_run_120 : decode mm_Bd_run.2.1 120 = .ok (.invokevirtual 51, 3) := by decide +kernel
theorem d_Bd_run_123 : decode mm_Bd_run.2.1 123 = .ok (.lload 8, 2) := by decide +kernel
theorem d_Bd_run_125 : decode mm_Bd_run.2.1 125 = .ok (.lload 12, 2) := by decide +kernel
theorem d_Bd_run_127 : decode mm_Bd_run.2.1 127 = .ok (.lor, 1) := by decide +kernel
theorem d_Bd_run_128 : decode mm_Bd_run.2.1 128 = .ok (.lstore 8, 2) := by decide +kernel
theorem d_Bd_run_130 : decode mm_Bd_run.2.1 130 = .ok (.iinc 11 1, 3) := by decide +kernel
theorem d_Bd_run_133 : decode mm_Bd_run.2.1 133 = .ok (.goto (-97), 3) := by decide +kernel
theorem d_Bd_run_136 : decode mm_Bd_run.2.1 136 = .ok (.iinc 10 1, 3) := by decide +kernel
theorem d_Bd_run_139 : decode mm_Bd_run.2.1 139 = .ok (.goto (-123), 3) := by decide +kernel
theorem d_Bd_run_142 : decode mm_Bd_run.2.1 142 = .ok (.aload_n 0, 1) := by decide +kernel
theorem d_Bd_run_143 : decode mm_Bd_run.2.1 143 = .ok (.aload_n 1, 1) := by decide +kernel
theorem d_Bd_run_144 : decode mm_Bd_run.2.1 144 = .ok (.lload 8, 2) := by decide +kernel
theorem d_Bd_run_146 : decode mm_Bd_run.2.1 146 = .ok (.invokevirtual 55, 3) := by decide +kernel
theorem d_Bd_run_149 : decode mm_Bd_run.2.1 149 = .ok (.aload_n 0, 1) := by decide +kernel
theorem d_Bd_run_150 : decode mm_Bd_run.2.1 150 = .ok (.getfield 22, 3) := by decide +kernel
theorem d_Bd_run_153 : decode mm_Bd_run.2.1 153 = .ok (.ireturn, 1) := by decide +kernel
theorem d_Cs_withGround_0 : decode mm_Cs_withGround.2.1 0 = .ok (.lload_n 1, 1) := by decide +kernel
theorem d_Cs_withGround_1 : decode mm_Cs_withGround.2.1 1 = .ok (.lstore_n 3, 1) := by decide +kernel
theorem d_Cs_withGround_2 : decode mm_Cs_withGround.2.1 2 = .ok (.lconst 0, 1) := by decide +kernel
theorem d_Cs_withGround_3 : decode mm_Cs_withGround.2.1 3 = .ok (.lstore 5, 2) := by decide +kernel
theorem d_Cs_withGround_5 : decode mm_Cs_withGround.2.1 5 = .ok (.aload_n 0, 1) := by decide +kernel
theorem d_Cs_withGround_6 : decode mm_Cs_withGround.2.1 6 = .ok (.invokevirtual 89, 3) := by decide +kernel
theorem d_Cs_withGround_9 : decode mm_Cs_withGround.2.1 9 = .ok (.iconst 0, 1) := by decide +kernel
theorem d_Cs_withGround_10 : decode mm_Cs_withGround.2.1 10 = .ok (.istore 7, 2) := by decide +kernel
theorem d_Cs_withGround_12 : decode mm_Cs_withGround.2.1 12 = .ok (.iload 7, 2) := by decide +kernel
theorem d_Cs_withGround_14 : decode mm_Cs_withGround.2.1 14 = .ok (.aload_n 0, 1) := by decide +kernel
theorem d_Cs_withGround_15 : decode mm_Cs_withGround.2.1 15 = .ok (.getfield 17, 3) := by decide +kernel
theorem d_Cs_withGround_18 : decode mm_Cs_withGround.2.1 18 = .ok (.if_icmp .ge 58, 3) := by decide +kernel
theorem d_Cs_withGround_21 : decode mm_Cs_withGround.2.1 21 = .ok (.lload_n 3, 1) := by decide +kernel
theorem d_Cs_withGround_22 : decode mm_Cs_withGround.2.1 22 = .ok (.lload 5, 2) := by decide +kernel
theorem d_Cs_withGround_24 : decode mm_Cs_withGround.2.1 24 = .ok (.lcmp, 1) := by decide +kernel
theorem d_Cs_withGround_25 : decode mm_Cs_withGround.2.1 25 = .ok (.ifCond .eq 51, 3) := by decide +kernel
theorem d_Cs_withGround_28 : decode mm_Cs_withGround.2.1 28 = .ok (.lload_n 3, 1) := by decide +kernel
theorem d_Cs_withGround_29 : decode mm_Cs_withGround.2.1 29 = .ok (.lstore 5, 2) := by decide +kernel
theorem d_Cs_withGround_31 : decode mm_Cs_withGround.2.1 31 = .ok (.iconst 0, 1) := by decide +kernel
theorem d_Cs_withGround_32 : decode mm_Cs_withGround.2.1 32 = .ok (.istore 8, 2) := by decide +kernel
theorem d_Cs_withGround_34 : decode mm_Cs_withGround.2.1 34 = .ok (.iload 8, 2) := by decide +kernel
theorem d_Cs_withGround_36 : decode mm_Cs_withGround.2.1 36 = .ok (.aload_n 0, 1) := by decide +kernel
theorem d_Cs_withGround_37 : decode mm_Cs_withGround.2.1 37 = .ok (.getfield 17, 3) := by decide +kernel
theorem d_Cs_withGround_40 : decode mm_Cs_withGround.2.1 40 = .ok (.if_icmp .ge 30, 3) := by decide +kernel
theorem d_Cs_withGround_43 : decode mm_Cs_withGround.2.1 43 = .ok (.lload_n 3, 1) := by decide +kernel
theorem d_Cs_withGround_44 : decode mm_Cs_withGround.2.1 44 = .ok (.lconst 1, 1) := by decide +kernel
theorem d_Cs_withGround_45 : decode mm_Cs_withGround.2.1 45 = .ok (.iload 8, 2) := by decide +kernel
theorem d_Cs_withGround_47 : decode mm_Cs_withGround.2.1 47 = .ok (.lshl, 1) := by decide +kernel
theorem d_Cs_withGround_48 : decode mm_Cs_withGround.2.1 48 = .ok (.land, 1) := by decide +kernel
theorem d_Cs_withGround_49 : decode mm_Cs_withGround.2.1 49 = .ok (.lconst 0, 1) := by decide +kernel
theorem d_Cs_withGround_50 : decode mm_Cs_withGround.2.1 50 = .ok (.lcmp, 1) := by decide +kernel
theorem d_Cs_withGround_51 : decode mm_Cs_withGround.2.1 51 = .ok (.ifCond .eq 13, 3) := by decide +kernel
theorem d_Cs_withGround_54 : decode mm_Cs_withGround.2.1 54 = .ok (.lload_n 3, 1) := by decide +kernel
theorem d_Cs_withGround_55 : decode mm_Cs_withGround.2.1 55 = .ok (.aload_n 0, 1) := by decide +kernel
theorem d_Cs_withGround_56 : decode mm_Cs_withGround.2.1 56 = .ok (.getfield 21, 3) := by decide +kernel
theorem d_Cs_withGround_59 : decode mm_Cs_withGround.2.1 59 = .ok (.iload 8, 2) := by decide +kernel
theorem d_Cs_withGround_61 : decode mm_Cs_withGround.2.1 61 = .ok (.laload, 1) := by decide +kernel
theorem d_Cs_withGround_62 : decode mm_Cs_withGround.2.1 62 = .ok (.lor, 1) := by decide +kernel
theorem d_Cs_withGround_63 : decode mm_Cs_withGround.2.1 63 = .ok (.lstore_n 3, 1) := by decide +kernel
theorem d_Cs_withGround_64 : decode mm_Cs_withGround.2.1 64 = .ok (.iinc 8 1, 3) := by decide +kernel
theorem d_Cs_withGround_67 : decode mm_Cs_withGround.2.1 67 = .ok (.goto (-33), 3) := by decide +kernel
theorem d_Cs_withGround_70 : decode mm_Cs_withGround.2.1 70 = .ok (.iinc 7 1, 3) := by decide +kernel
theorem d_Cs_withGround_73 : decode mm_Cs_withGround.2.1 73 = .ok (.goto (-61), 3) := by decide +kernel
theorem d_Cs_withGround_76 : decode mm_Cs_withGround.2.1 76 = .ok (.lload_n 3, 1) := by decide +kernel
theorem d_Cs_withGround_77 : decode mm_Cs_withGround.2.1 77 = .ok (.lreturn, 1) := by decide +kernel
theorem d_Cs_isStale_0 : decode mm_Cs_isStale.2.1 0 = .ok (.aload_n 1, 1) := by decide +kernel
theorem d_Cs_isStale_1 : decode mm_Cs_isStale.2.1 1 = .ok (.getfield 42, 3) := by decide +kernel
theorem d_Cs_isStale_4 : decode mm_Cs_isStale.2.1 4 = .ok (.ifCond .ne 5, 3) := by decide +kernel
theorem d_Cs_isStale_7 : decode mm_Cs_isStale.2.1 7 = .ok (.iconst 1, 1) := by decide +kernel
theorem d_Cs_isStale_8 : decode mm_Cs_isStale.2.1 8 = .ok (.ireturn, 1) := by decide +kernel
theorem d_Cs_isStale_9 : decode mm_Cs_isStale.2.1 9 = .ok (.aload_n 1, 1) := by decide +kernel
theorem d_Cs_isStale_10 : decode mm_Cs_isStale.2.1 10 = .ok (.getfield 46, 3) := by decide +kernel
theorem d_Cs_isStale_13 : decode mm_Cs_isStale.2.1 13 = .ok (.astore_n 2, 1) := by decide +kernel
theorem d_Cs_isStale_14 : decode mm_Cs_isStale.2.1 14 = .ok (.iconst 0, 1) := by decide +kernel
theorem d_Cs_isStale_15 : decode mm_Cs_isStale.2.1 15 = .ok (.istore_n 3, 1) := by decide +kernel
theorem d_Cs_isStale_16 : decode mm_Cs_isStale.2.1 16 = .ok (.iload_n 3, 1) := by decide +kernel
theorem d_Cs_isStale_17 : decode mm_Cs_isStale.2.1 17 = .ok (.aload_n 2, 1) := by decide +kernel
theorem d_Cs_isStale_18 : decode mm_Cs_isStale.2.1 18 = .ok (.getfield 50, 3) := by decide +kernel
theorem d_Cs_isStale_21 : decode mm_Cs_isStale.2.1 21 = .ok (.if_icmp .ge 54, 3) := by decide +kernel
theorem d_Cs_isStale_24 : decode mm_Cs_isStale.2.1 24 = .ok (.aload_n 0, 1) := by decide +kernel
theorem d_Cs_isStale_25 : decode mm_Cs_isStale.2.1 25 = .ok (.aload_n 2, 1) := by decide +kernel
theorem d_Cs_isStale_26 : decode mm_Cs_isStale.2.1 26 = .ok (.getfield 55, 3) := by decide +kernel
theorem d_Cs_isStale_29 : decode mm_Cs_isStale.2.1 29 = .ok (.iload_n 3, 1) := by decide +kernel
theorem d_Cs_isStale_30 : decode mm_Cs_isStale.2.1 30 = .ok (.laload, 1) := by decide +kernel
theorem d_Cs_isStale_31 : decode mm_Cs_isStale.2.1 31 = .ok (.invokevirtual 58, 3) := by decide +kernel
theorem d_Cs_isStale_34 : decode mm_Cs_isStale.2.1 34 = .ok (.astore 4, 2) := by decide +kernel
theorem d_Cs_isStale_36 : decode mm_Cs_isStale.2.1 36 = .ok (.aload_n 2, 1) := by decide +kernel
theorem d_Cs_isStale_37 : decode mm_Cs_isStale.2.1 37 = .ok (.getfield 62, 3) := by decide +kernel
theorem d_Cs_isStale_40 : decode mm_Cs_isStale.2.1 40 = .ok (.iload_n 3, 1) := by decide +kernel
theorem d_Cs_isStale_41 : decode mm_Cs_isStale.2.1 41 = .ok (.iaload, 1) := by decide +kernel
theorem d_Cs_isStale_42 : decode mm_Cs_isStale.2.1 42 = .ok (.aload_n 0, 1) := by decide +kernel
theorem d_Cs_isStale_43 : decode mm_Cs_isStale.2.1 43 = .ok (.aload 4, 2) := by decide +kernel
theorem d_Cs_isStale_45 : decode mm_Cs_isStale.2.1 45 = .ok (.invokevirtual 66, 3) := by decide +kernel
theorem d_Cs_isStale_48 : decode mm_Cs_isStale.2.1 48 = .ok (.if_icmp .ne 19, 3) := by decide +kernel
theorem d_Cs_isStale_51 : decode mm_Cs_isStale.2.1 51 = .ok (.aload_n 2, 1) := by decide +kernel
theorem d_Cs_isStale_52 : decode mm_Cs_isStale.2.1 52 = .ok (.getfield 70, 3) := by decide +kernel
theorem d_Cs_isStale_55 : decode mm_Cs_isStale.2.1 55 = .ok (.iload_n 3, 1) := by decide +kernel
theorem d_Cs_isStale_56 : decode mm_Cs_isStale.2.1 56 = .ok (.laload, 1) := by decide +kernel
theorem d_Cs_isStale_57 : decode mm_Cs_isStale.2.1 57 = .ok (.aload_n 0, 1) := by decide +kernel
theorem d_Cs_isStale_58 : decode mm_Cs_isStale.2.1 58 = .ok (.aload 4, 2) := by decide +kernel
theorem d_Cs_isStale_60 : decode mm_Cs_isStale.2.1 60 = .ok (.invokevirtual 73, 3) := by decide +kernel
theorem d_Cs_isStale_63 : decode mm_Cs_isStale.2.1 63 = .ok (.lcmp, 1) := by decide +kernel
theorem d_Cs_isStale_64 : decode mm_Cs_isStale.2.1 64 = .ok (.ifCond .eq 5, 3) := by decide +kernel
theorem d_Cs_isStale_67 : decode mm_Cs_isStale.2.1 67 = .ok (.iconst 1, 1) := by decide +kernel
theorem d_Cs_isStale_68 : decode mm_Cs_isStale.2.1 68 = .ok (.ireturn, 1) := by decide +kernel
theorem d_Cs_isStale_69 : decode mm_Cs_isStale.2.1 69 = .ok (.iinc 3 1, 3) := by decide +kernel
theorem d_Cs_isStale_72 : decode mm_Cs_isStale.2.1 72 = .ok (.goto (-56), 3) := by decide +kernel
theorem d_Cs_isStale_75 : decode mm_Cs_isStale.2.1 75 = .ok (.iconst 0, 1) := by decide +kernel
theorem d_Cs_isStale_76 : decode mm_Cs_isStale.2.1 76 = .ok (.ireturn, 1) := by decide +kernel
theorem d_Cs_kindOf_0 : decode mm_Cs_kindOf.2.1 0 = .ok (.aload_n 1, 1) := by decide +kernel
theorem d_Cs_kindOf_1 : decode mm_Cs_kindOf.2.1 1 = .ok (.ifnonnull 7, 3) := by decide +kernel
theorem d_Cs_kindOf_4 : decode mm_Cs_kindOf.2.1 4 = .ok (.iconst 0, 1) := by decide +kernel
theorem d_Cs_kindOf_5 : decode mm_Cs_kindOf.2.1 5 = .ok (.goto 7, 3) := by decide +kernel
theorem d_Cs_kindOf_8 : decode mm_Cs_kindOf.2.1 8 = .ok (.aload_n 1, 1) := by decide +kernel
theorem d_Cs_kindOf_9 : decode mm_Cs_kindOf.2.1 9 = .ok (.getfield 36, 3) := by decide +kernel
theorem d_Cs_kindOf_12 : decode mm_Cs_kindOf.2.1 12 = .ok (.ireturn, 1) := by decide +kernel
theorem d_Cs_valueOf_0 : decode mm_Cs_valueOf.2.1 0 = .ok (.aload_n 1, 1) := by decide +kernel
theorem d_Cs_valueOf_1 : decode mm_Cs_valueOf.2.1 1 = .ok (.ifnonnull 7, 3) := by decide +kernel
theorem d_Cs_valueOf_4 : decode mm_Cs_valueOf.2.1 4 = .ok (.lconst 0, 1) := by decide +kernel
theorem d_Cs_valueOf_5 : decode mm_Cs_valueOf.2.1 5 = .ok (.goto 7, 3) := by decide +kernel
theorem d_Cs_valueOf_8 : decode mm_Cs_valueOf.2.1 8 = .ok (.aload_n 1, 1) := by decide +kernel
theorem d_Cs_valueOf_9 : decode mm_Cs_valueOf.2.1 9 = .ok (.getfield 39, 3) := by decide +kernel
theorem d_Cs_valueOf_12 : decode mm_Cs_valueOf.2.1 12 = .ok (.lreturn, 1) := by decide +kernel
theorem d_Bd_workOut_0 : decode mm_Bd_workOut.2.1 0 = .ok (.aload_n 1, 1) := by decide +kernel
theorem d_Bd_workOut_1 : decode mm_Bd_workOut.2.1 1 = .ok (.aload_n 2, 1) := by decide +kernel
theorem d_Bd_workOut_2 : decode mm_Bd_workOut.2.1 2 = .ok (.getfield 59, 3) := by decide +kernel
theorem d_Bd_workOut_5 : decode mm_Bd_workOut.2.1 5 = .ok (.invokevirtual 65, 3) := by decide +kernel
theorem d_Bd_workOut_8 : decode mm_Bd_workOut.2.1 8 = .ok (.aload_n 0, 1) := by decide +kernel
theorem d_Bd_workOut_9 : decode mm_Bd_workOut.2.1 9 = .ok (.getfield 12, 3) := by decide +kernel
theorem d_Bd_workOut_12 : decode mm_Bd_workOut.2.1 12 = .ok (.aload_n 2, 1) := by decide +kernel
theorem d_Bd_workOut_13 : decode mm_Bd_workOut.2.1 13 = .ok (.getfield 59, 3) := by decide +kernel
theorem d_Bd_workOut_16 : decode mm_Bd_workOut.2.1 16 = .ok (.invokevirtual 69, 3) := by decide +kernel
theorem d_Bd_workOut_19 : decode mm_Bd_workOut.2.1 19 = .ok (.aload_n 2, 1) := by decide +kernel
theorem d_Bd_workOut_20 : decode mm_Bd_workOut.2.1 20 = .ok (.aload_n 0, 1) := by decide +kernel
theorem d_Bd_workOut_21 : decode mm_Bd_workOut.2.1 21 = .ok (.getfield 12, 3) := by decide +kernel
theorem d_Bd_workOut_24 : decode mm_Bd_workOut.2.1 24 = .ok (.getfield 72, 3) := by decide +kernel
theorem d_Bd_workOut_27 : decode mm_Bd_workOut.2.1 27 = .ok (.putfield 75, 3) := by decide +kernel
theorem d_Bd_workOut_30 : decode mm_Bd_workOut.2.1 30 = .ok (.aload_n 2, 1) := by decide +kernel
theorem d_Bd_workOut_31 : decode mm_Bd_workOut.2.1 31 = .ok (.aload_n 0, 1) := by decide +kernel
theorem d_Bd_workOut_32 : decode mm_Bd_workOut.2.1 32 = .ok (.getfield 12, 3) := by decide +kernel
theorem d_Bd_workOut_35 : decode mm_Bd_workOut.2.1 35 = .ok (.getfield 76, 3) := by decide +kernel
theorem d_Bd_workOut_38 : decode mm_Bd_workOut.2.1 38 = .ok (.putfield 80, 3) := by decide +kernel
theorem d_Bd_workOut_41 : decode mm_Bd_workOut.2.1 41 = .ok (.aload_n 2, 1) := by decide +kernel
theorem d_Bd_workOut_42 : decode mm_Bd_workOut.2.1 42 = .ok (.iconst 1, 1) := by decide +kernel
theorem d_Bd_workOut_43 : decode mm_Bd_workOut.2.1 43 = .ok (.putfield 81, 3) := by decide +kernel
theorem d_Bd_workOut_46 : decode mm_Bd_workOut.2.1 46 = .ok (.return_, 1) := by decide +kernel
theorem d_Cs_look_0 : decode mm_Cs_look.2.1 0 = .ok (.iconst 0, 1) := by decide +kernel
theorem d_Cs_look_1 : decode mm_Cs_look.2.1 1 = .ok (.istore_n 2, 1) := by decide +kernel
theorem d_Cs_look_2 : decode mm_Cs_look.2.1 2 = .ok (.iload_n 2, 1) := by decide +kernel
theorem d_Cs_look_3 : decode mm_Cs_look.2.1 3 = .ok (.aload_n 1, 1) := by decide +kernel
theorem d_Cs_look_4 : decode mm_Cs_look.2.1 4 = .ok (.getfield 50, 3) := by decide +kernel
theorem d_Cs_look_7 : decode mm_Cs_look.2.1 7 = .ok (.if_icmp .ge 42, 3) := by decide +kernel
theorem d_Cs_look_10 : decode mm_Cs_look.2.1 10 = .ok (.aload_n 0, 1) := by decide +kernel
theorem d_Cs_look_11 : decode mm_Cs_look.2.1 11 = .ok (.aload_n 1, 1) := by decide +kernel
theorem d_Cs_look_12 : decode mm_Cs_look.2.1 12 = .ok (.getfield 55, 3) := by decide +kernel
theorem d_Cs_look_15 : decode mm_Cs_look.2.1 15 = .ok (.iload_n 2, 1) := by decide +kernel
theorem d_Cs_look_16 : decode mm_Cs_look.2.1 16 = .ok (.laload, 1) := by decide +kernel
theorem d_Cs_look_17 : decode mm_Cs_look.2.1 17 = .ok (.invokevirtual 58, 3) := by decide +kernel
theorem d_Cs_look_20 : decode mm_Cs_look.2.1 20 = .ok (.astore_n 3, 1) := by decide +kernel
theorem d_Cs_look_21 : decode mm_Cs_look.2.1 21 = .ok (.aload_n 1, 1) := by decide +kernel
theorem d_Cs_look_22 : decode mm_Cs_look.2.1 22 = .ok (.getfield 62, 3) := by decide +kernel
theorem d_Cs_look_25 : decode mm_Cs_look.2.1 25 = .ok (.iload_n 2, 1) := by decide +kernel
theorem d_Cs_look_26 : decode mm_Cs_look.2.1 26 = .ok (.aload_n 0, 1) := by decide +kernel
theorem d_Cs_look_27 : decode mm_Cs_look.2.1 27 = .ok (.aload_n 3, 1) := by decide +kernel
theorem d_Cs_look_28 : decode mm_Cs_look.2.1 28 = .ok (.invokevirtual 66, 3) := by decide +kernel
theorem d_Cs_look_31 : decode mm_Cs_look.2.1 31 = .ok (.iastore, 1) := by decide +kernel
theorem d_Cs_look_32 : decode mm_Cs_look.2.1 32 = .ok (.aload_n 1, 1) := by decide +kernel
theorem d_Cs_look_33 : decode mm_Cs_look.2.1 33 = .ok (.getfield 70, 3) := by decide +kernel
theorem d_Cs_look_36 : decode mm_Cs_look.2.1 36 = .ok (.iload_n 2, 1) := by decide +kernel
theorem d_Cs_look_37 : decode mm_Cs_look.2.1 37 = .ok (.aload_n 0, 1) := by decide +kernel
theorem d_Cs_look_38 : decode mm_Cs_look.2.1 38 = .ok (.aload_n 3, 1) := by decide +kernel
theorem d_Cs_look_39 : decode mm_Cs_look.2.1 39 = .ok (.invokevirtual 73, 3) := by decide +kernel
theorem d_Cs_look_42 : decode mm_Cs_look.2.1 42 = .ok (.lastore, 1) := by decide +kernel
theorem d_Cs_look_43 : decode mm_Cs_look.2.1 43 = .ok (.iinc 2 1, 3) := by decide +kernel
theorem d_Cs_look_46 : decode mm_Cs_look.2.1 46 = .ok (.goto (-44), 3) := by decide +kernel
theorem d_Cs_look_49 : decode mm_Cs_look.2.1 49 = .ok (.return_, 1) := by decide +kernel
theorem d_Wk_run_0 : decode mm_Wk_run.2.1 0 = .ok (.aload_n 0, 1) := by decide +kernel
theorem d_Wk_run_1 : decode mm_Wk_run.2.1 1 = .ok (.iconst 0, 1) := by decide +kernel
theorem d_Wk_run_2 : decode mm_Wk_run.2.1 2 = .ok (.putfield 15, 3) := by decide +kernel
theorem d_Wk_run_5 : decode mm_Wk_run.2.1 5 = .ok (.aload_n 0, 1) := by decide +kernel
theorem d_Wk_run_6 : decode mm_Wk_run.2.1 6 = .ok (.iconst 1, 1) := by decide +kernel
theorem d_Wk_run_7 : decode mm_Wk_run.2.1 7 = .ok (.putfield 19, 3) := by decide +kernel
theorem d_Wk_run_10 : decode mm_Wk_run.2.1 10 = .ok (.iconst 0, 1) := by decide +kernel
theorem d_Wk_run_11 : decode mm_Wk_run.2.1 11 = .ok (.istore_n 2, 1) := by decide +kernel
theorem d_Wk_run_12 : decode mm_Wk_run.2.1 12 = .ok (.iconst 0, 1) := by decide +kernel
theorem d_Wk_run_13 : decode mm_Wk_run.2.1 13 = .ok (.istore_n 3, 1) := by decide +kernel
theorem d_Wk_run_14 : decode mm_Wk_run.2.1 14 = .ok (.iload_n 3, 1) := by decide +kernel
theorem d_Wk_run_15 : decode mm_Wk_run.2.1 15 = .ok (.aload_n 1, 1) := by decide +kernel
theorem d_Wk_run_16 : decode mm_Wk_run.2.1 16 = .ok (.getfield 26, 3) := by decide +kernel
theorem d_Wk_run_19 : decode mm_Wk_run.2.1 19 = .ok (.if_icmp .ge 43, 3) := by decide +kernel
theorem d_Wk_run_22 : decode mm_Wk_run.2.1 22 = .ok (.aload_n 0, 1) := by decide +kernel
theorem d_Wk_run_23 : decode mm_Wk_run.2.1 23 = .ok (.getfield 19, 3) := by decide +kernel
theorem d_Wk_run_26 : decode mm_Wk_run.2.1 26 = .ok (.iconst 1, 1) := by decide +kernel
theorem d_Wk_run_27 : decode mm_Wk_run.2.1 27 = .ok (.if_icmp .ne 35, 3) := by decide +kernel
theorem d_Wk_run_30 : decode mm_Wk_run.2.1 30 = .ok (.iload_n 3, 1) := by decide +kernel
theorem d_Wk_run_31 : decode mm_Wk_run.2.1 31 = .ok (.iload_n 2, 1) := by decide +kernel
theorem d_Wk_run_32 : decode mm_Wk_run.2.1 32 = .ok (.if_icmp .lt 24, 3) := by decide +kernel
theorem d_Wk_run_35 : decode mm_Wk_run.2.1 35 = .ok (.aload_n 0, 1) := by decide +kernel
theorem d_Wk_run_36 : decode mm_Wk_run.2.1 36 = .ok (.aload_n 1, 1) := by decide +kernel
theorem d_Wk_run_37 : decode mm_Wk_run.2.1 37 = .ok (.aload_n 1, 1) := by decide +kernel
theorem d_Wk_run_38 : decode mm_Wk_run.2.1 38 = .ok (.getfield 31, 3) := by decide +kernel
theorem d_Wk_run_41 : decode mm_Wk_run.2.1 41 = .ok (.iload_n 3, 1) := by decide +kernel
theorem d_Wk_run_42 : decode mm_Wk_run.2.1 42 = .ok (.iaload, 1) := by decide +kernel
theorem d_Wk_run_43 : decode mm_Wk_run.2.1 43 = .ok (.aload_n 1, 1) := by decide +kernel
theorem d_Wk_run_44 : decode mm_Wk_run.2.1 44 = .ok (.getfield 35, 3) := by decide +kernel
theorem d_Wk_run_47 : decode mm_Wk_run.2.1 47 = .ok (.iload_n 3, 1) := by decide +kernel
theorem d_Wk_run_48 : decode mm_Wk_run.2.1 48 = .ok (.iaload, 1) := by decide +kernel
theorem d_Wk_run_49 : decode mm_Wk_run.2.1 49 = .ok (.iload_n 3, 1) := by decide +kernel
theorem d_Wk_run_50 : decode mm_Wk_run.2.1 50 = .ok (.iconst 1, 1) := by decide +kernel
theorem d_Wk_run_51 : decode mm_Wk_run.2.1 51 = .ok (.iadd, 1) := by decide +kernel
theorem d_Wk_run_52 : decode mm_Wk_run.2.1 52 = .ok (.invokevirtual 38, 3) := by decide +kernel
theorem d_Wk_run_55 : decode mm_Wk_run.2.1 55 = .ok (.istore_n 2, 1) := by decide +kernel
theorem d_Wk_run_56 : decode mm_Wk_run.2.1 56 = .ok (.iinc 3 1, 3) := by decide +kernel
theorem d_Wk_run_59 : decode mm_Wk_run.2.1 59 = .ok (.goto (-45), 3) := by decide +kernel
theorem d_Wk_run_62 : decode mm_Wk_run.2.1 62 = .ok (.aload_n 0, 1) := by decide +kernel
theorem d_Wk_run_63 : decode mm_Wk_run.2.1 63 = .ok (.aload_n 0, 1) := by decide +kernel
theorem d_Wk_run_64 : decode mm_Wk_run.2.1 64 = .ok (.getfield 19, 3) := by decide +kernel
theorem d_Wk_run_67 : decode mm_Wk_run.2.1 67 = .ok (.iconst 1, 1) := by decide +kernel
theorem d_Wk_run_68 : decode mm_Wk_run.2.1 68 = .ok (.if_icmp .ne 10, 3) := by decide +kernel
theorem d_Wk_run_71 : decode mm_Wk_run.2.1 71 = .ok (.aload_n 0, 1) := by decide +kernel
theorem d_Wk_run_72 : decode mm_Wk_run.2.1 72 = .ok (.invokevirtual 42, 3) := by decide +kernel
theorem d_Wk_run_75 : decode mm_Wk_run.2.1 75 = .ok (.goto 4, 3) := by decide +kernel
theorem d_Wk_run_78 : decode mm_Wk_run.2.1 78 = .ok (.lconst 0, 1) := by decide +kernel
theorem d_Wk_run_79 : decode mm_Wk_run.2.1 79 = .ok (.putfield 22, 3) := by decide +kernel
theorem d_Wk_run_82 : decode mm_Wk_run.2.1 82 = .ok (.return_, 1) := by decide +kernel
theorem d_Wk_take_0 : decode mm_Wk_take.2.1 0 = .ok (.iload_n 2, 1) := by decide +kernel
theorem d_Wk_take_1 : decode mm_Wk_take.2.1 1 = .ok (.tableswitch 95 2 9 #[56, 47, 95, 95, 95, 65, 77, 93], 47) := by decide +kernel
theorem d_Wk_take_48 : decode mm_Wk_take.2.1 48 = .ok (.aload_n 0, 1) := by decide +kernel
theorem d_Wk_take_49 : decode mm_Wk_take.2.1 49 = .ok (.iload_n 3, 1) := by decide +kernel
theorem d_Wk_take_50 : decode mm_Wk_take.2.1 50 = .ok (.i2l, 1) := by decide +kernel
theorem d_Wk_take_51 : decode mm_Wk_take.2.1 51 = .ok (.invokevirtual 46, 3) := by decide +kernel
theorem d_Wk_take_54 : decode mm_Wk_take.2.1 54 = .ok (.iload 4, 2) := by decide +kernel
theorem d_Wk_take_56 : decode mm_Wk_take.2.1 56 = .ok (.ireturn, 1) := by decide +kernel
theorem d_Wk_take_57 : decode mm_Wk_take.2.1 57 = .ok (.aload_n 0, 1) := by decide +kernel
theorem d_Wk_take_58 : decode mm_Wk_take.2.1 58 = .ok (.aload_n 1, 1) := by decide +kernel
theorem d_Wk_take_59 : decode mm_Wk_take.2.1 59 = .ok (.iload_n 3, 1) := by decide +kernel
theorem d_Wk_take_60 : decode mm_Wk_take.2.1 60 = .ok (.invokevirtual 50, 3) := by decide +kernel
theorem d_Wk_take_63 : decode mm_Wk_take.2.1 63 = .ok (.iload 4, 2) := by decide +kernel
theorem d_Wk_take_65 : decode mm_Wk_take.2.1 65 = .ok (.ireturn, 1) := by decide +kernel
theorem d_Wk_take_66 : decode mm_Wk_take.2.1 66 = .ok (.aload_n 0, 1) := by decide +kernel
theorem d_Wk_take_67 : decode mm_Wk_take.2.1 67 = .ok (.aload_n 0, 1) := by decide +kernel
theorem d_Wk_take_68 : decode mm_Wk_take.2.1 68 = .ok (.invokevirtual 42, 3) := by decide +kernel
theorem d_Wk_take_71 : decode mm_Wk_take.2.1 71 = .ok (.lneg, 1) := by decide +kernel
theorem d_Wk_take_72 : decode mm_Wk_take.2.1 72 = .ok (.invokevirtual 46, 3) := by decide +kernel
theorem d_Wk_take_75 : decode mm_Wk_take.2.1 75 = .ok (.iload 4, 2) := by decide +kernel
theorem d_Wk_take_77 : decode mm_Wk_take.2.1 77 = .ok (.ireturn, 1) := by decide +kernel
theorem d_Wk_take_78 : decode mm_Wk_take.2.1 78 = .ok (.aload_n 0, 1) := by decide +kernel
theorem d_Wk_take_79 : decode mm_Wk_take.2.1 79 = .ok (.invokevirtual 42, 3) := by decide +kernel
theorem d_Wk_take_82 : decode mm_Wk_take.2.1 82 = .ok (.lconst 0, 1) := by decide +kernel
theorem d_Wk_take_83 : decode mm_Wk_take.2.1 83 = .ok (.lcmp, 1) := by decide +kernel
theorem d_Wk_take_84 : decode mm_Wk_take.2.1 84 = .ok (.ifCond .le 8, 3) := by decide +kernel
theorem d_Wk_take_87 : decode mm_Wk_take.2.1 87 = .ok (.iload 4, 2) := by decide +kernel
theorem d_Wk_take_89 : decode mm_Wk_take.2.1 89 = .ok (.goto 4, 3) := by decide +kernel
theorem d_Wk_take_92 : decode mm_Wk_take.2.1 92 = .ok (.iload_n 3, 1) := by decide +kernel
theorem d_Wk_take_93 : decode mm_Wk_take.2.1 93 = .ok (.ireturn, 1) := by decide +kernel
theorem d_Wk_take_94 : decode mm_Wk_take.2.1 94 = .ok (.iload_n 3, 1) := by decide +kernel
theorem d_Wk_take_95 : decode mm_Wk_take.2.1 95 = .ok (.ireturn, 1) := by decide +kernel
theorem d_Wk_take_96 : decode mm_Wk_take.2.1 96 = .ok (.aload_n 0, 1) := by decide +kernel
theorem d_Wk_take_97 : decode mm_Wk_take.2.1 97 = .ok (.invokevirtual 42, 3) := by decide +kernel
theorem d_Wk_take_100 : decode mm_Wk_take.2.1 100 = .ok (.lstore 5, 2) := by decide +kernel
theorem d_Wk_take_102 : decode mm_Wk_take.2.1 102 = .ok (.aload_n 0, 1) := by decide +kernel
theorem d_Wk_take_103 : decode mm_Wk_take.2.1 103 = .ok (.invokevirtual 42, 3) := by decide +kernel
theorem d_Wk_take_106 : decode mm_Wk_take.2.1 106 = .ok (.lstore 7, 2) := by decide +kernel
theorem d_Wk_take_108 : decode mm_Wk_take.2.1 108 = .ok (.aload_n 0, 1) := by decide +kernel
theorem d_Wk_take_109 : decode mm_Wk_take.2.1 109 = .ok (.iload_n 2, 1) := by decide +kernel
theorem d_Wk_take_110 : decode mm_Wk_take.2.1 110 = .ok (.lload 7, 2) := by decide +kernel
theorem d_Wk_take_112 : decode mm_Wk_take.2.1 112 = .ok (.lload 5, 2) := by decide +kernel
theorem d_Wk_take_114 : decode mm_Wk_take.2.1 114 = .ok (.invokevirtual 54, 3) := by decide +kernel
theorem d_Wk_take_117 : decode mm_Wk_take.2.1 117 = .ok (.iload 4, 2) := by decide +kernel
theorem d_Wk_take_119 : decode mm_Wk_take.2.1 119 = .ok (.ireturn, 1) := by decide +kernel
theorem d_Wk_push_0 : decode mm_Wk_push.2.1 0 = .ok (.aload_n 0, 1) := by decide +kernel
theorem d_Wk_push_1 : decode mm_Wk_push.2.1 1 = .ok (.getfield 15, 3) := by decide +kernel
theorem d_Wk_push_4 : decode mm_Wk_push.2.1 4 = .ok (.ifCond .lt 35, 3) := by decide +kernel
theorem d_Wk_push_7 : decode mm_Wk_push.2.1 7 = .ok (.aload_n 0, 1) := by decide +kernel
theorem d_Wk_push_8 : decode mm_Wk_push.2.1 8 = .ok (.getfield 15, 3) := by decide +kernel
theorem d_Wk_push_11 : decode mm_Wk_push.2.1 11 = .ok (.aload_n 0, 1) := by decide +kernel
theorem d_Wk_push_12 : decode mm_Wk_push.2.1 12 = .ok (.getfield 9, 3) := by decide +kernel
theorem d_Wk_push_15 : decode mm_Wk_push.2.1 15 = .ok (.arraylength, 1) := by decide +kernel
theorem d_Wk_push_16 : decode mm_Wk_push.2.1 16 = .ok (.if_icmp .ge 23, 3) := by decide +kernel
theorem d_Wk_push_19 : decode mm_Wk_push.2.1 19 = .ok (.aload_n 0, 1) := by decide +kernel
theorem d_Wk_push_20 : decode mm_Wk_push.2.1 20 = .ok (.getfield 9, 3) := by decide +kernel
theorem d_Wk_push_23 : decode mm_Wk_push.2.1 23 = .ok (.aload_n 0, 1) := by decide +kernel
theorem d_Wk_push_24 : decode mm_Wk_push.2.1 24 = .ok (.getfield 15, 3) := by decide +kernel
theorem d_Wk_push_27 : decode mm_Wk_push.2.1 27 = .ok (.lload_n 1, 1) := by decide +kernel
theorem d_Wk_push_28 : decode mm_Wk_push.2.1 28 = .ok (.lastore, 1) := by decide +kernel
theorem d_Wk_push_29 : decode mm_Wk_push.2.1 29 = .ok (.aload_n 0, 1) := by decide +kernel
theorem d_Wk_push_30 : decode mm_Wk_push.2.1 30 = .ok (.dup, 1) := by decide +kernel
theorem d_Wk_push_31 : decode mm_Wk_push.2.1 31 = .ok (.getfield 15, 3) := by decide +kernel
theorem d_Wk_push_34 : decode mm_Wk_push.2.1 34 = .ok (.iconst 1, 1) := by decide +kernel
theorem d_Wk_push_35 : decode mm_Wk_push.2.1 35 = .ok (.iadd, 1) := by decide +kernel
theorem d_Wk_push_36 : decode mm_Wk_push.2.1 36 = .ok (.putfield 15, 3) := by decide +kernel
theorem d_Wk_push_39 : decode mm_Wk_push.2.1 39 = .ok (.return_, 1) := by decide +kernel
theorem d_Wk_pushResult_0 : decode mm_Wk_pushResult.2.1 0 = .ok (.iload_n 2, 1) := by decide +kernel
theorem d_Wk_pushResult_1 : decode mm_Wk_pushResult.2.1 1 = .ok (.ifCond .lt 21, 3) := by decide +kernel
theorem d_Wk_pushResult_4 : decode mm_Wk_pushResult.2.1 4 = .ok (.iload_n 2, 1) := by decide +kernel
theorem d_Wk_pushResult_5 : decode mm_Wk_pushResult.2.1 5 = .ok (.aload_n 1, 1) := by decide +kernel
theorem d_Wk_pushResult_6 : decode mm_Wk_pushResult.2.1 6 = .ok (.getfield 58, 3) := by decide +kernel
theorem d_Wk_pushResult_9 : decode mm_Wk_pushResult.2.1 9 = .ok (.if_icmp .ge 13, 3) := by decide +kernel
theorem d_Wk_pushResult_12 : decode mm_Wk_pushResult.2.1 12 = .ok (.aload_n 1, 1) := by decide +kernel
theorem d_Wk_pushResult_13 : decode mm_Wk_pushResult.2.1 13 = .ok (.getfield 61, 3) := by decide +kernel
theorem d_Wk_pushResult_16 : decode mm_Wk_pushResult.2.1 16 = .ok (.iload_n 2, 1) := by decide +kernel
theorem d_Wk_pushResult_17 : decode mm_Wk_pushResult.2.1 17 = .ok (.iaload, 1) := by decide +kernel
theorem d_Wk_pushResult_18 : decode mm_Wk_pushResult.2.1 18 = .ok (.iconst 1, 1) := by decide +kernel
theorem d_Wk_pushResult_19 : decode mm_Wk_pushResult.2.1 19 = .ok (.if_icmp .eq 9, 3) := by decide +kernel
theorem d_Wk_pushResult_22 : decode mm_Wk_pushResult.2.1 22 = .ok (.aload_n 0, 1) := by decide +kernel
theorem d_Wk_pushResult_23 : decode mm_Wk_pushResult.2.1 23 = .ok (.iconst 3, 1) := by decide +kernel
theorem d_Wk_pushResult_24 : decode mm_Wk_pushResult.2.1 24 = .ok (.putfield 19, 3) := by decide +kernel
theorem d_Wk_pushResult_27 : decode mm_Wk_pushResult.2.1 27 = .ok (.return_, 1) := by decide +kernel
theorem d_Wk_pushResult_28 : decode mm_Wk_pushResult.2.1 28 = .ok (.aload_n 0, 1) := by decide +kernel
theorem d_Wk_pushResult_29 : decode mm_Wk_pushResult.2.1 29 = .ok (.aload_n 1, 1) := by decide +kernel
theorem d_Wk_pushResult_30 : decode mm_Wk_pushResult.2.1 30 = .ok (.getfield 64, 3) := by decide +kernel
theorem d_Wk_pushResult_33 : decode mm_Wk_pushResult.2.1 33 = .ok (.iload_n 2, 1) := by decide +kernel
theorem d_Wk_pushResult_34 : decode mm_Wk_pushResult.2.1 34 = .ok (.laload, 1) := by decide +kernel
theorem d_Wk_pushResult_35 : decode mm_Wk_pushResult.2.1 35 = .ok (.invokevirtual 46, 3) := by decide +kernel
theorem d_Wk_pushResult_38 : decode mm_Wk_pushResult.2.1 38 = .ok (.return_, 1) := by decide +kernel
theorem d_Wk_pop_0 : decode mm_Wk_pop.2.1 0 = .ok (.aload_n 0, 1) := by decide +kernel
theorem d_Wk_pop_1 : decode mm_Wk_pop.2.1 1 = .ok (.getfield 15, 3) := by decide +kernel
theorem d_Wk_pop_4 : decode mm_Wk_pop.2.1 4 = .ok (.ifCond .le 15, 3) := by decide +kernel
theorem d_Wk_pop_7 : decode mm_Wk_pop.2.1 7 = .ok (.aload_n 0, 1) := by decide +kernel
theorem d_Wk_pop_8 : decode mm_Wk_pop.2.1 8 = .ok (.getfield 15, 3) := by decide +kernel
theorem d_Wk_pop_11 : decode mm_Wk_pop.2.1 11 = .ok (.aload_n 0, 1) := by decide +kernel
theorem d_Wk_pop_12 : decode mm_Wk_pop.2.1 12 = .ok (.getfield 9, 3) := by decide +kernel
theorem d_Wk_pop_15 : decode mm_Wk_pop.2.1 15 = .ok (.arraylength, 1) := by decide +kernel
theorem d_Wk_pop_16 : decode mm_Wk_pop.2.1 16 = .ok (.if_icmp .le 5, 3) := by decide +kernel
theorem d_Wk_pop_19 : decode mm_Wk_pop.2.1 19 = .ok (.lconst 0, 1) := by decide +kernel
theorem d_Wk_pop_20 : decode mm_Wk_pop.2.1 20 = .ok (.lreturn, 1) := by decide +kernel
theorem d_Wk_pop_21 : decode mm_Wk_pop.2.1 21 = .ok (.aload_n 0, 1) := by decide +kernel
theorem d_Wk_pop_22 : decode mm_Wk_pop.2.1 22 = .ok (.dup, 1) := by decide +kernel
theorem d_Wk_pop_23 : decode mm_Wk_pop.2.1 23 = .ok (.getfield 15, 3) := by decide +kernel
theorem d_Wk_pop_26 : decode mm_Wk_pop.2.1 26 = .ok (.iconst 1, 1) := by decide +kernel
theorem d_Wk_pop_27 : decode mm_Wk_pop.2.1 27 = .ok (.isub, 1) := by decide +kernel
theorem d_Wk_pop_28 : decode mm_Wk_pop.2.1 28 = .ok (.putfield 15, 3) := by decide +kernel
theorem d_Wk_pop_31 : decode mm_Wk_pop.2.1 31 = .ok (.aload_n 0, 1) := by decide +kernel
theorem d_Wk_pop_32 : decode mm_Wk_pop.2.1 32 = .ok (.getfield 9, 3) := by decide +kernel
theorem d_Wk_pop_35 : decode mm_Wk_pop.2.1 35 = .ok (.aload_n 0, 1) := by decide +kernel
theorem d_Wk_pop_36 : decode mm_Wk_pop.2.1 36 = .ok (.getfield 15, 3) := by decide +kernel
theorem d_Wk_pop_39 : decode mm_Wk_pop.2.1 39 = .ok (.laload, 1) := by decide +kernel
theorem d_Wk_pop_40 : decode mm_Wk_pop.2.1 40 = .ok (.lreturn, 1) := by decide +kernel
theorem d_Wk_join_0 : decode mm_Wk_join.2.1 0 = .ok (.iload_n 1, 1) := by decide +kernel
theorem d_Wk_join_1 : decode mm_Wk_join.2.1 1 = .ok (.lookupswitch 97 #[(4, 86), (42, 69), (43, 51), (45, 60), (47, 78)], 51) := by decide +kernel
theorem d_Wk_join_52 : decode mm_Wk_join.2.1 52 = .ok (.aload_n 0, 1) := by decide +kernel
theorem d_Wk_join_53 : decode mm_Wk_join.2.1 53 = .ok (.lload_n 2, 1) := by decide +kernel
theorem d_Wk_join_54 : decode mm_Wk_join.2.1 54 = .ok (.lload 4, 2) := by decide +kernel
theorem d_Wk_join_56 : decode mm_Wk_join.2.1 56 = .ok (.ladd, 1) := by decide +kernel
theorem d_Wk_join_57 : decode mm_Wk_join.2.1 57 = .ok (.invokevirtual 46, 3) := by decide +kernel
theorem d_Wk_join_60 : decode mm_Wk_join.2.1 60 = .ok (.return_, 1) := by decide +kernel
theorem d_Wk_join_61 : decode mm_Wk_join.2.1 61 = .ok (.aload_n 0, 1) := by decide +kernel
theorem d_Wk_join_62 : decode mm_Wk_join.2.1 62 = .ok (.lload_n 2, 1) := by decide +kernel
theorem d_Wk_join_63 : decode mm_Wk_join.2.1 63 = .ok (.lload 4, 2) := by decide +kernel
theorem d_Wk_join_65 : decode mm_Wk_join.2.1 65 = .ok (.lsub, 1) := by decide +kernel
theorem d_Wk_join_66 : decode mm_Wk_join.2.1 66 = .ok (.invokevirtual 46, 3) := by decide +kernel
theorem d_Wk_join_69 : decode mm_Wk_join.2.1 69 = .ok (.return_, 1) := by decide +kernel
theorem d_Wk_join_70 : decode mm_Wk_join.2.1 70 = .ok (.aload_n 0, 1) := by decide +kernel
theorem d_Wk_join_71 : decode mm_Wk_join.2.1 71 = .ok (.lload_n 2, 1) := by decide +kernel
theorem d_Wk_join_72 : decode mm_Wk_join.2.1 72 = .ok (.lload 4, 2) := by decide +kernel
theorem d_Wk_join_74 : decode mm_Wk_join.2.1 74 = .ok (.lmul, 1) := by decide +kernel
theorem d_Wk_join_75 : decode mm_Wk_join.2.1 75 = .ok (.invokevirtual 46, 3) := by decide +kernel
theorem d_Wk_join_78 : decode mm_Wk_join.2.1 78 = .ok (.return_, 1) := by decide +kernel
theorem d_Wk_join_79 : decode mm_Wk_join.2.1 79 = .ok (.aload_n 0, 1) := by decide +kernel
theorem d_Wk_join_80 : decode mm_Wk_join.2.1 80 = .ok (.lload_n 2, 1) := by decide +kernel
theorem d_Wk_join_81 : decode mm_Wk_join.2.1 81 = .ok (.lload 4, 2) := by decide +kernel
theorem d_Wk_join_83 : decode mm_Wk_join.2.1 83 = .ok (.invokevirtual 67, 3) := by decide +kernel
theorem d_Wk_join_86 : decode mm_Wk_join.2.1 86 = .ok (.return_, 1) := by decide +kernel
theorem d_Wk_join_87 : decode mm_Wk_join.2.1 87 = .ok (.aload_n 0, 1) := by decide +kernel
theorem d_Wk_join_88 : decode mm_Wk_join.2.1 88 = .ok (.lload_n 2, 1) := by decide +kernel
theorem d_Wk_join_89 : decode mm_Wk_join.2.1 89 = .ok (.lload 4, 2) := by decide +kernel
theorem d_Wk_join_91 : decode mm_Wk_join.2.1 91 = .ok (.invokestatic 71, 3) := by decide +kernel
theorem d_Wk_join_94 : decode mm_Wk_join.2.1 94 = .ok (.invokevirtual 46, 3) := by decide +kernel
theorem d_Wk_join_97 : decode mm_Wk_join.2.1 97 = .ok (.return_, 1) := by decide +kernel
theorem d_Wk_join_98 : decode mm_Wk_join.2.1 98 = .ok (.aload_n 0, 1) := by decide +kernel
theorem d_Wk_join_99 : decode mm_Wk_join.2.1 99 = .ok (.lload_n 2, 1) := by decide +kernel
theorem d_Wk_join_100 : decode mm_Wk_join.2.1 100 = .ok (.lload 4, 2) := by decide +kernel
theorem d_Wk_join_102 : decode mm_Wk_join.2.1 102 = .ok (.invokestatic 77, 3) := by decide +kernel
theorem d_Wk_join_105 : decode mm_Wk_join.2.1 105 = .ok (.invokevirtual 46, 3) := by decide +kernel
theorem d_Wk_join_108 : decode mm_Wk_join.2.1 108 = .ok (.return_, 1) := by decide +kernel
theorem d_Wk_divide_0 : decode mm_Wk_divide.2.1 0 = .ok (.lload_n 3, 1) := by decide +kernel
theorem d_Wk_divide_1 : decode mm_Wk_divide.2.1 1 = .ok (.lconst 0, 1) := by decide +kernel
theorem d_Wk_divide_2 : decode mm_Wk_divide.2.1 2 = .ok (.lcmp, 1) := by decide +kernel
theorem d_Wk_divide_3 : decode mm_Wk_divide.2.1 3 = .ok (.ifCond .ne 9, 3) := by decide +kernel
theorem d_Wk_divide_6 : decode mm_Wk_divide.2.1 6 = .ok (.aload_n 0, 1) := by decide +kernel
theorem d_Wk_divide_7 : decode mm_Wk_divide.2.1 7 = .ok (.iconst 2, 1) := by decide +kernel
theorem d_Wk_divide_8 : decode mm_Wk_divide.2.1 8 = .ok (.putfield 19, 3) := by decide +kernel
theorem d_Wk_divide_11 : decode mm_Wk_divide.2.1 11 = .ok (.return_, 1) := by decide +kernel
theorem d_Wk_divide_12 : decode mm_Wk_divide.2.1 12 = .ok (.aload_n 0, 1) := by decide +kernel
theorem d_Wk_divide_13 : decode mm_Wk_divide.2.1 13 = .ok (.lload_n 1, 1) := by decide +kernel
theorem d_Wk_divide_14 : decode mm_Wk_divide.2.1 14 = .ok (.lload_n 3, 1) := by decide +kernel
theorem d_Wk_divide_15 : decode mm_Wk_divide.2.1 15 = .ok (.ldiv, 1) := by decide +kernel
theorem d_Wk_divide_16 : decode mm_Wk_divide.2.1 16 = .ok (.invokevirtual 46, 3) := by decide +kernel
theorem d_Wk_divide_19 : decode mm_Wk_divide.2.1 19 = .ok (.return_, 1) := by decide +kernel
theorem d_Ma_min_0 : decode mm_Ma_min.2.1 0 = .ok (.lload_n 0, 1) := by decide +kernel
theorem d_Ma_min_1 : decode mm_Ma_min.2.1 1 = .ok (.lload_n 2, 1) := by decide +kernel
theorem d_Ma_min_2 : decode mm_Ma_min.2.1 2 = .ok (.lcmp, 1) := by decide +kernel
theorem d_Ma_min_3 : decode mm_Ma_min.2.1 3 = .ok (.ifCond .gt 7, 3) := by decide +kernel
theorem d_Ma_min_6 : decode mm_Ma_min.2.1 6 = .ok (.lload_n 0, 1) := by decide +kernel
theorem d_Ma_min_7 : decode mm_Ma_min.2.1 7 = .ok (.goto 4, 3) := by decide +kernel
theorem d_Ma_min_10 : decode mm_Ma_min.2.1 10 = .ok (.lload_n 2, 1) := by decide +kernel
theorem d_Ma_min_11 : decode mm_Ma_min.2.1 11 = .ok (.lreturn, 1) := by decide +kernel
theorem d_Ma_max_0 : decode mm_Ma_max.2.1 0 = .ok (.lload_n 0, 1) := by decide +kernel
theorem d_Ma_max_1 : decode mm_Ma_max.2.1 1 = .ok (.lload_n 2, 1) := by decide +kernel
theorem d_Ma_max_2 : decode mm_Ma_max.2.1 2 = .ok (.lcmp, 1) := by decide +kernel
theorem d_Ma_max_3 : decode mm_Ma_max.2.1 3 = .ok (.ifCond .lt 7, 3) := by decide +kernel
theorem d_Ma_max_6 : decode mm_Ma_max.2.1 6 = .ok (.lload_n 0, 1) := by decide +kernel
theorem d_Ma_max_7 : decode mm_Ma_max.2.1 7 = .ok (.goto 4, 3) := by decide +kernel
theorem d_Ma_max_10 : decode mm_Ma_max.2.1 10 = .ok (.lload_n 2, 1) := by decide +kernel
theorem d_Ma_max_11 : decode mm_Ma_max.2.1 11 = .ok (.lreturn, 1) := by decide +kernel
theorem d_Bd_keepNames_0 : decode mm_Bd_keepNames.2.1 0 = .ok (.aload_n 0, 1) := by decide +kernel
theorem d_Bd_keepNames_1 : decode mm_Bd_keepNames.2.1 1 = .ok (.iconst 0, 1) := by decide +kernel
theorem d_Bd_keepNames_2 : decode mm_Bd_keepNames.2.1 2 = .ok (.putfield 22, 3) := by decide +kernel
theorem d_Bd_keepNames_5 : decode mm_Bd_keepNames.2.1 5 = .ok (.iconst 0, 1) := by decide +kernel
theorem d_Bd_keepNames_6 : decode mm_Bd_keepNames.2.1 6 = .ok (.istore 4, 2) := by decide +kernel
theorem d_Bd_keepNames_8 : decode mm_Bd_keepNames.2.1 8 = .ok (.iload 4, 2) := by decide +kernel
theorem d_Bd_keepNames_10 : decode mm_Bd_keepNames.2.1 10 = .ok (.aload_n 1, 1) := by decide +kernel
theorem d_Bd_keepNames_11 : decode mm_Bd_keepNames.2.1 11 = .ok (.getfield 35, 3) := by decide +kernel
theorem d_Bd_keepNames_14 : decode mm_Bd_keepNames.2.1 14 = .ok (.if_icmp .ge 61, 3) := by decide +kernel
theorem d_Bd_keepNames_17 : decode mm_Bd_keepNames.2.1 17 = .ok (.lload_n 2, 1) := by decide +kernel
theorem d_Bd_keepNames_18 : decode mm_Bd_keepNames.2.1 18 = .ok (.lconst 1, 1) := by decide +kernel
theorem d_Bd_keepNames_19 : decode mm_Bd_keepNames.2.1 19 = .ok (.iload 4, 2) := by decide +kernel
theorem d_Bd_keepNames_21 : decode mm_Bd_keepNames.2.1 21 = .ok (.lshl, 1) := by decide +kernel
theorem d_Bd_keepNames_22 : decode mm_Bd_keepNames.2.1 22 = .ok (.land, 1) := by decide +kernel
theorem d_Bd_keepNames_23 : decode mm_Bd_keepNames.2.1 23 = .ok (.lconst 0, 1) := by decide +kernel
theorem d_Bd_keepNames_24 : decode mm_Bd_keepNames.2.1 24 = .ok (.lcmp, 1) := by decide +kernel
theorem d_Bd_keepNames_25 : decode mm_Bd_keepNames.2.1 25 = .ok (.ifCond .eq 44, 3) := by decide +kernel
theorem d_Bd_keepNames_28 : decode mm_Bd_keepNames.2.1 28 = .ok (.aload_n 0, 1) := by decide +kernel
theorem d_Bd_keepNames_29 : decode mm_Bd_keepNames.2.1 29 = .ok (.getfield 22, 3) := by decide +kernel
theorem d_Bd_keepNames_32 : decode mm_Bd_keepNames.2.1 32 = .ok (.aload_n 0, 1) := by decide +kernel
theorem d_Bd_keepNames_33 : decode mm_Bd_keepNames.2.1 33 = .ok (.getfield 18, 3) := by decide +kernel
theorem d_Bd_keepNames_36 : decode mm_Bd_keepNames.2.1 36 = .ok (.arraylength, 1) := by decide +kernel
theorem d_Bd_keepNames_37 : decode mm_Bd_keepNames.2.1 37 = .ok (.if_icmp .ge 32, 3) := by decide +kernel
theorem d_Bd_keepNames_40 : decode mm_Bd_keepNames.2.1 40 = .ok (.aload_n 0, 1) := by decide +kernel
theorem d_Bd_keepNames_41 : decode mm_Bd_keepNames.2.1 41 = .ok (.getfield 18, 3) := by decide +kernel
theorem d_Bd_keepNames_44 : decode mm_Bd_keepNames.2.1 44 = .ok (.aload_n 0, 1) := by decide +kernel
theorem d_Bd_keepNames_45 : decode mm_Bd_keepNames.2.1 45 = .ok (.getfield 22, 3) := by decide +kernel
theorem d_Bd_keepNames_48 : decode mm_Bd_keepNames.2.1 48 = .ok (.aload_n 1, 1) := by decide +kernel
theorem d_Bd_keepNames_49 : decode mm_Bd_keepNames.2.1 49 = .ok (.getfield 43, 3) := by decide +kernel
theorem d_Bd_keepNames_52 : decode mm_Bd_keepNames.2.1 52 = .ok (.iload 4, 2) := by decide +kernel
theorem d_Bd_keepNames_54 : decode mm_Bd_keepNames.2.1 54 = .ok (.aaload, 1) := by decide +kernel
theorem d_Bd_keepNames_55 : decode mm_Bd_keepNames.2.1 55 = .ok (.getfield 85, 3) := by decide +kernel
theorem d_Bd_keepNames_58 : decode mm_Bd_keepNames.2.1 58 = .ok (.lastore, 1) := by decide +kernel
theorem d_Bd_keepNames_59 : decode mm_Bd_keepNames.2.1 59 = .ok (.aload_n 0, 1) := by decide +kernel
theorem d_Bd_keepNames_60 : decode mm_Bd_keepNames.2.1 60 = .ok (.dup, 1) := by decide +kernel
theorem d_Bd_keepNames_61 : decode mm_Bd_keepNames.2.1 61 = .ok (.getfield 22, 3) := by decide +kernel
theorem d_Bd_keepNames_64 : decode mm_Bd_keepNames.2.1 64 = .ok (.iconst 1, 1) := by decide +kernel
theorem d_Bd_keepNames_65 : decode mm_Bd_keepNames.2.1 65 = .ok (.iadd, 1) := by decide +kernel
theorem d_Bd_keepNames_66 : decode mm_Bd_keepNames.2.1 66 = .ok (.putfield 22, 3) := by decide +kernel
theorem d_Bd_keepNames_69 : decode mm_Bd_keepNames.2.1 69 = .ok (.iinc 4 1, 3) := by decide +kernel
theorem d_Bd_keepNames_72 : decode mm_Bd_keepNames.2.1 72 = .ok (.goto (-64), 3) := by decide +kernel
theorem d_Bd_keepNames_75 : decode mm_Bd_keepNames.2.1 75 = .ok (.aload_n 0, 1) := by decide +kernel
theorem d_Bd_keepNames_76 : decode mm_Bd_keepNames.2.1 76 = .ok (.dup, 1) := by decide +kernel
theorem d_Bd_keepNames_77 : decode mm_Bd_keepNames.2.1 77 = .ok (.getfield 26, 3) := by decide +kernel
theorem d_Bd_keepNames_80 : decode mm_Bd_keepNames.2.1 80 = .ok (.aload_n 0, 1) := by decide +kernel
theorem d_Bd_keepNames_81 : decode mm_Bd_keepNames.2.1 81 = .ok (.getfield 22, 3) := by decide +kernel
theorem d_Bd_keepNames_84 : decode mm_Bd_keepNames.2.1 84 = .ok (.iadd, 1) := by decide +kernel
theorem d_Bd_keepNames_85 : decode mm_Bd_keepNames.2.1 85 = .ok (.putfield 26, 3) := by decide +kernel
theorem d_Bd_keepNames_88 : decode mm_Bd_keepNames.2.1 88 = .ok (.return_, 1) := by decide +kernel
theorem d_Lw_feed_0 : decode mm_Lw_feed.2.1 0 = .ok (.aload 6, 2) := by decide +kernel
theorem d_Lw_feed_2 : decode mm_Lw_feed.2.1 2 = .ok (.iconst 0, 1) := by decide +kernel
theorem d_Lw_feed_3 : decode mm_Lw_feed.2.1 3 = .ok (.aload_n 0, 1) := by decide +kernel
theorem d_Lw_feed_4 : decode mm_Lw_feed.2.1 4 = .ok (.iload_n 1, 1) := by decide +kernel
theorem d_Lw_feed_5 : decode mm_Lw_feed.2.1 5 = .ok (.iload_n 2, 1) := by decide +kernel
theorem d_Lw_feed_6 : decode mm_Lw_feed.2.1 6 = .ok (.iload_n 3, 1) := by decide +kernel
theorem d_Lw_feed_7 : decode mm_Lw_feed.2.1 7 = .ok (.iload 4, 2) := by decide +kernel
theorem d_Lw_feed_9 : decode mm_Lw_feed.2.1 9 = .ok (.iload 5, 2) := by decide +kernel
theorem d_Lw_feed_11 : decode mm_Lw_feed.2.1 11 = .ok (.invokevirtual 7, 3) := by decide +kernel
theorem d_Lw_feed_14 : decode mm_Lw_feed.2.1 14 = .ok (.i2l, 1) := by decide +kernel
theorem d_Lw_feed_15 : decode mm_Lw_feed.2.1 15 = .ok (.lastore, 1) := by decide +kernel
theorem d_Lw_feed_16 : decode mm_Lw_feed.2.1 16 = .ok (.goto 7, 3) := by decide +kernel
theorem d_Lw_feed_19 : decode mm_Lw_feed.2.1 19 = .ok (.astore 7, 2) := by decide +kernel
theorem d_Lw_feed_21 : decode mm_Lw_feed.2.1 21 = .ok (.iconst 1, 1) := by decide +kernel
theorem d_Lw_feed_22 : decode mm_Lw_feed.2.1 22 = .ok (.ireturn, 1) := by decide +kernel
theorem d_Lw_feed_23 : decode mm_Lw_feed.2.1 23 = .ok (.iconst 0, 1) := by decide +kernel
theorem d_Lw_feed_24 : decode mm_Lw_feed.2.1 24 = .ok (.ireturn, 1) := by decide +kernel
theorem d_CW_feed_0 : decode mm_CW_feed.2.1 0 = .ok (.aload_n 0, 1) := by decide +kernel
theorem d_CW_feed_1 : decode mm_CW_feed.2.1 1 = .ok (.getfield 12, 3) := by decide +kernel
theorem d_CW_feed_4 : decode mm_CW_feed.2.1 4 = .ok (.getfield 30, 3) := by decide +kernel
theorem d_CW_feed_7 : decode mm_CW_feed.2.1 7 = .ok (.astore 6, 2) := by decide +kernel
theorem d_CW_feed_9 : decode mm_CW_feed.2.1 9 = .ok (.aload 6, 2) := by decide +kernel
theorem d_CW_feed_11 : decode mm_CW_feed.2.1 11 = .ok (.getfield 34, 3) := by decide +kernel
theorem d_CW_feed_14 : decode mm_CW_feed.2.1 14 = .ok (.bipush 20, 2) := by decide +kernel
theorem d_CW_feed_16 : decode mm_CW_feed.2.1 16 = .ok (.iadd, 1) := by decide +kernel
theorem d_CW_feed_17 : decode mm_CW_feed.2.1 17 = .ok (.sipush 2000, 3) := by decide +kernel
theorem d_CW_feed_20 : decode mm_CW_feed.2.1 20 = .ok (.if_icmp .le 13, 3) := by decide +kernel
theorem d_CW_feed_23 : decode mm_CW_feed.2.1 23 = .ok (.new 40, 3) := by decide +kernel
theorem d_CW_feed_26 : decode mm_CW_feed.2.1 26 = .ok (.dup, 1) := by decide +kernel
theorem d_CW_feed_27 : decode mm_CW_feed.2.1 27 = .ok (.ldc 42, 2) := by decide +kernel
theorem d_CW_feed_29 : decode mm_CW_feed.2.1 29 = .ok (.invokespecial 44, 3) := by decide +kernel
theorem d_CW_feed_32 : decode mm_CW_feed.2.1 32 = .ok (.athrow, 1) := by decide +kernel
theorem d_CW_feed_33 : decode mm_CW_feed.2.1 33 = .ok (.aload 6, 2) := by decide +kernel
theorem d_CW_feed_35 : decode mm_CW_feed.2.1 35 = .ok (.iload_n 1, 1) := by decide +kernel
theorem d_CW_feed_36 : decode mm_CW_feed.2.1 36 = .ok (.invokevirtual 47, 3) := by decide +kernel
theorem d_CW_feed_39 : decode mm_CW_feed.2.1 39 = .ok (.aload 6, 2) := by decide +kernel
theorem d_CW_feed_41 : decode mm_CW_feed.2.1 41 = .ok (.iload_n 2, 1) := by decide +kernel
theorem d_CW_feed_42 : decode mm_CW_feed.2.1 42 = .ok (.invokevirtual 47, 3) := by decide +kernel
theorem d_CW_feed_45 : decode mm_CW_feed.2.1 45 = .ok (.aload 6, 2) := by decide +kernel
theorem d_CW_feed_47 : decode mm_CW_feed.2.1 47 = .ok (.iload_n 3, 1) := by decide +kernel
theorem d_CW_feed_48 : decode mm_CW_feed.2.1 48 = .ok (.invokevirtual 47, 3) := by decide +kernel
theorem d_CW_feed_51 : decode mm_CW_feed.2.1 51 = .ok (.aload 6, 2) := by decide +kernel
theorem d_CW_feed_53 : decode mm_CW_feed.2.1 53 = .ok (.iload 4, 2) := by decide +kernel
theorem d_CW_feed_55 : decode mm_CW_feed.2.1 55 = .ok (.invokevirtual 47, 3) := by decide +kernel
theorem d_CW_feed_58 : decode mm_CW_feed.2.1 58 = .ok (.aload 6, 2) := by decide +kernel
theorem d_CW_feed_60 : decode mm_CW_feed.2.1 60 = .ok (.iload 5, 2) := by decide +kernel
theorem d_CW_feed_62 : decode mm_CW_feed.2.1 62 = .ok (.invokevirtual 47, 3) := by decide +kernel
theorem d_CW_feed_65 : decode mm_CW_feed.2.1 65 = .ok (.aload 6, 2) := by decide +kernel
theorem d_CW_feed_67 : decode mm_CW_feed.2.1 67 = .ok (.getfield 34, 3) := by decide +kernel
theorem d_CW_feed_70 : decode mm_CW_feed.2.1 70 = .ok (.ireturn, 1) := by decide +kernel
theorem d_Tp_add_0 : decode mm_Tp_add.2.1 0 = .ok (.bipush 24, 2) := by decide +kernel
theorem d_Tp_add_2 : decode mm_Tp_add.2.1 2 = .ok (.istore_n 2, 1) := by decide +kernel
theorem d_Tp_add_3 : decode mm_Tp_add.2.1 3 = .ok (.iload_n 2, 1) := by decide +kernel
theorem d_Tp_add_4 : decode mm_Tp_add.2.1 4 = .ok (.ifCond .lt 51, 3) := by decide +kernel
theorem d_Tp_add_7 : decode mm_Tp_add.2.1 7 = .ok (.aload_n 0, 1) := by decide +kernel
theorem d_Tp_add_8 : decode mm_Tp_add.2.1 8 = .ok (.getfield 15, 3) := by decide +kernel
theorem d_Tp_add_11 : decode mm_Tp_add.2.1 11 = .ok (.ifCond .lt 38, 3) := by decide +kernel
theorem d_Tp_add_14 : decode mm_Tp_add.2.1 14 = .ok (.aload_n 0, 1) := by decide +kernel
theorem d_Tp_add_15 : decode mm_Tp_add.2.1 15 = .ok (.getfield 15, 3) := by decide +kernel
theorem d_Tp_add_18 : decode mm_Tp_add.2.1 18 = .ok (.aload_n 0, 1) := by decide +kernel
theorem d_Tp_add_19 : decode mm_Tp_add.2.1 19 = .ok (.getfield 9, 3) := by decide +kernel
theorem d_Tp_add_22 : decode mm_Tp_add.2.1 22 = .ok (.arraylength, 1) := by decide +kernel
theorem d_Tp_add_23 : decode mm_Tp_add.2.1 23 = .ok (.if_icmp .ge 26, 3) := by decide +kernel
theorem d_Tp_add_26 : decode mm_Tp_add.2.1 26 = .ok (.aload_n 0, 1) := by decide +kernel
theorem d_Tp_add_27 : decode mm_Tp_add.2.1 27 = .ok (.getfield 9, 3) := by decide +kernel
theorem d_Tp_add_30 : decode mm_Tp_add.2.1 30 = .ok (.aload_n 0, 1) := by decide +kernel
theorem d_Tp_add_31 : decode mm_Tp_add.2.1 31 = .ok (.getfield 15, 3) := by decide +kernel
theorem d_Tp_add_34 : decode mm_Tp_add.2.1 34 = .ok (.iload_n 1, 1) := by decide +kernel
theorem d_Tp_add_35 : decode mm_Tp_add.2.1 35 = .ok (.iload_n 2, 1) := by decide +kernel
theorem d_Tp_add_36 : decode mm_Tp_add.2.1 36 = .ok (.iushr, 1) := by decide +kernel
theorem d_Tp_add_37 : decode mm_Tp_add.2.1 37 = .ok (.i2b, 1) := by decide +kernel
theorem d_Tp_add_38 : decode mm_Tp_add.2.1 38 = .ok (.bastore, 1) := by decide +kernel
theorem d_Tp_add_39 : decode mm_Tp_add.2.1 39 = .ok (.aload_n 0, 1) := by decide +kernel
theorem d_Tp_add_40 : decode mm_Tp_add.2.1 40 = .ok (.dup, 1) := by decide +kernel
theorem d_Tp_add_41 : decode mm_Tp_add.2.1 41 = .ok (.getfield 15, 3) := by decide +kernel
theorem d_Tp_add_44 : decode mm_Tp_add.2.1 44 = .ok (.iconst 1, 1) := by decide +kernel
theorem d_Tp_add_45 : decode mm_Tp_add.2.1 45 = .ok (.iadd, 1) := by decide +kernel
theorem d_Tp_add_46 : decode mm_Tp_add.2.1 46 = .ok (.putfield 15, 3) := by decide +kernel
theorem d_Tp_add_49 : decode mm_Tp_add.2.1 49 = .ok (.iinc 2 (-8), 3) := by decide +kernel
theorem d_Tp_add_52 : decode mm_Tp_add.2.1 52 = .ok (.goto (-49), 3) := by decide +kernel
theorem d_Tp_add_55 : decode mm_Tp_add.2.1 55 = .ok (.return_, 1) := by decide +kernel
theorem d_Lw_end_0 : decode mm_Lw_end.2.1 0 = .ok (.aload_n 0, 1) := by decide +kernel
theorem d_Lw_end_1 : decode mm_Lw_end.2.1 1 = .ok (.iload_n 1, 1) := by decide +kernel
theorem d_Lw_end_2 : decode mm_Lw_end.2.1 2 = .ok (.invokevirtual 15, 3) := by decide +kernel
theorem d_Lw_end_5 : decode mm_Lw_end.2.1 5 = .ok (.goto 6, 3) := by decide +kernel
theorem d_Lw_end_8 : decode mm_Lw_end.2.1 8 = .ok (.astore_n 2, 1) := by decide +kernel
theorem d_Lw_end_9 : decode mm_Lw_end.2.1 9 = .ok (.iconst 1, 1) := by decide +kernel
theorem d_Lw_end_10 : decode mm_Lw_end.2.1 10 = .ok (.ireturn, 1) := by decide +kernel
theorem d_Lw_end_11 : decode mm_Lw_end.2.1 11 = .ok (.iconst 0, 1) := by decide +kernel
theorem d_Lw_end_12 : decode mm_Lw_end.2.1 12 = .ok (.ireturn, 1) := by decide +kernel
theorem d_CW_end_0 : decode mm_CW_end.2.1 0 = .ok (.iload_n 1, 1) := by decide +kernel
theorem d_CW_end_1 : decode mm_CW_end.2.1 1 = .ok (.ifCond .lt 17, 3) := by decide +kernel
theorem d_CW_end_4 : decode mm_CW_end.2.1 4 = .ok (.iload_n 1, 1) := by decide +kernel
theorem d_CW_end_5 : decode mm_CW_end.2.1 5 = .ok (.aload_n 0, 1) := by decide +kernel
theorem d_CW_end_6 : decode mm_CW_end.2.1 6 = .ok (.getfield 12, 3) := by decide +kernel
theorem d_CW_end_9 : decode mm_CW_end.2.1 9 = .ok (.getfield 30, 3) := by decide +kernel
theorem d_CW_end_12 : decode mm_CW_end.2.1 12 = .ok (.getfield 34, 3) := by decide +kernel
theorem d_CW_end_15 : decode mm_CW_end.2.1 15 = .ok (.if_icmp .le 13, 3) := by decide +kernel
theorem d_CW_end_18 : decode mm_CW_end.2.1 18 = .ok (.new 51, 3) := by decide +kernel
theorem d_CW_end_21 : decode mm_CW_end.2.1 21 = .ok (.dup, 1) := by decide +kernel
theorem d_CW_end_22 : decode mm_CW_end.2.1 22 = .ok (.ldc 53, 2) := by decide +kernel
theorem d_CW_end_24 : decode mm_CW_end.2.1 24 = .ok (.invokespecial 55, 3) := by decide +kernel
theorem d_CW_end_27 : decode mm_CW_end.2.1 27 = .ok (.athrow, 1) := by decide +kernel
theorem d_CW_end_28 : decode mm_CW_end.2.1 28 = .ok (.aload_n 0, 1) := by decide +kernel
theorem d_CW_end_29 : decode mm_CW_end.2.1 29 = .ok (.getfield 12, 3) := by decide +kernel
theorem d_CW_end_32 : decode mm_CW_end.2.1 32 = .ok (.getfield 30, 3) := by decide +kernel
theorem d_CW_end_35 : decode mm_CW_end.2.1 35 = .ok (.iload_n 1, 1) := by decide +kernel
theorem d_CW_end_36 : decode mm_CW_end.2.1 36 = .ok (.putfield 34, 3) := by decide +kernel
theorem d_CW_end_39 : decode mm_CW_end.2.1 39 = .ok (.return_, 1) := by decide +kernel
theorem d_Lw_remove_0 : decode mm_Lw_remove.2.1 0 = .ok (.aload_n 1, 1) := by decide +kernel
theorem d_Lw_remove_1 : decode mm_Lw_remove.2.1 1 = .ok (.iconst 0, 1) := by decide +kernel
theorem d_Lw_remove_2 : decode mm_Lw_remove.2.1 2 = .ok (.aload_n 0, 1) := by decide +kernel
theorem d_Lw_remove_3 : decode mm_Lw_remove.2.1 3 = .ok (.invokevirtual 21, 3) := by decide +kernel
theorem d_Lw_remove_6 : decode mm_Lw_remove.2.1 6 = .ok (.ifCond .eq 7, 3) := by decide +kernel
theorem d_Lw_remove_9 : decode mm_Lw_remove.2.1 9 = .ok (.lconst 1, 1) := by decide +kernel
theorem d_Lw_remove_10 : decode mm_Lw_remove.2.1 10 = .ok (.goto 4, 3) := by decide +kernel
theorem d_Lw_remove_13 : decode mm_Lw_remove.2.1 13 = .ok (.lconst 0, 1) := by decide +kernel
theorem d_Lw_remove_14 : decode mm_Lw_remove.2.1 14 = .ok (.lastore, 1) := by decide +kernel
theorem d_Lw_remove_15 : decode mm_Lw_remove.2.1 15 = .ok (.goto 6, 3) := by decide +kernel
theorem d_Lw_remove_18 : decode mm_Lw_remove.2.1 18 = .ok (.astore_n 2, 1) := by decide +kernel
theorem d_Lw_remove_19 : decode mm_Lw_remove.2.1 19 = .ok (.iconst 1, 1) := by decide +kernel
theorem d_Lw_remove_20 : decode mm_Lw_remove.2.1 20 = .ok (.ireturn, 1) := by decide +kernel
theorem d_Lw_remove_21 : decode mm_Lw_remove.2.1 21 = .ok (.iconst 0, 1) := by decide +kernel
theorem d_Lw_remove_22 : decode mm_Lw_remove.2.1 22 = .ok (.ireturn, 1) := by decide +kernel
theorem d_CW_remove_0 : decode mm_CW_remove.2.1 0 = .ok (.aload_n 0, 1) := by decide +kernel
theorem d_CW_remove_1 : decode mm_CW_remove.2.1 1 = .ok (.invokevirtual 69, 3) := by decide +kernel
theorem d_CW_remove_4 : decode mm_CW_remove.2.1 4 = .ok (.lstore_n 1, 1) := by decide +kernel
theorem d_CW_remove_5 : decode mm_CW_remove.2.1 5 = .ok (.aload_n 0, 1) := by decide +kernel
theorem d_CW_remove_6 : decode mm_CW_remove.2.1 6 = .ok (.getfield 12, 3) := by decide +kernel
theorem d_CW_remove_9 : decode mm_CW_remove.2.1 9 = .ok (.getfield 30, 3) := by decide +kernel
theorem d_CW_remove_12 : decode mm_CW_remove.2.1 12 = .ok (.iconst 0, 1) := by decide +kernel
theorem d_CW_remove_13 : decode mm_CW_remove.2.1 13 = .ok (.putfield 34, 3) := by decide +kernel
theorem d_CW_remove_16 : decode mm_CW_remove.2.1 16 = .ok (.aload_n 0, 1) := by decide +kernel
theorem d_CW_remove_17 : decode mm_CW_remove.2.1 17 = .ok (.getfield 19, 3) := by decide +kernel
theorem d_CW_remove_20 : decode mm_CW_remove.2.1 20 = .ok (.lload_n 1, 1) := by decide +kernel
theorem d_CW_remove_21 : decode mm_CW_remove.2.1 21 = .ok (.invokevirtual 73, 3) := by decide +kernel
theorem d_CW_remove_24 : decode mm_CW_remove.2.1 24 = .ok (.ireturn, 1) := by decide +kernel
theorem d_CW_nameOnTape_0 : decode mm_CW_nameOnTape.2.1 0 = .ok (.aload_n 0, 1) := by decide +kernel
theorem d_CW_nameOnTape_1 : decode mm_CW_nameOnTape.2.1 1 = .ok (.getfield 12, 3) := by decide +kernel
theorem d_CW_nameOnTape_4 : decode mm_CW_nameOnTape.2.1 4 = .ok (.getfield 30, 3) := by decide +kernel
theorem d_CW_nameOnTape_7 : decode mm_CW_nameOnTape.2.1 7 = .ok (.invokevirtual 141, 3) := by decide +kernel
theorem d_CW_nameOnTape_10 : decode mm_CW_nameOnTape.2.1 10 = .ok (.lstore_n 1, 1) := by decide +kernel
theorem d_CW_nameOnTape_11 : decode mm_CW_nameOnTape.2.1 11 = .ok (.lload_n 1, 1) := by decide +kernel
theorem d_CW_nameOnTape_12 : decode mm_CW_nameOnTape.2.1 12 = .ok (.lconst 0, 1) := by decide +kernel
theorem d_CW_nameOnTape_13 : decode mm_CW_nameOnTape.2.1 13 = .ok (.lcmp, 1) := by decide +kernel
theorem d_CW_nameOnTape_14 : decode mm_CW_nameOnTape.2.1 14 = .ok (.ifCond .ne 13, 3) := by decide +kernel
theorem d_CW_nameOnTape_17 : decode mm_CW_nameOnTape.2.1 17 = .ok (.new 144, 3) := by decide +kernel
theorem d_CW_nameOnTape_20 : decode mm_CW_nameOnTape.2.1 20 = .ok (.dup, 1) := by decide +kernel
theorem d_CW_nameOnTape_21 : decode mm_CW_nameOnTape.2.1 21 = .ok (.ldc 146, 2) := by decide +kernel
theorem d_CW_nameOnTape_23 : decode mm_CW_nameOnTape.2.1 23 = .ok (.invokespecial 148, 3) := by decide +kernel
theorem d_CW_nameOnTape_26 : decode mm_CW_nameOnTape.2.1 26 = .ok (.athrow, 1) := by decide +kernel
theorem d_CW_nameOnTape_27 : decode mm_CW_nameOnTape.2.1 27 = .ok (.lload_n 1, 1) := by decide +kernel
theorem d_CW_nameOnTape_28 : decode mm_CW_nameOnTape.2.1 28 = .ok (.lreturn, 1) := by decide +kernel
theorem d_Tp_onlyName_0 : decode mm_Tp_onlyName.2.1 0 = .ok (.aload_n 0, 1) := by decide +kernel
theorem d_Tp_onlyName_1 : decode mm_Tp_onlyName.2.1 1 = .ok (.invokevirtual 35, 3) := by decide +kernel
theorem d_Tp_onlyName_4 : decode mm_Tp_onlyName.2.1 4 = .ok (.aload_n 0, 1) := by decide +kernel
theorem d_Tp_onlyName_5 : decode mm_Tp_onlyName.2.1 5 = .ok (.invokevirtual 38, 3) := by decide +kernel
theorem d_Tp_onlyName_8 : decode mm_Tp_onlyName.2.1 8 = .ok (.aload_n 0, 1) := by decide +kernel
theorem d_Tp_onlyName_9 : decode mm_Tp_onlyName.2.1 9 = .ok (.getfield 22, 3) := by decide +kernel
theorem d_Tp_onlyName_12 : decode mm_Tp_onlyName.2.1 12 = .ok (.iconst 2, 1) := by decide +kernel
theorem d_Tp_onlyName_13 : decode mm_Tp_onlyName.2.1 13 = .ok (.if_icmp .ne 10, 3) := by decide +kernel
theorem d_Tp_onlyName_16 : decode mm_Tp_onlyName.2.1 16 = .ok (.aload_n 0, 1) := by decide +kernel
theorem d_Tp_onlyName_17 : decode mm_Tp_onlyName.2.1 17 = .ok (.getfield 28, 3) := by decide +kernel
theorem d_Tp_onlyName_20 : decode mm_Tp_onlyName.2.1 20 = .ok (.goto 4, 3) := by decide +kernel
theorem d_Tp_onlyName_23 : decode mm_Tp_onlyName.2.1 23 = .ok (.lconst 0, 1) := by decide +kernel
theorem d_Tp_onlyName_24 : decode mm_Tp_onlyName.2.1 24 = .ok (.lstore_n 1, 1) := by decide +kernel
theorem d_Tp_onlyName_25 : decode mm_Tp_onlyName.2.1 25 = .ok (.aload_n 0, 1) := by decide +kernel
theorem d_Tp_onlyName_26 : decode mm_Tp_onlyName.2.1 26 = .ok (.invokevirtual 38, 3) := by decide +kernel
theorem d_Tp_onlyName_29 : decode mm_Tp_onlyName.2.1 29 = .ok (.aload_n 0, 1) := by decide +kernel
theorem d_Tp_onlyName_30 : decode mm_Tp_onlyName.2.1 30 = .ok (.getfield 22, 3) := by decide +kernel
theorem d_Tp_onlyName_33 : decode mm_Tp_onlyName.2.1 33 = .ok (.ifCond .ne 7, 3) := by decide +kernel
theorem d_Tp_onlyName_36 : decode mm_Tp_onlyName.2.1 36 = .ok (.lload_n 1, 1) := by decide +kernel
theorem d_Tp_onlyName_37 : decode mm_Tp_onlyName.2.1 37 = .ok (.goto 4, 3) := by decide +kernel
theorem d_Tp_onlyName_40 : decode mm_Tp_onlyName.2.1 40 = .ok (.lconst 0, 1) := by decide +kernel
theorem d_Tp_onlyName_41 : decode mm_Tp_onlyName.2.1 41 = .ok (.lreturn, 1) := by decide +kernel
theorem d_Cs_drop_0 : decode mm_Cs_drop.2.1 0 = .ok (.aload_n 0, 1) := by decide +kernel
theorem d_Cs_drop_1 : decode mm_Cs_drop.2.1 1 = .ok (.lload_n 1, 1) := by decide +kernel
theorem d_Cs_drop_2 : decode mm_Cs_drop.2.1 2 = .ok (.invokevirtual 33, 3) := by decide +kernel
theorem d_Cs_drop_5 : decode mm_Cs_drop.2.1 5 = .ok (.istore_n 3, 1) := by decide +kernel
theorem d_Cs_drop_6 : decode mm_Cs_drop.2.1 6 = .ok (.iload_n 3, 1) := by decide +kernel
theorem d_Cs_drop_7 : decode mm_Cs_drop.2.1 7 = .ok (.iconst (-1), 1) := by decide +kernel
theorem d_Cs_drop_8 : decode mm_Cs_drop.2.1 8 = .ok (.if_icmp .ne 5, 3) := by decide +kernel
theorem d_Cs_drop_11 : decode mm_Cs_drop.2.1 11 = .ok (.iconst 0, 1) := by decide +kernel
theorem d_Cs_drop_12 : decode mm_Cs_drop.2.1 12 = .ok (.ireturn, 1) := by decide +kernel
theorem d_Cs_drop_13 : decode mm_Cs_drop.2.1 13 = .ok (.iload_n 3, 1) := by decide +kernel
theorem d_Cs_drop_14 : decode mm_Cs_drop.2.1 14 = .ok (.istore 4, 2) := by decide +kernel
theorem d_Cs_drop_16 : decode mm_Cs_drop.2.1 16 = .ok (.iload 4, 2) := by decide +kernel
theorem d_Cs_drop_18 : decode mm_Cs_drop.2.1 18 = .ok (.iconst 1, 1) := by decide +kernel
theorem d_Cs_drop_19 : decode mm_Cs_drop.2.1 19 = .ok (.iadd, 1) := by decide +kernel
theorem d_Cs_drop_20 : decode mm_Cs_drop.2.1 20 = .ok (.aload_n 0, 1) := by decide +kernel
theorem d_Cs_drop_21 : decode mm_Cs_drop.2.1 21 = .ok (.getfield 17, 3) := by decide +kernel
theorem d_Cs_drop_24 : decode mm_Cs_drop.2.1 24 = .ok (.if_icmp .ge 25, 3) := by decide +kernel
theorem d_Cs_drop_27 : decode mm_Cs_drop.2.1 27 = .ok (.aload_n 0, 1) := by decide +kernel
theorem d_Cs_drop_28 : decode mm_Cs_drop.2.1 28 = .ok (.getfield 11, 3) := by decide +kernel
theorem d_Cs_drop_31 : decode mm_Cs_drop.2.1 31 = .ok (.iload 4, 2) := by decide +kernel
theorem d_Cs_drop_33 : decode mm_Cs_drop.2.1 33 = .ok (.aload_n 0, 1) := by decide +kernel
theorem d_Cs_drop_34 : decode mm_Cs_drop.2.1 34 = .ok (.getfield 11, 3) := by decide +kernel
theorem d_Cs_drop_37 : decode mm_Cs_drop.2.1 37 = .ok (.iload 4, 2) := by decide +kernel
theorem d_Cs_drop_39 : decode mm_Cs_drop.2.1 39 = .ok (.iconst 1, 1) := by decide +kernel
theorem d_Cs_drop_40 : decode mm_Cs_drop.2.1 40 = .ok (.iadd, 1) := by decide +kernel
theorem d_Cs_drop_41 : decode mm_Cs_drop.2.1 41 = .ok (.aaload, 1) := by decide +kernel
theorem d_Cs_drop_42 : decode mm_Cs_drop.2.1 42 = .ok (.aastore, 1) := by decide +kernel
theorem d_Cs_drop_43 : decode mm_Cs_drop.2.1 43 = .ok (.iinc 4 1, 3) := by decide +kernel
theorem d_Cs_drop_46 : decode mm_Cs_drop.2.1 46 = .ok (.goto (-30), 3) := by decide +kernel
theorem d_Cs_drop_49 : decode mm_Cs_drop.2.1 49 = .ok (.aload_n 0, 1) := by decide +kernel
theorem d_Cs_drop_50 : decode mm_Cs_drop.2.1 50 = .ok (.dup, 1) := by decide +kernel
theorem d_Cs_drop_51 : decode mm_Cs_drop.2.1 51 = .ok (.getfield 17, 3) := by decide +kernel
theorem d_Cs_drop_54 : decode mm_Cs_drop.2.1 54 = .ok (.iconst 1, 1) := by decide +kernel
theorem d_Cs_drop_55 : decode mm_Cs_drop.2.1 55 = .ok (.isub, 1) := by decide +kernel
theorem d_Cs_drop_56 : decode mm_Cs_drop.2.1 56 = .ok (.putfield 17, 3) := by decide +kernel
theorem d_Cs_drop_59 : decode mm_Cs_drop.2.1 59 = .ok (.iconst 1, 1) := by decide +kernel
theorem d_Cs_drop_60 : decode mm_Cs_drop.2.1 60 = .ok (.ireturn, 1) := by decide +kernel
theorem d_Lw_build_0 : decode mm_Lw_build.2.1 0 = .ok (.aload_n 1, 1) := by decide +kernel
theorem d_Lw_build_1 : decode mm_Lw_build.2.1 1 = .ok (.iconst 0, 1) := by decide +kernel
theorem d_Lw_build_2 : decode mm_Lw_build.2.1 2 = .ok (.aload_n 0, 1) := by decide +kernel
theorem d_Lw_build_3 : decode mm_Lw_build.2.1 3 = .ok (.invokevirtual 27, 3) := by decide +kernel
theorem d_Lw_build_6 : decode mm_Lw_build.2.1 6 = .ok (.i2l, 1) := by decide +kernel
theorem d_Lw_build_7 : decode mm_Lw_build.2.1 7 = .ok (.lastore, 1) := by decide +kernel
theorem d_Lw_build_8 : decode mm_Lw_build.2.1 8 = .ok (.goto 6, 3) := by decide +kernel
theorem d_Lw_build_11 : decode mm_Lw_build.2.1 11 = .ok (.astore_n 2, 1) := by decide +kernel
theorem d_Lw_build_12 : decode mm_Lw_build.2.1 12 = .ok (.iconst 1, 1) := by decide +kernel
theorem d_Lw_build_13 : decode mm_Lw_build.2.1 13 = .ok (.ireturn, 1) := by decide +kernel
theorem d_Lw_build_14 : decode mm_Lw_build.2.1 14 = .ok (.iconst 0, 1) := by decide +kernel
theorem d_Lw_build_15 : decode mm_Lw_build.2.1 15 = .ok (.ireturn, 1) := by decide +kernel
theorem d_CW_build_0 : decode mm_CW_build.2.1 0 = .ok (.aload_n 0, 1) := by decide +kernel
theorem d_CW_build_1 : decode mm_CW_build.2.1 1 = .ok (.invokevirtual 69, 3) := by decide +kernel
theorem d_CW_build_4 : decode mm_CW_build.2.1 4 = .ok (.lstore_n 1, 1) := by decide +kernel
theorem d_CW_build_5 : decode mm_CW_build.2.1 5 = .ok (.aload_n 0, 1) := by decide +kernel
theorem d_CW_build_6 : decode mm_CW_build.2.1 6 = .ok (.getfield 12, 3) := by decide +kernel
theorem d_CW_build_9 : decode mm_CW_build.2.1 9 = .ok (.getfield 30, 3) := by decide +kernel
theorem d_CW_build_12 : decode mm_CW_build.2.1 12 = .ok (.iconst 0, 1) := by decide +kernel
theorem d_CW_build_13 : decode mm_CW_build.2.1 13 = .ok (.putfield 34, 3) := by decide +kernel
theorem d_CW_build_16 : decode mm_CW_build.2.1 16 = .ok (.aload_n 0, 1) := by decide +kernel
theorem d_CW_build_17 : decode mm_CW_build.2.1 17 = .ok (.getfield 19, 3) := by decide +kernel
theorem d_CW_build_20 : decode mm_CW_build.2.1 20 = .ok (.lload_n 1, 1) := by decide +kernel
theorem d_CW_build_21 : decode mm_CW_build.2.1 21 = .ok (.invokevirtual 77, 3) := by decide +kernel
theorem d_CW_build_24 : decode mm_CW_build.2.1 24 = .ok (.istore_n 3, 1) := by decide +kernel
theorem d_CW_build_25 : decode mm_CW_build.2.1 25 = .ok (.aload_n 0, 1) := by decide +kernel
theorem d_CW_build_26 : decode mm_CW_build.2.1 26 = .ok (.getfield 26, 3) := by decide +kernel
theorem d_CW_build_29 : decode mm_CW_build.2.1 29 = .ok (.aload_n 0, 1) := by decide +kernel
theorem d_CW_build_30 : decode mm_CW_build.2.1 30 = .ok (.getfield 19, 3) := by decide +kernel
theorem d_CW_build_33 : decode mm_CW_build.2.1 33 = .ok (.iload_n 3, 1) := by decide +kernel
theorem d_CW_build_34 : decode mm_CW_build.2.1 34 = .ok (.iconst (-1), 1) := by decide +kernel
theorem d_CW_build_35 : decode mm_CW_build.2.1 35 = .ok (.if_icmp .ne 7, 3) := by decide +kernel
theorem d_CW_build_38 : decode mm_CW_build.2.1 38 = .ok (.lconst 0, 1) := by decide +kernel
theorem d_CW_build_39 : decode mm_CW_build.2.1 39 = .ok (.goto 6, 3) := by decide +kernel
theorem d_CW_build_42 : decode mm_CW_build.2.1 42 = .ok (.lconst 1, 1) := by decide +kernel
theorem d_CW_build_43 : decode mm_CW_build.2.1 43 = .ok (.iload_n 3, 1) := by decide +kernel
theorem d_CW_build_44 : decode mm_CW_build.2.1 44 = .ok (.lshl, 1) := by decide +kernel
theorem d_CW_build_45 : decode mm_CW_build.2.1 45 = .ok (.invokevirtual 81, 3) := by decide +kernel
theorem d_CW_build_48 : decode mm_CW_build.2.1 48 = .ok (.istore 4, 2) := by decide +kernel
theorem d_CW_build_50 : decode mm_CW_build.2.1 50 = .ok (.iload_n 3, 1) := by decide +kernel
theorem d_CW_build_51 : decode mm_CW_build.2.1 51 = .ok (.iconst (-1), 1) := by decide +kernel
theorem d_CW_build_52 : decode mm_CW_build.2.1 52 = .ok (.if_icmp .ne 7, 3) := by decide +kernel
theorem d_CW_build_55 : decode mm_CW_build.2.1 55 = .ok (.iconst (-1), 1) := by decide +kernel
theorem d_CW_build_56 : decode mm_CW_build.2.1 56 = .ok (.goto 5, 3) := by decide +kernel
theorem d_CW_build_59 : decode mm_CW_build.2.1 59 = .ok (.iload 4, 2) := by decide +kernel
theorem d_CW_build_61 : decode mm_CW_build.2.1 61 = .ok (.ireturn, 1) := by decide +kernel
theorem d_Lw_value_0 : decode mm_Lw_value.2.1 0 = .ok (.aload_n 1, 1) := by decide +kernel
theorem d_Lw_value_1 : decode mm_Lw_value.2.1 1 = .ok (.iconst 0, 1) := by decide +kernel
theorem d_Lw_value_2 : decode mm_Lw_value.2.1 2 = .ok (.aload_n 0, 1) := by decide +kernel
theorem d_Lw_value_3 : decode mm_Lw_value.2.1 3 = .ok (.invokevirtual 31, 3) := by decide +kernel
theorem d_Lw_value_6 : decode mm_Lw_value.2.1 6 = .ok (.lastore, 1) := by decide +kernel
theorem d_Lw_value_7 : decode mm_Lw_value.2.1 7 = .ok (.goto 6, 3) := by decide +kernel
theorem d_Lw_value_10 : decode mm_Lw_value.2.1 10 = .ok (.astore_n 2, 1) := by decide +kernel
theorem d_Lw_value_11 : decode mm_Lw_value.2.1 11 = .ok (.iconst 1, 1) := by decide +kernel
theorem d_Lw_value_12 : decode mm_Lw_value.2.1 12 = .ok (.ireturn, 1) := by decide +kernel
theorem d_Lw_value_13 : decode mm_Lw_value.2.1 13 = .ok (.iconst 0, 1) := by decide +kernel
theorem d_Lw_value_14 : decode mm_Lw_value.2.1 14 = .ok (.ireturn, 1) := by decide +kernel
theorem d_CW_value_0 : decode mm_CW_value.2.1 0 = .ok (.aload_n 0, 1) := by decide +kernel
theorem d_CW_value_1 : decode mm_CW_value.2.1 1 = .ok (.getfield 19, 3) := by decide +kernel
theorem d_CW_value_4 : decode mm_CW_value.2.1 4 = .ok (.aload_n 0, 1) := by decide +kernel
theorem d_CW_value_5 : decode mm_CW_value.2.1 5 = .ok (.getfield 19, 3) := by decide +kernel
theorem d_CW_value_8 : decode mm_CW_value.2.1 8 = .ok (.aload_n 0, 1) := by decide +kernel
theorem d_CW_value_9 : decode mm_CW_value.2.1 9 = .ok (.invokevirtual 69, 3) := by decide +kernel
theorem d_CW_value_12 : decode mm_CW_value.2.1 12 = .ok (.invokevirtual 88, 3) := by decide +kernel
theorem d_CW_value_15 : decode mm_CW_value.2.1 15 = .ok (.invokevirtual 92, 3) := by decide +kernel
theorem d_CW_value_18 : decode mm_CW_value.2.1 18 = .ok (.lreturn, 1) := by decide +kernel
theorem d_Lw_state_0 : decode mm_Lw_state.2.1 0 = .ok (.aload_n 1, 1) := by decide +kernel
theorem d_Lw_state_1 : decode mm_Lw_state.2.1 1 = .ok (.iconst 0, 1) := by decide +kernel
theorem d_Lw_state_2 : decode mm_Lw_state.2.1 2 = .ok (.aload_n 0, 1) := by decide +kernel
theorem d_Lw_state_3 : decode mm_Lw_state.2.1 3 = .ok (.invokevirtual 35, 3) := by decide +kernel
theorem d_Lw_state_6 : decode mm_Lw_state.2.1 6 = .ok (.i2l, 1) := by decide +kernel
theorem d_Lw_state_7 : decode mm_Lw_state.2.1 7 = .ok (.lastore, 1) := by decide +kernel
theorem d_Lw_state_8 : decode mm_Lw_state.2.1 8 = .ok (.goto 6, 3) := by decide +kernel
theorem d_Lw_state_11 : decode mm_Lw_state.2.1 11 = .ok (.astore_n 2, 1) := by decide +kernel
theorem d_Lw_state_12 : decode mm_Lw_state.2.1 12 = .ok (.iconst 1, 1) := by decide +kernel
theorem d_Lw_state_13 : decode mm_Lw_state.2.1 13 = .ok (.ireturn, 1) := by decide +kernel
theorem d_Lw_state_14 : decode mm_Lw_state.2.1 14 = .ok (.iconst 0, 1) := by decide +kernel
theorem d_Lw_state_15 : decode mm_Lw_state.2.1 15 = .ok (.ireturn, 1) := by decide +kernel
theorem d_CW_state_0 : decode mm_CW_state.2.1 0 = .ok (.aload_n 0, 1) := by decide +kernel
theorem d_CW_state_1 : decode mm_CW_state.2.1 1 = .ok (.getfield 19, 3) := by decide +kernel
theorem d_CW_state_4 : decode mm_CW_state.2.1 4 = .ok (.aload_n 0, 1) := by decide +kernel
theorem d_CW_state_5 : decode mm_CW_state.2.1 5 = .ok (.invokevirtual 69, 3) := by decide +kernel
theorem d_CW_state_8 : decode mm_CW_state.2.1 8 = .ok (.invokevirtual 88, 3) := by decide +kernel
theorem d_CW_state_11 : decode mm_CW_state.2.1 11 = .ok (.astore_n 1, 1) := by decide +kernel
theorem d_CW_state_12 : decode mm_CW_state.2.1 12 = .ok (.aload_n 1, 1) := by decide +kernel
theorem d_CW_state_13 : decode mm_CW_state.2.1 13 = .ok (.ifnonnull 5, 3) := by decide +kernel
theorem d_CW_state_16 : decode mm_CW_state.2.1 16 = .ok (.iconst (-1), 1) := by decide +kernel
theorem d_CW_state_17 : decode mm_CW_state.2.1 17 = .ok (.ireturn, 1) := by decide +kernel
theorem d_CW_state_18 : decode mm_CW_state.2.1 18 = .ok (.aload_n 1, 1) := by decide +kernel
theorem d_CW_state_19 : decode mm_CW_state.2.1 19 = .ok (.getfield 96, 3) := by decide +kernel
theorem d_CW_state_22 : decode mm_CW_state.2.1 22 = .ok (.aload_n 0, 1) := by decide +kernel
theorem d_CW_state_23 : decode mm_CW_state.2.1 23 = .ok (.getfield 19, 3) := by decide +kernel
theorem d_CW_state_26 : decode mm_CW_state.2.1 26 = .ok (.aload_n 1, 1) := by decide +kernel
theorem d_CW_state_27 : decode mm_CW_state.2.1 27 = .ok (.invokevirtual 101, 3) := by decide +kernel
theorem d_CW_state_30 : decode mm_CW_state.2.1 30 = .ok (.ifCond .eq 7, 3) := by decide +kernel
theorem d_CW_state_33 : decode mm_CW_state.2.1 33 = .ok (.iconst 4, 1) := by decide +kernel
theorem d_CW_state_34 : decode mm_CW_state.2.1 34 = .ok (.goto 4, 3) := by decide +kernel
theorem d_CW_state_37 : decode mm_CW_state.2.1 37 = .ok (.iconst 0, 1) := by decide +kernel
theorem d_CW_state_38 : decode mm_CW_state.2.1 38 = .ok (.iadd, 1) := by decide +kernel
theorem d_CW_state_39 : decode mm_CW_state.2.1 39 = .ok (.ireturn, 1) := by decide +kernel
theorem d_Lw_readers_0 : decode mm_Lw_readers.2.1 0 = .ok (.aload_n 2, 1) := by decide +kernel
theorem d_Lw_readers_1 : decode mm_Lw_readers.2.1 1 = .ok (.iconst 0, 1) := by decide +kernel
theorem d_Lw_readers_2 : decode mm_Lw_readers.2.1 2 = .ok (.aload_n 0, 1) := by decide +kernel
theorem d_Lw_readers_3 : decode mm_Lw_readers.2.1 3 = .ok (.iload_n 1, 1) := by decide +kernel
theorem d_Lw_readers_4 : decode mm_Lw_readers.2.1 4 = .ok (.invokevirtual 38, 3) := by decide +kernel
theorem d_Lw_readers_7 : decode mm_Lw_readers.2.1 7 = .ok (.i2l, 1) := by decide +kernel
theorem d_Lw_readers_8 : decode mm_Lw_readers.2.1 8 = .ok (.lastore, 1) := by decide +kernel
theorem d_Lw_readers_9 : decode mm_Lw_readers.2.1 9 = .ok (.goto 6, 3) := by decide +kernel
theorem d_Lw_readers_12 : decode mm_Lw_readers.2.1 12 = .ok (.astore_n 3, 1) := by decide +kernel
theorem d_Lw_readers_13 : decode mm_Lw_readers.2.1 13 = .ok (.iconst 1, 1) := by decide +kernel
theorem d_Lw_readers_14 : decode mm_Lw_readers.2.1 14 = .ok (.ireturn, 1) := by decide +kernel
theorem d_Lw_readers_15 : decode mm_Lw_readers.2.1 15 = .ok (.iconst 0, 1) := by decide +kernel
theorem d_Lw_readers_16 : decode mm_Lw_readers.2.1 16 = .ok (.ireturn, 1) := by decide +kernel
theorem d_CW_readers_0 : decode mm_CW_readers.2.1 0 = .ok (.aload_n 0, 1) := by decide +kernel
theorem d_CW_readers_1 : decode mm_CW_readers.2.1 1 = .ok (.invokevirtual 69, 3) := by decide +kernel
theorem d_CW_readers_4 : decode mm_CW_readers.2.1 4 = .ok (.lstore_n 2, 1) := by decide +kernel
theorem d_CW_readers_5 : decode mm_CW_readers.2.1 5 = .ok (.iload_n 1, 1) := by decide +kernel
theorem d_CW_readers_6 : decode mm_CW_readers.2.1 6 = .ok (.ifCond .eq 14, 3) := by decide +kernel
theorem d_CW_readers_9 : decode mm_CW_readers.2.1 9 = .ok (.aload_n 0, 1) := by decide +kernel
theorem d_CW_readers_10 : decode mm_CW_readers.2.1 10 = .ok (.getfield 19, 3) := by decide +kernel
theorem d_CW_readers_13 : decode mm_CW_readers.2.1 13 = .ok (.lload_n 2, 1) := by decide +kernel
theorem d_CW_readers_14 : decode mm_CW_readers.2.1 14 = .ok (.invokevirtual 105, 3) := by decide +kernel
theorem d_CW_readers_17 : decode mm_CW_readers.2.1 17 = .ok (.goto 11, 3) := by decide +kernel
theorem d_CW_readers_20 : decode mm_CW_readers.2.1 20 = .ok (.aload_n 0, 1) := by decide +kernel
theorem d_CW_readers_21 : decode mm_CW_readers.2.1 21 = .ok (.getfield 19, 3) := by decide +kernel
theorem d_CW_readers_24 : decode mm_CW_readers.2.1 24 = .ok (.lload_n 2, 1) := by decide +kernel
theorem d_CW_readers_25 : decode mm_CW_readers.2.1 25 = .ok (.invokevirtual 109, 3) := by decide +kernel
theorem d_CW_readers_28 : decode mm_CW_readers.2.1 28 = .ok (.invokestatic 112, 3) := by decide +kernel
theorem d_CW_readers_31 : decode mm_CW_readers.2.1 31 = .ok (.ireturn, 1) := by decide +kernel
theorem d_Lo_bitCount_0 : decode mm_Lo_bitCount.2.1 0 = .ok (.lload_n 0, 1) := by decide +kernel
theorem d_Lo_bitCount_1 : decode mm_Lo_bitCount.2.1 1 = .ok (.lload_n 0, 1) := by decide +kernel
theorem d_Lo_bitCount_2 : decode mm_Lo_bitCount.2.1 2 = .ok (.iconst 1, 1) := by decide +kernel
theorem d_Lo_bitCount_3 : decode mm_Lo_bitCount.2.1 3 = .ok (.lushr, 1) := by decide +kernel
theorem d_Lo_bitCount_4 : decode mm_Lo_bitCount.2.1 4 = .ok (.ldc2_w 314, 3) := by decide +kernel
theorem d_Lo_bitCount_7 : decode mm_Lo_bitCount.2.1 7 = .ok (.land, 1) := by decide +kernel
theorem d_Lo_bitCount_8 : decode mm_Lo_bitCount.2.1 8 = .ok (.lsub, 1) := by decide +kernel
theorem d_Lo_bitCount_9 : decode mm_Lo_bitCount.2.1 9 = .ok (.lstore_n 0, 1) := by decide +kernel
theorem d_Lo_bitCount_10 : decode mm_Lo_bitCount.2.1 10 = .ok (.lload_n 0, 1) := by decide +kernel
theorem d_Lo_bitCount_11 : decode mm_Lo_bitCount.2.1 11 = .ok (.ldc2_w 316, 3) := by decide +kernel
theorem d_Lo_bitCount_14 : decode mm_Lo_bitCount.2.1 14 = .ok (.land, 1) := by decide +kernel
theorem d_Lo_bitCount_15 : decode mm_Lo_bitCount.2.1 15 = .ok (.lload_n 0, 1) := by decide +kernel
theorem d_Lo_bitCount_16 : decode mm_Lo_bitCount.2.1 16 = .ok (.iconst 2, 1) := by decide +kernel
theorem d_Lo_bitCount_17 : decode mm_Lo_bitCount.2.1 17 = .ok (.lushr, 1) := by decide +kernel
theorem d_Lo_bitCount_18 : decode mm_Lo_bitCount.2.1 18 = .ok (.ldc2_w 316, 3) := by decide +kernel
theorem d_Lo_bitCount_21 : decode mm_Lo_bitCount.2.1 21 = .ok (.land, 1) := by decide +kernel
theorem d_Lo_bitCount_22 : decode mm_Lo_bitCount.2.1 22 = .ok (.ladd, 1) := by decide +kernel
theorem d_Lo_bitCount_23 : decode mm_Lo_bitCount.2.1 23 = .ok (.lstore_n 0, 1) := by decide +kernel
theorem d_Lo_bitCount_24 : decode mm_Lo_bitCount.2.1 24 = .ok (.lload_n 0, 1) := by decide +kernel
theorem d_Lo_bitCount_25 : decode mm_Lo_bitCount.2.1 25 = .ok (.lload_n 0, 1) := by decide +kernel
theorem d_Lo_bitCount_26 : decode mm_Lo_bitCount.2.1 26 = .ok (.iconst 4, 1) := by decide +kernel
theorem d_Lo_bitCount_27 : decode mm_Lo_bitCount.2.1 27 = .ok (.lushr, 1) := by decide +kernel
theorem d_Lo_bitCount_28 : decode mm_Lo_bitCount.2.1 28 = .ok (.ladd, 1) := by decide +kernel
theorem d_Lo_bitCount_29 : decode mm_Lo_bitCount.2.1 29 = .ok (.ldc2_w 318, 3) := by decide +kernel
theorem d_Lo_bitCount_32 : decode mm_Lo_bitCount.2.1 32 = .ok (.land, 1) := by decide +kernel
theorem d_Lo_bitCount_33 : decode mm_Lo_bitCount.2.1 33 = .ok (.lstore_n 0, 1) := by decide +kernel
theorem d_Lo_bitCount_34 : decode mm_Lo_bitCount.2.1 34 = .ok (.lload_n 0, 1) := by decide +kernel
theorem d_Lo_bitCount_35 : decode mm_Lo_bitCount.2.1 35 = .ok (.lload_n 0, 1) := by decide +kernel
theorem d_Lo_bitCount_36 : decode mm_Lo_bitCount.2.1 36 = .ok (.bipush 8, 2) := by decide +kernel
theorem d_Lo_bitCount_38 : decode mm_Lo_bitCount.2.1 38 = .ok (.lushr, 1) := by decide +kernel
theorem d_Lo_bitCount_39 : decode mm_Lo_bitCount.2.1 39 = .ok (.ladd, 1) := by decide +kernel
theorem d_Lo_bitCount_40 : decode mm_Lo_bitCount.2.1 40 = .ok (.lstore_n 0, 1) := by decide +kernel
theorem d_Lo_bitCount_41 : decode mm_Lo_bitCount.2.1 41 = .ok (.lload_n 0, 1) := by decide +kernel
theorem d_Lo_bitCount_42 : decode mm_Lo_bitCount.2.1 42 = .ok (.lload_n 0, 1) := by decide +kernel
theorem d_Lo_bitCount_43 : decode mm_Lo_bitCount.2.1 43 = .ok (.bipush 16, 2) := by decide +kernel
theorem d_Lo_bitCount_45 : decode mm_Lo_bitCount.2.1 45 = .ok (.lushr, 1) := by decide +kernel
theorem d_Lo_bitCount_46 : decode mm_Lo_bitCount.2.1 46 = .ok (.ladd, 1) := by decide +kernel
theorem d_Lo_bitCount_47 : decode mm_Lo_bitCount.2.1 47 = .ok (.lstore_n 0, 1) := by decide +kernel
theorem d_Lo_bitCount_48 : decode mm_Lo_bitCount.2.1 48 = .ok (.lload_n 0, 1) := by decide +kernel
theorem d_Lo_bitCount_49 : decode mm_Lo_bitCount.2.1 49 = .ok (.lload_n 0, 1) := by decide +kernel
theorem d_Lo_bitCount_50 : decode mm_Lo_bitCount.2.1 50 = .ok (.bipush 32, 2) := by decide +kernel
theorem d_Lo_bitCount_52 : decode mm_Lo_bitCount.2.1 52 = .ok (.lushr, 1) := by decide +kernel
theorem d_Lo_bitCount_53 : decode mm_Lo_bitCount.2.1 53 = .ok (.ladd, 1) := by decide +kernel
theorem d_Lo_bitCount_54 : decode mm_Lo_bitCount.2.1 54 = .ok (.lstore_n 0, 1) := by decide +kernel
theorem d_Lo_bitCount_55 : decode mm_Lo_bitCount.2.1 55 = .ok (.lload_n 0, 1) := by decide +kernel
theorem d_Lo_bitCount_56 : decode mm_Lo_bitCount.2.1 56 = .ok (.l2i, 1) := by decide +kernel
theorem d_Lo_bitCount_57 : decode mm_Lo_bitCount.2.1 57 = .ok (.bipush 127, 2) := by decide +kernel
theorem d_Lo_bitCount_59 : decode mm_Lo_bitCount.2.1 59 = .ok (.iand, 1) := by decide +kernel
theorem d_Lo_bitCount_60 : decode mm_Lo_bitCount.2.1 60 = .ok (.ireturn, 1) := by decide +kernel
theorem d_Lw_built_0 : decode mm_Lw_built.2.1 0 = .ok (.aload_n 3, 1) := by decide +kernel
theorem d_Lw_built_1 : decode mm_Lw_built.2.1 1 = .ok (.iconst 0, 1) := by decide +kernel
theorem d_Lw_built_2 : decode mm_Lw_built.2.1 2 = .ok (.aload_n 0, 1) := by decide +kernel
theorem d_Lw_built_3 : decode mm_Lw_built.2.1 3 = .ok (.iload_n 1, 1) := by decide +kernel
theorem d_Lw_built_4 : decode mm_Lw_built.2.1 4 = .ok (.iload_n 2, 1) := by decide +kernel
theorem d_Lw_built_5 : decode mm_Lw_built.2.1 5 = .ok (.invokevirtual 42, 3) := by decide +kernel
theorem d_Lw_built_8 : decode mm_Lw_built.2.1 8 = .ok (.i2l, 1) := by decide +kernel
theorem d_Lw_built_9 : decode mm_Lw_built.2.1 9 = .ok (.lastore, 1) := by decide +kernel
theorem d_Lw_built_10 : decode mm_Lw_built.2.1 10 = .ok (.goto 7, 3) := by decide +kernel
theorem d_Lw_built_13 : decode mm_Lw_built.2.1 13 = .ok (.astore 4, 2) := by decide +kernel
theorem d_Lw_built_15 : decode mm_Lw_built.2.1 15 = .ok (.iconst 1, 1) := by decide +kernel
theorem d_Lw_built_16 : decode mm_Lw_built.2.1 16 = .ok (.ireturn, 1) := by decide +kernel
theorem d_Lw_built_17 : decode mm_Lw_built.2.1 17 = .ok (.iconst 0, 1) := by decide +kernel
theorem d_Lw_built_18 : decode mm_Lw_built.2.1 18 = .ok (.ireturn, 1) := by decide +kernel
theorem d_CW_built_0 : decode mm_CW_built.2.1 0 = .ok (.aload_n 0, 1) := by decide +kernel
theorem d_CW_built_1 : decode mm_CW_built.2.1 1 = .ok (.getfield 26, 3) := by decide +kernel
theorem d_CW_built_4 : decode mm_CW_built.2.1 4 = .ok (.iload_n 1, 1) := by decide +kernel
theorem d_CW_built_5 : decode mm_CW_built.2.1 5 = .ok (.iload_n 2, 1) := by decide +kernel
theorem d_CW_built_6 : decode mm_CW_built.2.1 6 = .ok (.invokevirtual 117, 3) := by decide +kernel
theorem d_CW_built_9 : decode mm_CW_built.2.1 9 = .ok (.istore_n 3, 1) := by decide +kernel
theorem d_CW_built_10 : decode mm_CW_built.2.1 10 = .ok (.iload_n 3, 1) := by decide +kernel
theorem d_CW_built_11 : decode mm_CW_built.2.1 11 = .ok (.iconst (-1), 1) := by decide +kernel
theorem d_CW_built_12 : decode mm_CW_built.2.1 12 = .ok (.if_icmp .ne 13, 3) := by decide +kernel
theorem d_CW_built_15 : decode mm_CW_built.2.1 15 = .ok (.new 121, 3) := by decide +kernel
theorem d_CW_built_18 : decode mm_CW_built.2.1 18 = .ok (.dup, 1) := by decide +kernel
theorem d_CW_built_19 : decode mm_CW_built.2.1 19 = .ok (.ldc 123, 2) := by decide +kernel
theorem d_CW_built_21 : decode mm_CW_built.2.1 21 = .ok (.invokespecial 125, 3) := by decide +kernel
theorem d_CW_built_24 : decode mm_CW_built.2.1 24 = .ok (.athrow, 1) := by decide +kernel
theorem d_CW_built_25 : decode mm_CW_built.2.1 25 = .ok (.iload_n 3, 1) := by decide +kernel
theorem d_CW_built_26 : decode mm_CW_built.2.1 26 = .ok (.ireturn, 1) := by decide +kernel
theorem d_Bd_byteOfLatest_0 : decode mm_Bd_byteOfLatest.2.1 0 = .ok (.iload_n 1, 1) := by decide +kernel
theorem d_Bd_byteOfLatest_1 : decode mm_Bd_byteOfLatest.2.1 1 = .ok (.ifCond .lt 21, 3) := by decide +kernel
theorem d_Bd_byteOfLatest_4 : decode mm_Bd_byteOfLatest.2.1 4 = .ok (.iload_n 1, 1) := by decide +kernel
theorem d_Bd_byteOfLatest_5 : decode mm_Bd_byteOfLatest.2.1 5 = .ok (.aload_n 0, 1) := by decide +kernel
theorem d_Bd_byteOfLatest_6 : decode mm_Bd_byteOfLatest.2.1 6 = .ok (.getfield 22, 3) := by decide +kernel
theorem d_Bd_byteOfLatest_9 : decode mm_Bd_byteOfLatest.2.1 9 = .ok (.if_icmp .ge 13, 3) := by decide +kernel
theorem d_Bd_byteOfLatest_12 : decode mm_Bd_byteOfLatest.2.1 12 = .ok (.iload_n 2, 1) := by decide +kernel
theorem d_Bd_byteOfLatest_13 : decode mm_Bd_byteOfLatest.2.1 13 = .ok (.ifCond .lt 9, 3) := by decide +kernel
theorem d_Bd_byteOfLatest_16 : decode mm_Bd_byteOfLatest.2.1 16 = .ok (.iload_n 2, 1) := by decide +kernel
theorem d_Bd_byteOfLatest_17 : decode mm_Bd_byteOfLatest.2.1 17 = .ok (.bipush 8, 2) := by decide +kernel
theorem d_Bd_byteOfLatest_19 : decode mm_Bd_byteOfLatest.2.1 19 = .ok (.if_icmp .lt 5, 3) := by decide +kernel
theorem d_Bd_byteOfLatest_22 : decode mm_Bd_byteOfLatest.2.1 22 = .ok (.iconst (-1), 1) := by decide +kernel
theorem d_Bd_byteOfLatest_23 : decode mm_Bd_byteOfLatest.2.1 23 = .ok (.ireturn, 1) := by decide +kernel
theorem d_Bd_byteOfLatest_24 : decode mm_Bd_byteOfLatest.2.1 24 = .ok (.aload_n 0, 1) := by decide +kernel
theorem d_Bd_byteOfLatest_25 : decode mm_Bd_byteOfLatest.2.1 25 = .ok (.getfield 18, 3) := by decide +kernel
theorem d_Bd_byteOfLatest_28 : decode mm_Bd_byteOfLatest.2.1 28 = .ok (.iload_n 1, 1) := by decide +kernel
theorem d_Bd_byteOfLatest_29 : decode mm_Bd_byteOfLatest.2.1 29 = .ok (.laload, 1) := by decide +kernel
theorem d_Bd_byteOfLatest_30 : decode mm_Bd_byteOfLatest.2.1 30 = .ok (.bipush 56, 2) := by decide +kernel
theorem d_Bd_byteOfLatest_32 : decode mm_Bd_byteOfLatest.2.1 32 = .ok (.bipush 8, 2) := by decide +kernel
theorem d_Bd_byteOfLatest_34 : decode mm_Bd_byteOfLatest.2.1 34 = .ok (.iload_n 2, 1) := by decide +kernel
theorem d_Bd_byteOfLatest_35 : decode mm_Bd_byteOfLatest.2.1 35 = .ok (.imul, 1) := by decide +kernel
theorem d_Bd_byteOfLatest_36 : decode mm_Bd_byteOfLatest.2.1 36 = .ok (.isub, 1) := by decide +kernel
theorem d_Bd_byteOfLatest_37 : decode mm_Bd_byteOfLatest.2.1 37 = .ok (.lushr, 1) := by decide +kernel
theorem d_Bd_byteOfLatest_38 : decode mm_Bd_byteOfLatest.2.1 38 = .ok (.l2i, 1) := by decide +kernel
theorem d_Bd_byteOfLatest_39 : decode mm_Bd_byteOfLatest.2.1 39 = .ok (.sipush 255, 3) := by decide +kernel
theorem d_Bd_byteOfLatest_42 : decode mm_Bd_byteOfLatest.2.1 42 = .ok (.iand, 1) := by decide +kernel
theorem d_Bd_byteOfLatest_43 : decode mm_Bd_byteOfLatest.2.1 43 = .ok (.istore_n 3, 1) := by decide +kernel
theorem d_Bd_byteOfLatest_44 : decode mm_Bd_byteOfLatest.2.1 44 = .ok (.iload_n 3, 1) := by decide +kernel
theorem d_Bd_byteOfLatest_45 : decode mm_Bd_byteOfLatest.2.1 45 = .ok (.ifCond .ne 7, 3) := by decide +kernel
theorem d_Bd_byteOfLatest_48 : decode mm_Bd_byteOfLatest.2.1 48 = .ok (.iconst (-1), 1) := by decide +kernel
theorem d_Bd_byteOfLatest_49 : decode mm_Bd_byteOfLatest.2.1 49 = .ok (.goto 4, 3) := by decide +kernel
theorem d_Bd_byteOfLatest_52 : decode mm_Bd_byteOfLatest.2.1 52 = .ok (.iload_n 3, 1) := by decide +kernel
theorem d_Bd_byteOfLatest_53 : decode mm_Bd_byteOfLatest.2.1 53 = .ok (.ireturn, 1) := by decide +kernel
theorem d_Lw_count_0 : decode mm_Lw_count.2.1 0 = .ok (.aload_n 2, 1) := by decide +kernel
theorem d_Lw_count_1 : decode mm_Lw_count.2.1 1 = .ok (.iconst 0, 1) := by decide +kernel
theorem d_Lw_count_2 : decode mm_Lw_count.2.1 2 = .ok (.aload_n 0, 1) := by decide +kernel
theorem d_Lw_count_3 : decode mm_Lw_count.2.1 3 = .ok (.iload_n 1, 1) := by decide +kernel
theorem d_Lw_count_4 : decode mm_Lw_count.2.1 4 = .ok (.invokevirtual 48, 3) := by decide +kernel
theorem d_Lw_count_7 : decode mm_Lw_count.2.1 7 = .ok (.i2l, 1) := by decide +kernel
theorem d_Lw_count_8 : decode mm_Lw_count.2.1 8 = .ok (.lastore, 1) := by decide +kernel
theorem d_Lw_count_9 : decode mm_Lw_count.2.1 9 = .ok (.goto 6, 3) := by decide +kernel
theorem d_Lw_count_12 : decode mm_Lw_count.2.1 12 = .ok (.astore_n 3, 1) := by decide +kernel
theorem d_Lw_count_13 : decode mm_Lw_count.2.1 13 = .ok (.iconst 1, 1) := by decide +kernel
theorem d_Lw_count_14 : decode mm_Lw_count.2.1 14 = .ok (.ireturn, 1) := by decide +kernel
theorem d_Lw_count_15 : decode mm_Lw_count.2.1 15 = .ok (.iconst 0, 1) := by decide +kernel
theorem d_Lw_count_16 : decode mm_Lw_count.2.1 16 = .ok (.ireturn, 1) := by decide +kernel
theorem d_CW_count_0 : decode mm_CW_count.2.1 0 = .ok (.iload_n 1, 1) := by decide +kernel
theorem d_CW_count_1 : decode mm_CW_count.2.1 1 = .ok (.tableswitch 78 0 4 #[35, 43, 51, 62, 70], 35) := by decide +kernel
theorem d_CW_count_36 : decode mm_CW_count.2.1 36 = .ok (.aload_n 0, 1) := by decide +kernel
theorem d_CW_count_37 : decode mm_CW_count.2.1 37 = .ok (.getfield 19, 3) := by decide +kernel
theorem d_CW_count_40 : decode mm_CW_count.2.1 40 = .ok (.getfield 126, 3) := by decide +kernel
theorem d_CW_count_43 : decode mm_CW_count.2.1 43 = .ok (.ireturn, 1) := by decide +kernel
theorem d_CW_count_44 : decode mm_CW_count.2.1 44 = .ok (.aload_n 0, 1) := by decide +kernel
theorem d_CW_count_45 : decode mm_CW_count.2.1 45 = .ok (.getfield 19, 3) := by decide +kernel
theorem d_CW_count_48 : decode mm_CW_count.2.1 48 = .ok (.invokevirtual 129, 3) := by decide +kernel
theorem d_CW_count_51 : decode mm_CW_count.2.1 51 = .ok (.ireturn, 1) := by decide +kernel
theorem d_CW_count_52 : decode mm_CW_count.2.1 52 = .ok (.aload_n 0, 1) := by decide +kernel
theorem d_CW_count_53 : decode mm_CW_count.2.1 53 = .ok (.getfield 12, 3) := by decide +kernel
theorem d_CW_count_56 : decode mm_CW_count.2.1 56 = .ok (.getfield 30, 3) := by decide +kernel
theorem d_CW_count_59 : decode mm_CW_count.2.1 59 = .ok (.getfield 34, 3) := by decide +kernel
theorem d_CW_count_62 : decode mm_CW_count.2.1 62 = .ok (.ireturn, 1) := by decide +kernel
theorem d_CW_count_63 : decode mm_CW_count.2.1 63 = .ok (.aload_n 0, 1) := by decide +kernel
theorem d_CW_count_64 : decode mm_CW_count.2.1 64 = .ok (.getfield 26, 3) := by decide +kernel
theorem d_CW_count_67 : decode mm_CW_count.2.1 67 = .ok (.getfield 133, 3) := by decide +kernel
theorem d_CW_count_70 : decode mm_CW_count.2.1 70 = .ok (.ireturn, 1) := by decide +kernel
theorem d_CW_count_71 : decode mm_CW_count.2.1 71 = .ok (.aload_n 0, 1) := by decide +kernel
theorem d_CW_count_72 : decode mm_CW_count.2.1 72 = .ok (.getfield 26, 3) := by decide +kernel
theorem d_CW_count_75 : decode mm_CW_count.2.1 75 = .ok (.getfield 136, 3) := by decide +kernel
theorem d_CW_count_78 : decode mm_CW_count.2.1 78 = .ok (.ireturn, 1) := by decide +kernel
theorem d_CW_count_79 : decode mm_CW_count.2.1 79 = .ok (.new 51, 3) := by decide +kernel
theorem d_CW_count_82 : decode mm_CW_count.2.1 82 = .ok (.dup, 1) := by decide +kernel
theorem d_CW_count_83 : decode mm_CW_count.2.1 83 = .ok (.ldc 139, 2) := by decide +kernel
theorem d_CW_count_85 : decode mm_CW_count.2.1 85 = .ok (.invokespecial 55, 3) := by decide +kernel
theorem d_CW_count_88 : decode mm_CW_count.2.1 88 = .ok (.athrow, 1) := by decide +kernel
theorem d_Cs_staleOnes_0 : decode mm_Cs_staleOnes.2.1 0 = .ok (.iconst 0, 1) := by decide +kernel
theorem d_Cs_staleOnes_1 : decode mm_Cs_staleOnes.2.1 1 = .ok (.istore_n 1, 1) := by decide +kernel
theorem d_Cs_staleOnes_2 : decode mm_Cs_staleOnes.2.1 2 = .ok (.iconst 0, 1) := by decide +kernel
theorem d_Cs_staleOnes_3 : decode mm_Cs_staleOnes.2.1 3 = .ok (.istore_n 2, 1) := by decide +kernel
theorem d_Cs_staleOnes_4 : decode mm_Cs_staleOnes.2.1 4 = .ok (.iload_n 2, 1) := by decide +kernel
theorem d_Cs_staleOnes_5 : decode mm_Cs_staleOnes.2.1 5 = .ok (.aload_n 0, 1) := by decide +kernel
theorem d_Cs_staleOnes_6 : decode mm_Cs_staleOnes.2.1 6 = .ok (.getfield 17, 3) := by decide +kernel
theorem d_Cs_staleOnes_9 : decode mm_Cs_staleOnes.2.1 9 = .ok (.if_icmp .ge 25, 3) := by decide +kernel
theorem d_Cs_staleOnes_12 : decode mm_Cs_staleOnes.2.1 12 = .ok (.aload_n 0, 1) := by decide +kernel
theorem d_Cs_staleOnes_13 : decode mm_Cs_staleOnes.2.1 13 = .ok (.aload_n 0, 1) := by decide +kernel
theorem d_Cs_staleOnes_14 : decode mm_Cs_staleOnes.2.1 14 = .ok (.getfield 11, 3) := by decide +kernel
theorem d_Cs_staleOnes_17 : decode mm_Cs_staleOnes.2.1 17 = .ok (.iload_n 2, 1) := by decide +kernel
theorem d_Cs_staleOnes_18 : decode mm_Cs_staleOnes.2.1 18 = .ok (.aaload, 1) := by decide +kernel
theorem d_Cs_staleOnes_19 : decode mm_Cs_staleOnes.2.1 19 = .ok (.invokevirtual 77, 3) := by decide +kernel
theorem d_Cs_staleOnes_22 : decode mm_Cs_staleOnes.2.1 22 = .ok (.ifCond .eq 6, 3) := by decide +kernel
theorem d_Cs_staleOnes_25 : decode mm_Cs_staleOnes.2.1 25 = .ok (.iinc 1 1, 3) := by decide +kernel
theorem d_Cs_staleOnes_28 : decode mm_Cs_staleOnes.2.1 28 = .ok (.iinc 2 1, 3) := by decide +kernel
theorem d_Cs_staleOnes_31 : decode mm_Cs_staleOnes.2.1 31 = .ok (.goto (-27), 3) := by decide +kernel
theorem d_Cs_staleOnes_34 : decode mm_Cs_staleOnes.2.1 34 = .ok (.iload_n 1, 1) := by decide +kernel
theorem d_Cs_staleOnes_35 : decode mm_Cs_staleOnes.2.1 35 = .ok (.ireturn, 1) := by decide +kernel
theorem d_Md_init_0 : decode mm_Md_init.2.1 0 = .ok (.aload_n 0, 1) := by decide +kernel
theorem d_Md_init_1 : decode mm_Md_init.2.1 1 = .ok (.invokespecial 1, 3) := by decide +kernel
theorem d_Md_init_4 : decode mm_Md_init.2.1 4 = .ok (.aload_n 0, 1) := by decide +kernel
theorem d_Md_init_5 : decode mm_Md_init.2.1 5 = .ok (.sipush 2000, 3) := by decide +kernel
theorem d_Md_init_8 : decode mm_Md_init.2.1 8 = .ok (.newarray .int, 2) := by decide +kernel
theorem d_Md_init_10 : decode mm_Md_init.2.1 10 = .ok (.putfield 7, 3) := by decide +kernel
theorem d_Md_init_13 : decode mm_Md_init.2.1 13 = .ok (.aload_n 0, 1) := by decide +kernel
theorem d_Md_init_14 : decode mm_Md_init.2.1 14 = .ok (.bipush 64, 2) := by decide +kernel
theorem d_Md_init_16 : decode mm_Md_init.2.1 16 = .ok (.newarray .boolean, 2) := by decide +kernel
theorem d_Md_init_18 : decode mm_Md_init.2.1 18 = .ok (.putfield 13, 3) := by decide +kernel
theorem d_Md_init_21 : decode mm_Md_init.2.1 21 = .ok (.aload_n 0, 1) := by decide +kernel
theorem d_Md_init_22 : decode mm_Md_init.2.1 22 = .ok (.bipush 64, 2) := by decide +kernel
theorem d_Md_init_24 : decode mm_Md_init.2.1 24 = .ok (.newarray .long, 2) := by decide +kernel
theorem d_Md_init_26 : decode mm_Md_init.2.1 26 = .ok (.putfield 17, 3) := by decide +kernel
theorem d_Md_init_29 : decode mm_Md_init.2.1 29 = .ok (.aload_n 0, 1) := by decide +kernel
theorem d_Md_init_30 : decode mm_Md_init.2.1 30 = .ok (.bipush 64, 2) := by decide +kernel
theorem d_Md_init_32 : decode mm_Md_init.2.1 32 = .ok (.newarray .int, 2) := by decide +kernel
theorem d_Md_init_34 : decode mm_Md_init.2.1 34 = .ok (.putfield 21, 3) := by decide +kernel
theorem d_Md_init_37 : decode mm_Md_init.2.1 37 = .ok (.aload_n 0, 1) := by decide +kernel
theorem d_Md_init_38 : decode mm_Md_init.2.1 38 = .ok (.bipush 64, 2) := by decide +kernel
theorem d_Md_init_40 : decode mm_Md_init.2.1 40 = .ok (.newarray .long, 2) := by decide +kernel
theorem d_Md_init_42 : decode mm_Md_init.2.1 42 = .ok (.putfield 24, 3) := by decide +kernel
theorem d_Md_init_45 : decode mm_Md_init.2.1 45 = .ok (.aload_n 0, 1) := by decide +kernel
theorem d_Md_init_46 : decode mm_Md_init.2.1 46 = .ok (.bipush 64, 2) := by decide +kernel
theorem d_Md_init_48 : decode mm_Md_init.2.1 48 = .ok (.newarray .boolean, 2) := by decide +kernel
theorem d_Md_init_50 : decode mm_Md_init.2.1 50 = .ok (.putfield 27, 3) := by decide +kernel
theorem d_Md_init_53 : decode mm_Md_init.2.1 53 = .ok (.aload_n 0, 1) := by decide +kernel
theorem d_Md_init_54 : decode mm_Md_init.2.1 54 = .ok (.bipush 64, 2) := by decide +kernel
theorem d_Md_init_56 : decode mm_Md_init.2.1 56 = .ok (.newarray .int, 2) := by decide +kernel
theorem d_Md_init_58 : decode mm_Md_init.2.1 58 = .ok (.putfield 30, 3) := by decide +kernel
theorem d_Md_init_61 : decode mm_Md_init.2.1 61 = .ok (.aload_n 0, 1) := by decide +kernel
theorem d_Md_init_62 : decode mm_Md_init.2.1 62 = .ok (.bipush 64, 2) := by decide +kernel
theorem d_Md_init_64 : decode mm_Md_init.2.1 64 = .ok (.newarray .int, 2) := by decide +kernel
theorem d_Md_init_66 : decode mm_Md_init.2.1 66 = .ok (.putfield 33, 3) := by decide +kernel
theorem d_Md_init_69 : decode mm_Md_init.2.1 69 = .ok (.aload_n 0, 1) := by decide +kernel
theorem d_Md_init_70 : decode mm_Md_init.2.1 70 = .ok (.sipush 2560, 3) := by decide +kernel
theorem d_Md_init_73 : decode mm_Md_init.2.1 73 = .ok (.newarray .int, 2) := by decide +kernel
theorem d_Md_init_75 : decode mm_Md_init.2.1 75 = .ok (.putfield 36, 3) := by decide +kernel
theorem d_Md_init_78 : decode mm_Md_init.2.1 78 = .ok (.aload_n 0, 1) := by decide +kernel
theorem d_Md_init_79 : decode mm_Md_init.2.1 79 = .ok (.sipush 2560, 3) := by decide +kernel
theorem d_Md_init_82 : decode mm_Md_init.2.1 82 = .ok (.newarray .int, 2) := by decide +kernel
theorem d_Md_init_84 : decode mm_Md_init.2.1 84 = .ok (.putfield 39, 3) := by decide +kernel
theorem d_Md_init_87 : decode mm_Md_init.2.1 87 = .ok (.aload_n 0, 1) := by decide +kernel
theorem d_Md_init_88 : decode mm_Md_init.2.1 88 = .ok (.sipush 2560, 3) := by decide +kernel
theorem d_Md_init_91 : decode mm_Md_init.2.1 91 = .ok (.newarray .int, 2) := by decide +kernel
theorem d_Md_init_93 : decode mm_Md_init.2.1 93 = .ok (.putfield 42, 3) := by decide +kernel
theorem d_Md_init_96 : decode mm_Md_init.2.1 96 = .ok (.aload_n 0, 1) := by decide +kernel
theorem d_Md_init_97 : decode mm_Md_init.2.1 97 = .ok (.sipush 2560, 3) := by decide +kernel
theorem d_Md_init_100 : decode mm_Md_init.2.1 100 = .ok (.newarray .int, 2) := by decide +kernel
theorem d_Md_init_102 : decode mm_Md_init.2.1 102 = .ok (.putfield 45, 3) := by decide +kernel
theorem d_Md_init_105 : decode mm_Md_init.2.1 105 = .ok (.aload_n 0, 1) := by decide +kernel
theorem d_Md_init_106 : decode mm_Md_init.2.1 106 = .ok (.sipush 2560, 3) := by decide +kernel
theorem d_Md_init_109 : decode mm_Md_init.2.1 109 = .ok (.newarray .long, 2) := by decide +kernel
theorem d_Md_init_111 : decode mm_Md_init.2.1 111 = .ok (.putfield 48, 3) := by decide +kernel
theorem d_Md_init_114 : decode mm_Md_init.2.1 114 = .ok (.aload_n 0, 1) := by decide +kernel
theorem d_Md_init_115 : decode mm_Md_init.2.1 115 = .ok (.sipush 2560, 3) := by decide +kernel
theorem d_Md_init_118 : decode mm_Md_init.2.1 118 = .ok (.newarray .int, 2) := by decide +kernel
theorem d_Md_init_120 : decode mm_Md_init.2.1 120 = .ok (.putfield 51, 3) := by decide +kernel
theorem d_Md_init_123 : decode mm_Md_init.2.1 123 = .ok (.aload_n 0, 1) := by decide +kernel
theorem d_Md_init_124 : decode mm_Md_init.2.1 124 = .ok (.sipush 2560, 3) := by decide +kernel
theorem d_Md_init_127 : decode mm_Md_init.2.1 127 = .ok (.newarray .long, 2) := by decide +kernel
theorem d_Md_init_129 : decode mm_Md_init.2.1 129 = .ok (.putfield 54, 3) := by decide +kernel
theorem d_Md_init_132 : decode mm_Md_init.2.1 132 = .ok (.aload_n 0, 1) := by decide +kernel
theorem d_Md_init_133 : decode mm_Md_init.2.1 133 = .ok (.bipush 64, 2) := by decide +kernel
theorem d_Md_init_135 : decode mm_Md_init.2.1 135 = .ok (.newarray .long, 2) := by decide +kernel
theorem d_Md_init_137 : decode mm_Md_init.2.1 137 = .ok (.putfield 57, 3) := by decide +kernel
theorem d_Md_init_140 : decode mm_Md_init.2.1 140 = .ok (.aload_n 0, 1) := by decide +kernel
theorem d_Md_init_141 : decode mm_Md_init.2.1 141 = .ok (.bipush 40, 2) := by decide +kernel
theorem d_Md_init_143 : decode mm_Md_init.2.1 143 = .ok (.newarray .int, 2) := by decide +kernel
theorem d_Md_init_145 : decode mm_Md_init.2.1 145 = .ok (.putfield 60, 3) := by decide +kernel
theorem d_Md_init_148 : decode mm_Md_init.2.1 148 = .ok (.aload_n 0, 1) := by decide +kernel
theorem d_Md_init_149 : decode mm_Md_init.2.1 149 = .ok (.bipush 40, 2) := by decide +kernel
theorem d_Md_init_151 : decode mm_Md_init.2.1 151 = .ok (.newarray .int, 2) := by decide +kernel
theorem d_Md_init_153 : decode mm_Md_init.2.1 153 = .ok (.putfield 63, 3) := by decide +kernel
theorem d_Md_init_156 : decode mm_Md_init.2.1 156 = .ok (.aload_n 0, 1) := by decide +kernel
theorem d_Md_init_157 : decode mm_Md_init.2.1 157 = .ok (.bipush 40, 2) := by decide +kernel
theorem d_Md_init_159 : decode mm_Md_init.2.1 159 = .ok (.newarray .int, 2) := by decide +kernel
theorem d_Md_init_161 : decode mm_Md_init.2.1 161 = .ok (.putfield 66, 3) := by decide +kernel
theorem d_Md_init_164 : decode mm_Md_init.2.1 164 = .ok (.aload_n 0, 1) := by decide +kernel
theorem d_Md_init_165 : decode mm_Md_init.2.1 165 = .ok (.bipush 40, 2) := by decide +kernel
theorem d_Md_init_167 : decode mm_Md_init.2.1 167 = .ok (.newarray .int, 2) := by decide +kernel
theorem d_Md_init_169 : decode mm_Md_init.2.1 169 = .ok (.putfield 69, 3) := by decide +kernel
theorem d_Md_init_172 : decode mm_Md_init.2.1 172 = .ok (.aload_n 0, 1) := by decide +kernel
theorem d_Md_init_173 : decode mm_Md_init.2.1 173 = .ok (.bipush 40, 2) := by decide +kernel
theorem d_Md_init_175 : decode mm_Md_init.2.1 175 = .ok (.newarray .long, 2) := by decide +kernel
theorem d_Md_init_177 : decode mm_Md_init.2.1 177 = .ok (.putfield 72, 3) := by decide +kernel
theorem d_Md_init_180 : decode mm_Md_init.2.1 180 = .ok (.aload_n 0, 1) := by decide +kernel
theorem d_Md_init_181 : decode mm_Md_init.2.1 181 = .ok (.bipush 40, 2) := by decide +kernel
theorem d_Md_init_183 : decode mm_Md_init.2.1 183 = .ok (.newarray .int, 2) := by decide +kernel
theorem d_Md_init_185 : decode mm_Md_init.2.1 185 = .ok (.putfield 75, 3) := by decide +kernel
theorem d_Md_init_188 : decode mm_Md_init.2.1 188 = .ok (.aload_n 0, 1) := by decide +kernel
theorem d_Md_init_189 : decode mm_Md_init.2.1 189 = .ok (.bipush 100, 2) := by decide +kernel
theorem d_Md_init_191 : decode mm_Md_init.2.1 191 = .ok (.newarray .int, 2) := by decide +kernel
theorem d_Md_init_193 : decode mm_Md_init.2.1 193 = .ok (.putfield 78, 3) := by decide +kernel
theorem d_Md_init_196 : decode mm_Md_init.2.1 196 = .ok (.aload_n 0, 1) := by decide +kernel
theorem d_Md_init_197 : decode mm_Md_init.2.1 197 = .ok (.bipush 100, 2) := by decide +kernel
theorem d_Md_init_199 : decode mm_Md_init.2.1 199 = .ok (.newarray .int, 2) := by decide +kernel
theorem d_Md_init_201 : decode mm_Md_init.2.1 201 = .ok (.putfield 81, 3) := by decide +kernel
theorem d_Md_init_204 : decode mm_Md_init.2.1 204 = .ok (.aload_n 0, 1) := by decide +kernel
theorem d_Md_init_205 : decode mm_Md_init.2.1 205 = .ok (.bipush 100, 2) := by decide +kernel
theorem d_Md_init_207 : decode mm_Md_init.2.1 207 = .ok (.newarray .int, 2) := by decide +kernel
theorem d_Md_init_209 : decode mm_Md_init.2.1 209 = .ok (.putfield 84, 3) := by decide +kernel
theorem d_Md_init_212 : decode mm_Md_init.2.1 212 = .ok (.aload_n 0, 1) := by decide +kernel
theorem d_Md_init_213 : decode mm_Md_init.2.1 213 = .ok (.bipush 64, 2) := by decide +kernel
theorem d_Md_init_215 : decode mm_Md_init.2.1 215 = .ok (.newarray .int, 2) := by decide +kernel
theorem d_Md_init_217 : decode mm_Md_init.2.1 217 = .ok (.putfield 87, 3) := by decide +kernel
theorem d_Md_init_220 : decode mm_Md_init.2.1 220 = .ok (.aload_n 0, 1) := by decide +kernel
theorem d_Md_init_221 : decode mm_Md_init.2.1 221 = .ok (.bipush 64, 2) := by decide +kernel
theorem d_Md_init_223 : decode mm_Md_init.2.1 223 = .ok (.newarray .int, 2) := by decide +kernel
theorem d_Md_init_225 : decode mm_Md_init.2.1 225 = .ok (.putfield 90, 3) := by decide +kernel
theorem d_Md_init_228 : decode mm_Md_init.2.1 228 = .ok (.aload_n 0, 1) := by decide +kernel
theorem d_Md_init_229 : decode mm_Md_init.2.1 229 = .ok (.bipush 64, 2) := by decide +kernel
theorem d_Md_init_231 : decode mm_Md_init.2.1 231 = .ok (.newarray .long, 2) := by decide +kernel
theorem d_Md_init_233 : decode mm_Md_init.2.1 233 = .ok (.putfield 93, 3) := by decide +kernel
theorem d_Md_init_236 : decode mm_Md_init.2.1 236 = .ok (.return_, 1) := by decide +kernel
theorem d_Md_thrown_0 : decode mm_Md_thrown.2.1 0 = .ok (.aload_n 0, 1) := by decide +kernel
theorem d_Md_thrown_1 : decode mm_Md_thrown.2.1 1 = .ok (.getfield 96, 3) := by decide +kernel
theorem d_Md_thrown_4 : decode mm_Md_thrown.2.1 4 = .ok (.ireturn, 1) := by decide +kernel
theorem d_Md_define_0 : decode mm_Md_define.2.1 0 = .ok (.aload_n 0, 1) := by decide +kernel
theorem d_Md_define_1 : decode mm_Md_define.2.1 1 = .ok (.iconst 0, 1) := by decide +kernel
theorem d_Md_define_2 : decode mm_Md_define.2.1 2 = .ok (.putfield 96, 3) := by decide +kernel
theorem d_Md_define_5 : decode mm_Md_define.2.1 5 = .ok (.aload_n 0, 1) := by decide +kernel
theorem d_Md_define_6 : decode mm_Md_define.2.1 6 = .ok (.iconst 0, 1) := by decide +kernel
theorem d_Md_define_7 : decode mm_Md_define.2.1 7 = .ok (.putfield 144, 3) := by decide +kernel
theorem d_Md_define_10 : decode mm_Md_define.2.1 10 = .ok (.aload_n 0, 1) := by decide +kernel
theorem d_Md_define_11 : decode mm_Md_define.2.1 11 = .ok (.iconst (-1), 1) := by decide +kernel
theorem d_Md_define_12 : decode mm_Md_define.2.1 12 = .ok (.putfield 147, 3) := by decide +kernel
theorem d_Md_define_15 : decode mm_Md_define.2.1 15 = .ok (.aload_n 0, 1) := by decide +kernel
theorem d_Md_define_16 : decode mm_Md_define.2.1 16 = .ok (.iconst 0, 1) := by decide +kernel
theorem d_Md_define_17 : decode mm_Md_define.2.1 17 = .ok (.putfield 103, 3) := by decide +kernel
theorem d_Md_define_20 : decode mm_Md_define.2.1 20 = .ok (.aload_n 0, 1) := by decide +kernel
theorem d_Md_define_21 : decode mm_Md_define.2.1 21 = .ok (.invokevirtual 176, 3) := by decide +kernel
theorem d_Md_define_24 : decode mm_Md_define.2.1 24 = .ok (.aload_n 0, 1) := by decide +kernel
theorem d_Md_define_25 : decode mm_Md_define.2.1 25 = .ok (.getfield 123, 3) := by decide +kernel
theorem d_Md_define_28 : decode mm_Md_define.2.1 28 = .ok (.lstore_n 1, 1) := by decide +kernel
theorem d_Md_define_29 : decode mm_Md_define.2.1 29 = .ok (.aload_n 0, 1) := by decide +kernel
theorem d_Md_define_30 : decode mm_Md_define.2.1 30 = .ok (.getfield 117, 3) := by decide +kernel
theorem d_Md_define_33 : decode mm_Md_define.2.1 33 = .ok (.iconst 1, 1) := by decide +kernel
theorem d_Md_define_34 : decode mm_Md_define.2.1 34 = .ok (.if_icmp .eq 7, 3) := by decide +kernel
theorem d_Md_define_37 : decode mm_Md_define.2.1 37 = .ok (.aload_n 0, 1) := by decide +kernel
theorem d_Md_define_38 : decode mm_Md_define.2.1 38 = .ok (.invokevirtual 189, 3) := by decide +kernel
theorem d_Md_define_41 : decode mm_Md_define.2.1 41 = .ok (.aload_n 0, 1) := by decide +kernel
theorem d_Md_define_42 : decode mm_Md_define.2.1 42 = .ok (.invokevirtual 176, 3) := by decide +kernel
theorem d_Md_define_45 : decode mm_Md_define.2.1 45 = .ok (.aload_n 0, 1) := by decide +kernel
theorem d_Md_define_46 : decode mm_Md_define.2.1 46 = .ok (.getfield 144, 3) := by decide +kernel
theorem d_Md_define_49 : decode mm_Md_define.2.1 49 = .ok (.ifCond .ne 16, 3) := by decide +kernel
theorem d_Md_define_52 : decode mm_Md_define.2.1 52 = .ok (.aload_n 0, 1) := by decide +kernel
theorem d_Md_define_53 : decode mm_Md_define.2.1 53 = .ok (.getfield 117, 3) := by decide +kernel
theorem d_Md_define_56 : decode mm_Md_define.2.1 56 = .ok (.bipush 61, 2) := by decide +kernel
theorem d_Md_define_58 : decode mm_Md_define.2.1 58 = .ok (.if_icmp .eq 7, 3) := by decide +kernel
theorem d_Md_define_61 : decode mm_Md_define.2.1 61 = .ok (.aload_n 0, 1) := by decide +kernel
theorem d_Md_define_62 : decode mm_Md_define.2.1 62 = .ok (.invokevirtual 189, 3) := by decide +kernel
theorem d_Md_define_65 : decode mm_Md_define.2.1 65 = .ok (.aload_n 0, 1) := by decide +kernel
theorem d_Md_define_66 : decode mm_Md_define.2.1 66 = .ok (.getfield 144, 3) := by decide +kernel
theorem d_Md_define_69 : decode mm_Md_define.2.1 69 = .ok (.ifCond .ne 11, 3) := by decide +kernel
theorem d_Md_define_72 : decode mm_Md_define.2.1 72 = .ok (.aload_n 0, 1) := by decide +kernel
theorem d_Md_define_73 : decode mm_Md_define.2.1 73 = .ok (.invokevirtual 176, 3) := by decide +kernel
theorem d_Md_define_76 : decode mm_Md_define.2.1 76 = .ok (.aload_n 0, 1) := by decide +kernel
theorem d_Md_define_77 : decode mm_Md_define.2.1 77 = .ok (.invokevirtual 211, 3) := by decide +kernel
theorem d_Md_define_80 : decode mm_Md_define.2.1 80 = .ok (.aload_n 0, 1) := by decide +kernel
theorem d_Md_define_81 : decode mm_Md_define.2.1 81 = .ok (.getfield 144, 3) := by decide +kernel
theorem d_Md_define_84 : decode mm_Md_define.2.1 84 = .ok (.ifCond .ne 11, 3) := by decide +kernel
theorem d_Md_define_87 : decode mm_Md_define.2.1 87 = .ok (.aload_n 0, 1) := by decide +kernel
theorem d_Md_define_88 : decode mm_Md_define.2.1 88 = .ok (.lload_n 1, 1) := by decide +kernel
theorem d_Md_define_89 : decode mm_Md_define.2.1 89 = .ok (.invokevirtual 214, 3) := by decide +kernel
theorem d_Md_define_92 : decode mm_Md_define.2.1 92 = .ok (.goto 4, 3) := by decide +kernel
theorem d_Md_define_95 : decode mm_Md_define.2.1 95 = .ok (.iconst (-1), 1) := by decide +kernel
theorem d_Md_define_96 : decode mm_Md_define.2.1 96 = .ok (.istore_n 3, 1) := by decide +kernel
theorem d_Md_define_97 : decode mm_Md_define.2.1 97 = .ok (.aload_n 0, 1) := by decide +kernel
theorem d_Md_define_98 : decode mm_Md_define.2.1 98 = .ok (.getfield 144, 3) := by decide +kernel
theorem d_Md_define_101 : decode mm_Md_define.2.1 101 = .ok (.ifCond .ne 22, 3) := by decide +kernel
theorem d_Md_define_104 : decode mm_Md_define.2.1 104 = .ok (.iload_n 3, 1) := by decide +kernel
theorem d_Md_define_105 : decode mm_Md_define.2.1 105 = .ok (.ifCond .ge 18, 3) := by decide +kernel
theorem d_Md_define_108 : decode mm_Md_define.2.1 108 = .ok (.aload_n 0, 1) := by decide +kernel
theorem d_Md_define_109 : decode mm_Md_define.2.1 109 = .ok (.invokevirtual 218, 3) := by decide +kernel
theorem d_Md_define_112 : decode mm_Md_define.2.1 112 = .ok (.bipush 64, 2) := by decide +kernel
theorem d_Md_define_114 : decode mm_Md_define.2.1 114 = .ok (.if_icmp .ne 9, 3) := by decide +kernel
theorem d_Md_define_117 : decode mm_Md_define.2.1 117 = .ok (.aload_n 0, 1) := by decide +kernel
theorem d_Md_define_118 : decode mm_Md_define.2.1 118 = .ok (.iconst 4, 1) := by decide +kernel
theorem d_Md_define_119 : decode mm_Md_define.2.1 119 = .ok (.iconst 0, 1) := by decide +kernel
theorem d_Md_define_120 : decode mm_Md_define.2.1 120 = .ok (.invokevirtual 150, 3) := by decide +kernel
theorem d_Md_define_123 : decode mm_Md_define.2.1 123 = .ok (.aload_n 0, 1) := by decide +kernel
theorem d_Md_define_124 : decode mm_Md_define.2.1 124 = .ok (.getfield 144, 3) := by decide +kernel
theorem d_Md_define_127 : decode mm_Md_define.2.1 127 = .ok (.ifCond .ne 11, 3) := by decide +kernel
theorem d_Md_define_130 : decode mm_Md_define.2.1 130 = .ok (.aload_n 0, 1) := by decide +kernel
theorem d_Md_define_131 : decode mm_Md_define.2.1 131 = .ok (.lload_n 1, 1) := by decide +kernel
theorem d_Md_define_132 : decode mm_Md_define.2.1 132 = .ok (.invokevirtual 221, 3) := by decide +kernel
theorem d_Md_define_135 : decode mm_Md_define.2.1 135 = .ok (.goto 4, 3) := by decide +kernel
theorem d_Md_define_138 : decode mm_Md_define.2.1 138 = .ok (.lconst 0, 1) := by decide +kernel
theorem d_Md_define_139 : decode mm_Md_define.2.1 139 = .ok (.lstore 4, 2) := by decide +kernel
theorem d_Md_define_141 : decode mm_Md_define.2.1 141 = .ok (.iconst (-1), 1) := by decide +kernel
theorem d_Md_define_142 : decode mm_Md_define.2.1 142 = .ok (.istore 6, 2) := by decide +kernel
theorem d_Md_define_144 : decode mm_Md_define.2.1 144 = .ok (.iconst 0, 1) := by decide +kernel
theorem d_Md_define_145 : decode mm_Md_define.2.1 145 = .ok (.istore 7, 2) := by decide +kernel
theorem d_Md_define_147 : decode mm_Md_define.2.1 147 = .ok (.aload_n 0, 1) := by decide +kernel
theorem d_Md_define_148 : decode mm_Md_define.2.1 148 = .ok (.getfield 144, 3) := by decide +kernel
theorem d_Md_define_151 : decode mm_Md_define.2.1 151 = .ok (.ifCond .ne 114, 3) := by decide +kernel
theorem d_Md_define_154 : decode mm_Md_define.2.1 154 = .ok (.iload 7, 2) := by decide +kernel
theorem d_Md_define_156 : decode mm_Md_define.2.1 156 = .ok (.aload_n 0, 1) := by decide +kernel
theorem d_Md_define_157 : decode mm_Md_define.2.1 157 = .ok (.getfield 154, 3) := by decide +kernel
theorem d_Md_define_160 : decode mm_Md_define.2.1 160 = .ok (.if_icmp .ge 105, 3) := by decide +kernel
theorem d_Md_define_163 : decode mm_Md_define.2.1 163 = .ok (.aload_n 0, 1) := by decide +kernel
theorem d_Md_define_164 : decode mm_Md_define.2.1 164 = .ok (.getfield 60, 3) := by decide +kernel
theorem d_Md_define_167 : decode mm_Md_define.2.1 167 = .ok (.iload 7, 2) := by decide +kernel
theorem d_Md_define_169 : decode mm_Md_define.2.1 169 = .ok (.iaload, 1) := by decide +kernel
theorem d_Md_define_170 : decode mm_Md_define.2.1 170 = .ok (.iconst 1, 1) := by decide +kernel
theorem d_Md_define_171 : decode mm_Md_define.2.1 171 = .ok (.if_icmp .ne 88, 3) := by decide +kernel
theorem d_Md_define_174 : decode mm_Md_define.2.1 174 = .ok (.aload_n 0, 1) := by decide +kernel
theorem d_Md_define_175 : decode mm_Md_define.2.1 175 = .ok (.aload_n 0, 1) := by decide +kernel
theorem d_Md_define_176 : decode mm_Md_define.2.1 176 = .ok (.getfield 72, 3) := by decide +kernel
theorem d_Md_define_179 : decode mm_Md_define.2.1 179 = .ok (.iload 7, 2) := by decide +kernel
theorem d_Md_define_181 : decode mm_Md_define.2.1 181 = .ok (.laload, 1) := by decide +kernel
theorem d_Md_define_182 : decode mm_Md_define.2.1 182 = .ok (.invokevirtual 214, 3) := by decide +kernel
theorem d_Md_define_185 : decode mm_Md_define.2.1 185 = .ok (.istore 8, 2) := by decide +kernel
theorem d_Md_define_187 : decode mm_Md_define.2.1 187 = .ok (.aload_n 0, 1) := by decide +kernel
theorem d_Md_define_188 : decode mm_Md_define.2.1 188 = .ok (.getfield 72, 3) := by decide +kernel
theorem d_Md_define_191 : decode mm_Md_define.2.1 191 = .ok (.iload 7, 2) := by decide +kernel
theorem d_Md_define_193 : decode mm_Md_define.2.1 193 = .ok (.laload, 1) := by decide +kernel
theorem d_Md_define_194 : decode mm_Md_define.2.1 194 = .ok (.lload_n 1, 1) := by decide +kernel
theorem d_Md_define_195 : decode mm_Md_define.2.1 195 = .ok (.lcmp, 1) := by decide +kernel
theorem d_Md_define_196 : decode mm_Md_define.2.1 196 = .ok (.ifCond .eq 20, 3) := by decide +kernel
theorem d_Md_define_199 : decode mm_Md_define.2.1 199 = .ok (.iload 8, 2) := by decide +kernel
theorem d_Md_define_201 : decode mm_Md_define.2.1 201 = .ok (.ifCond .lt 19, 3) := by decide +kernel
theorem d_Md_define_204 : decode mm_Md_define.2.1 204 = .ok (.lload 4, 2) := by decide +kernel
theorem d_Md_define_206 : decode mm_Md_define.2.1 206 = .ok (.iload 8, 2) := by decide +kernel
theorem d_Md_define_208 : decode mm_Md_define.2.1 208 = .ok (.lshr, 1) := by decide +kernel
theorem d_Md_define_209 : decode mm_Md_define.2.1 209 = .ok (.lconst 1, 1) := by decide +kernel
theorem d_Md_define_210 : decode mm_Md_define.2.1 210 = .ok (.land, 1) := by decide +kernel
theorem d_Md_define_211 : decode mm_Md_define.2.1 211 = .ok (.lconst 1, 1) := by decide +kernel
theorem d_Md_define_212 : decode mm_Md_define.2.1 212 = .ok (.lcmp, 1) := by decide +kernel
theorem d_Md_define_213 : decode mm_Md_define.2.1 213 = .ok (.ifCond .ne 7, 3) := by decide +kernel
theorem d_Md_define_216 : decode mm_Md_define.2.1 216 = .ok (.iconst 1, 1) := by decide +kernel
theorem d_Md_define_217 : decode mm_Md_define.2.1 217 = .ok (.goto 4, 3) := by decide +kernel
theorem d_Md_define_220 : decode mm_Md_define.2.1 220 = .ok (.iconst 0, 1) := by decide +kernel
theorem d_Md_define_221 : decode mm_Md_define.2.1 221 = .ok (.istore 9, 2) := by decide +kernel
theorem d_Md_define_223 : decode mm_Md_define.2.1 223 = .ok (.iload 9, 2) := by decide +kernel
theorem d_Md_define_225 : decode mm_Md_define.2.1 225 = .ok (.ifCond .eq 30, 3) := by decide +kernel
theorem d_Md_define_228 : decode mm_Md_define.2.1 228 = .ok (.iload 6, 2) := by decide +kernel
theorem d_Md_define_230 : decode mm_Md_define.2.1 230 = .ok (.ifCond .lt 15, 3) := by decide +kernel
theorem d_Md_define_233 : decode mm_Md_define.2.1 233 = .ok (.aload_n 0, 1) := by decide +kernel
theorem d_Md_define_234 : decode mm_Md_define.2.1 234 = .ok (.getfield 75, 3) := by decide +kernel
theorem d_Md_define_237 : decode mm_Md_define.2.1 237 = .ok (.iload 7, 2) := by decide +kernel
theorem d_Md_define_239 : decode mm_Md_define.2.1 239 = .ok (.iaload, 1) := by decide +kernel
theorem d_Md_define_240 : decode mm_Md_define.2.1 240 = .ok (.iload 6, 2) := by decide +kernel
theorem d_Md_define_242 : decode mm_Md_define.2.1 242 = .ok (.if_icmp .ge 13, 3) := by decide +kernel
theorem d_Md_define_245 : decode mm_Md_define.2.1 245 = .ok (.aload_n 0, 1) := by decide +kernel
theorem d_Md_define_246 : decode mm_Md_define.2.1 246 = .ok (.getfield 75, 3) := by decide +kernel
theorem d_Md_define_249 : decode mm_Md_define.2.1 249 = .ok (.iload 7, 2) := by decide +kernel
theorem d_Md_define_251 : decode mm_Md_define.2.1 251 = .ok (.iaload, 1) := by decide +kernel
theorem d_Md_define_252 : decode mm_Md_define.2.1 252 = .ok (.goto 5, 3) := by decide +kernel
theorem d_Md_define_255 : decode mm_Md_define.2.1 255 = .ok (.iload 6, 2) := by decide +kernel
theorem d_Md_define_257 : decode mm_Md_define.2.1 257 = .ok (.istore 6, 2) := by decide +kernel
theorem d_Md_define_259 : decode mm_Md_define.2.1 259 = .ok (.iinc 7 1, 3) := by decide +kernel
theorem d_Md_define_262 : decode mm_Md_define.2.1 262 = .ok (.goto (-115), 3) := by decide +kernel
theorem d_Md_define_265 : decode mm_Md_define.2.1 265 = .ok (.iload 6, 2) := by decide +kernel
theorem d_Md_define_267 : decode mm_Md_define.2.1 267 = .ok (.ifCond .lt 10, 3) := by decide +kernel
theorem d_Md_define_270 : decode mm_Md_define.2.1 270 = .ok (.aload_n 0, 1) := by decide +kernel
theorem d_Md_define_271 : decode mm_Md_define.2.1 271 = .ok (.iconst 5, 1) := by decide +kernel
theorem d_Md_define_272 : decode mm_Md_define.2.1 272 = .ok (.iload 6, 2) := by decide +kernel
theorem d_Md_define_274 : decode mm_Md_define.2.1 274 = .ok (.invokevirtual 150, 3) := by decide +kernel
theorem d_Md_define_277 : decode mm_Md_define.2.1 277 = .ok (.aload_n 0, 1) := by decide +kernel
theorem d_Md_define_278 : decode mm_Md_define.2.1 278 = .ok (.iconst 0, 1) := by decide +kernel
theorem d_Md_define_279 : decode mm_Md_define.2.1 279 = .ok (.putfield 100, 3) := by decide +kernel
theorem d_Md_define_282 : decode mm_Md_define.2.1 282 = .ok (.aload_n 0, 1) := by decide +kernel
theorem d_Md_define_283 : decode mm_Md_define.2.1 283 = .ok (.getfield 144, 3) := by decide +kernel
theorem d_Md_define_286 : decode mm_Md_define.2.1 286 = .ok (.ifCond .le 8, 3) := by decide +kernel
theorem d_Md_define_289 : decode mm_Md_define.2.1 289 = .ok (.aload_n 0, 1) := by decide +kernel
theorem d_Md_define_290 : decode mm_Md_define.2.1 290 = .ok (.getfield 147, 3) := by decide +kernel
theorem d_Md_define_293 : decode mm_Md_define.2.1 293 = .ok (.ireturn, 1) := by decide +kernel
theorem d_Md_define_294 : decode mm_Md_define.2.1 294 = .ok (.iload_n 3, 1) := by decide +kernel
theorem d_Md_define_295 : decode mm_Md_define.2.1 295 = .ok (.ifCond .ge 48, 3) := by decide +kernel
theorem d_Md_define_298 : decode mm_Md_define.2.1 298 = .ok (.iconst 0, 1) := by decide +kernel
theorem d_Md_define_299 : decode mm_Md_define.2.1 299 = .ok (.istore_n 3, 1) := by decide +kernel
theorem d_Md_define_300 : decode mm_Md_define.2.1 300 = .ok (.aload_n 0, 1) := by decide +kernel
theorem d_Md_define_301 : decode mm_Md_define.2.1 301 = .ok (.getfield 13, 3) := by decide +kernel
theorem d_Md_define_304 : decode mm_Md_define.2.1 304 = .ok (.iload_n 3, 1) := by decide +kernel
theorem d_Md_define_305 : decode mm_Md_define.2.1 305 = .ok (.baload, 1) := by decide +kernel
theorem d_Md_define_306 : decode mm_Md_define.2.1 306 = .ok (.ifCond .eq 9, 3) := by decide +kernel
theorem d_Md_define_309 : decode mm_Md_define.2.1 309 = .ok (.iinc 3 1, 3) := by decide +kernel
theorem d_Md_define_312 : decode mm_Md_define.2.1 312 = .ok (.goto (-12), 3) := by decide +kernel
theorem d_Md_define_315 : decode mm_Md_define.2.1 315 = .ok (.aload_n 0, 1) := by decide +kernel
theorem d_Md_define_316 : decode mm_Md_define.2.1 316 = .ok (.getfield 13, 3) := by decide +kernel
theorem d_Md_define_319 : decode mm_Md_define.2.1 319 = .ok (.iload_n 3, 1) := by decide +kernel
theorem d_Md_define_320 : decode mm_Md_define.2.1 320 = .ok (.iconst 1, 1) := by decide +kernel
theorem d_Md_define_321 : decode mm_Md_define.2.1 321 = .ok (.bastore, 1) := by decide +kernel
theorem d_Md_define_322 : decode mm_Md_define.2.1 322 = .ok (.aload_n 0, 1) := by decide +kernel
theorem d_Md_define_323 : decode mm_Md_define.2.1 323 = .ok (.getfield 17, 3) := by decide +kernel
theorem d_Md_define_326 : decode mm_Md_define.2.1 326 = .ok (.iload_n 3, 1) := by decide +kernel
theorem d_Md_define_327 : decode mm_Md_define.2.1 327 = .ok (.lload_n 1, 1) := by decide +kernel
theorem d_Md_define_328 : decode mm_Md_define.2.1 328 = .ok (.lastore, 1) := by decide +kernel
theorem d_Md_define_329 : decode mm_Md_define.2.1 329 = .ok (.aload_n 0, 1) := by decide +kernel
theorem d_Md_define_330 : decode mm_Md_define.2.1 330 = .ok (.getfield 21, 3) := by decide +kernel
theorem d_Md_define_333 : decode mm_Md_define.2.1 333 = .ok (.iload_n 3, 1) := by decide +kernel
theorem d_Md_define_334 : decode mm_Md_define.2.1 334 = .ok (.iconst 0, 1) := by decide +kernel
theorem d_Md_define_335 : decode mm_Md_define.2.1 335 = .ok (.iastore, 1) := by decide +kernel
theorem d_Md_define_336 : decode mm_Md_define.2.1 336 = .ok (.aload_n 0, 1) := by decide +kernel
theorem d_Md_define_337 : decode mm_Md_define.2.1 337 = .ok (.getfield 24, 3) := by decide +kernel
theorem d_Md_define_340 : decode mm_Md_define.2.1 340 = .ok (.iload_n 3, 1) := by decide +kernel
theorem d_Md_define_341 : decode mm_Md_define.2.1 341 = .ok (.lconst 0, 1) := by decide +kernel
theorem d_Md_define_342 : decode mm_Md_define.2.1 342 = .ok (.lastore, 1) := by decide +kernel
theorem d_Md_define_343 : decode mm_Md_define.2.1 343 = .ok (.aload_n 0, 1) := by decide +kernel
theorem d_Md_define_344 : decode mm_Md_define.2.1 344 = .ok (.getfield 27, 3) := by decide +kernel
theorem d_Md_define_347 : decode mm_Md_define.2.1 347 = .ok (.iload_n 3, 1) := by decide +kernel
theorem d_Md_define_348 : decode mm_Md_define.2.1 348 = .ok (.iconst 0, 1) := by decide +kernel
theorem d_Md_define_349 : decode mm_Md_define.2.1 349 = .ok (.bastore, 1) := by decide +kernel
theorem d_Md_define_350 : decode mm_Md_define.2.1 350 = .ok (.aload_n 0, 1) := by decide +kernel
theorem d_Md_define_351 : decode mm_Md_define.2.1 351 = .ok (.getfield 33, 3) := by decide +kernel
theorem d_Md_define_354 : decode mm_Md_define.2.1 354 = .ok (.iload_n 3, 1) := by decide +kernel
theorem d_Md_define_355 : decode mm_Md_define.2.1 355 = .ok (.aload_n 0, 1) := by decide +kernel
theorem d_Md_define_356 : decode mm_Md_define.2.1 356 = .ok (.getfield 154, 3) := by decide +kernel
theorem d_Md_define_359 : decode mm_Md_define.2.1 359 = .ok (.iastore, 1) := by decide +kernel
theorem d_Md_define_360 : decode mm_Md_define.2.1 360 = .ok (.aload_n 0, 1) := by decide +kernel
theorem d_Md_define_361 : decode mm_Md_define.2.1 361 = .ok (.getfield 30, 3) := by decide +kernel
theorem d_Md_define_364 : decode mm_Md_define.2.1 364 = .ok (.iload_n 3, 1) := by decide +kernel
theorem d_Md_define_365 : decode mm_Md_define.2.1 365 = .ok (.aload_n 0, 1) := by decide +kernel
theorem d_Md_define_366 : decode mm_Md_define.2.1 366 = .ok (.getfield 84, 3) := by decide +kernel
theorem d_Md_define_369 : decode mm_Md_define.2.1 369 = .ok (.iconst 0, 1) := by decide +kernel
theorem d_Md_define_370 : decode mm_Md_define.2.1 370 = .ok (.iaload, 1) := by decide +kernel
theorem d_Md_define_371 : decode mm_Md_define.2.1 371 = .ok (.iastore, 1) := by decide +kernel
theorem d_Md_define_372 : decode mm_Md_define.2.1 372 = .ok (.iconst 0, 1) := by decide +kernel
theorem d_Md_define_373 : decode mm_Md_define.2.1 373 = .ok (.istore 7, 2) := by decide +kernel
theorem d_Md_define_375 : decode mm_Md_define.2.1 375 = .ok (.iload 7, 2) := by decide +kernel
theorem d_Md_define_377 : decode mm_Md_define.2.1 377 = .ok (.aload_n 0, 1) := by decide +kernel
theorem d_Md_define_378 : decode mm_Md_define.2.1 378 = .ok (.getfield 154, 3) := by decide +kernel
theorem d_Md_define_381 : decode mm_Md_define.2.1 381 = .ok (.if_icmp .ge 88, 3) := by decide +kernel
theorem d_Md_define_384 : decode mm_Md_define.2.1 384 = .ok (.bipush 40, 2) := by decide +kernel
theorem d_Md_define_386 : decode mm_Md_define.2.1 386 = .ok (.iload_n 3, 1) := by decide +kernel
theorem d_Md_define_387 : decode mm_Md_define.2.1 387 = .ok (.imul, 1) := by decide +kernel
theorem d_Md_define_388 : decode mm_Md_define.2.1 388 = .ok (.iload 7, 2) := by decide +kernel
theorem d_Md_define_390 : decode mm_Md_define.2.1 390 = .ok (.iadd, 1) := by decide +kernel
theorem d_Md_define_391 : decode mm_Md_define.2.1 391 = .ok (.istore 8, 2) := by decide +kernel
theorem d_Md_define_393 : decode mm_Md_define.2.1 393 = .ok (.aload_n 0, 1) := by decide +kernel
theorem d_Md_define_394 : decode mm_Md_define.2.1 394 = .ok (.getfield 36, 3) := by decide +kernel
theorem d_Md_define_397 : decode mm_Md_define.2.1 397 = .ok (.iload 8, 2) := by decide +kernel
theorem d_Md_define_399 : decode mm_Md_define.2.1 399 = .ok (.aload_n 0, 1) := by decide +kernel
theorem d_Md_define_400 : decode mm_Md_define.2.1 400 = .ok (.getfield 60, 3) := by decide +kernel
theorem d_Md_define_403 : decode mm_Md_define.2.1 403 = .ok (.iload 7, 2) := by decide +kernel
theorem d_Md_define_405 : decode mm_Md_define.2.1 405 = .ok (.iaload, 1) := by decide +kernel
theorem d_Md_define_406 : decode mm_Md_define.2.1 406 = .ok (.iastore, 1) := by decide +kernel
theorem d_Md_define_407 : decode mm_Md_define.2.1 407 = .ok (.aload_n 0, 1) := by decide +kernel
theorem d_Md_define_408 : decode mm_Md_define.2.1 408 = .ok (.getfield 39, 3) := by decide +kernel
theorem d_Md_define_411 : decode mm_Md_define.2.1 411 = .ok (.iload 8, 2) := by decide +kernel
theorem d_Md_define_413 : decode mm_Md_define.2.1 413 = .ok (.aload_n 0, 1) := by decide +kernel
theorem d_Md_define_414 : decode mm_Md_define.2.1 414 = .ok (.getfield 63, 3) := by decide +kernel
theorem d_Md_define_417 : decode mm_Md_define.2.1 417 = .ok (.iload 7, 2) := by decide +kernel
theorem d_Md_define_419 : decode mm_Md_define.2.1 419 = .ok (.iaload, 1) := by decide +kernel
theorem d_Md_define_420 : decode mm_Md_define.2.1 420 = .ok (.iastore, 1) := by decide +kernel
theorem d_Md_define_421 : decode mm_Md_define.2.1 421 = .ok (.aload_n 0, 1) := by decide +kernel
theorem d_Md_define_422 : decode mm_Md_define.2.1 422 = .ok (.getfield 42, 3) := by decide +kernel
theorem d_Md_define_425 : decode mm_Md_define.2.1 425 = .ok (.iload 8, 2) := by decide +kernel
theorem d_Md_define_427 : decode mm_Md_define.2.1 427 = .ok (.aload_n 0, 1) := by decide +kernel
theorem d_Md_define_428 : decode mm_Md_define.2.1 428 = .ok (.getfield 66, 3) := by decide +kernel
theorem d_Md_define_431 : decode mm_Md_define.2.1 431 = .ok (.iload 7, 2) := by decide +kernel
theorem d_Md_define_433 : decode mm_Md_define.2.1 433 = .ok (.iaload, 1) := by decide +kernel
theorem d_Md_define_434 : decode mm_Md_define.2.1 434 = .ok (.iastore, 1) := by decide +kernel
theorem d_Md_define_435 : decode mm_Md_define.2.1 435 = .ok (.aload_n 0, 1) := by decide +kernel
theorem d_Md_define_436 : decode mm_Md_define.2.1 436 = .ok (.getfield 45, 3) := by decide +kernel
theorem d_Md_define_439 : decode mm_Md_define.2.1 439 = .ok (.iload 8, 2) := by decide +kernel
theorem d_Md_define_441 : decode mm_Md_define.2.1 441 = .ok (.aload_n 0, 1) := by decide +kernel
theorem d_Md_define_442 : decode mm_Md_define.2.1 442 = .ok (.getfield 69, 3) := by decide +kernel
theorem d_Md_define_445 : decode mm_Md_define.2.1 445 = .ok (.iload 7, 2) := by decide +kernel
theorem d_Md_define_447 : decode mm_Md_define.2.1 447 = .ok (.iaload, 1) := by decide +kernel
theorem d_Md_define_448 : decode mm_Md_define.2.1 448 = .ok (.iastore, 1) := by decide +kernel
theorem d_Md_define_449 : decode mm_Md_define.2.1 449 = .ok (.aload_n 0, 1) := by decide +kernel
theorem d_Md_define_450 : decode mm_Md_define.2.1 450 = .ok (.getfield 48, 3) := by decide +kernel
theorem d_Md_define_453 : decode mm_Md_define.2.1 453 = .ok (.iload 8, 2) := by decide +kernel
theorem d_Md_define_455 : decode mm_Md_define.2.1 455 = .ok (.aload_n 0, 1) := by decide +kernel
theorem d_Md_define_456 : decode mm_Md_define.2.1 456 = .ok (.getfield 72, 3) := by decide +kernel
theorem d_Md_define_459 : decode mm_Md_define.2.1 459 = .ok (.iload 7, 2) := by decide +kernel
theorem d_Md_define_461 : decode mm_Md_define.2.1 461 = .ok (.laload, 1) := by decide +kernel
theorem d_Md_define_462 : decode mm_Md_define.2.1 462 = .ok (.lastore, 1) := by decide +kernel
