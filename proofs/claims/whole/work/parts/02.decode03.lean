theorem d_Md_valueOf_11 : decode mm_Md_valueOf.2.1 11 = .ok (.getfield 21, 3) := by decide +kernel
theorem d_Md_valueOf_14 : decode mm_Md_valueOf.2.1 14 = .ok (.iload_n 3, 1) := by decide +kernel
theorem d_Md_valueOf_15 : decode mm_Md_valueOf.2.1 15 = .ok (.iaload, 1) := by decide +kernel
theorem d_Md_valueOf_16 : decode mm_Md_valueOf.2.1 16 = .ok (.iconst 1, 1) := by decide +kernel
theorem d_Md_valueOf_17 : decode mm_Md_valueOf.2.1 17 = .ok (.if_icmp .eq 7, 3) := by decide +kernel
theorem d_Md_valueOf_20 : decode mm_Md_valueOf.2.1 20 = .ok (.lconst 0, 1) := by decide +kernel
theorem d_Md_valueOf_21 : decode mm_Md_valueOf.2.1 21 = .ok (.goto 9, 3) := by decide +kernel
theorem d_Md_valueOf_24 : decode mm_Md_valueOf.2.1 24 = .ok (.aload_n 0, 1) := by decide +kernel
theorem d_Md_valueOf_25 : decode mm_Md_valueOf.2.1 25 = .ok (.getfield 24, 3) := by decide +kernel
theorem d_Md_valueOf_28 : decode mm_Md_valueOf.2.1 28 = .ok (.iload_n 3, 1) := by decide +kernel
theorem d_Md_valueOf_29 : decode mm_Md_valueOf.2.1 29 = .ok (.laload, 1) := by decide +kernel
theorem d_Md_valueOf_30 : decode mm_Md_valueOf.2.1 30 = .ok (.lreturn, 1) := by decide +kernel
theorem d_Md_workOut_0 : decode mm_Md_workOut.2.1 0 = .ok (.aload_n 0, 1) := by decide +kernel
theorem d_Md_workOut_1 : decode mm_Md_workOut.2.1 1 = .ok (.iconst 0, 1) := by decide +kernel
theorem d_Md_workOut_2 : decode mm_Md_workOut.2.1 2 = .ok (.putfield 231, 3) := by decide +kernel
theorem d_Md_workOut_5 : decode mm_Md_workOut.2.1 5 = .ok (.aload_n 0, 1) := by decide +kernel
theorem d_Md_workOut_6 : decode mm_Md_workOut.2.1 6 = .ok (.iload_n 1, 1) := by decide +kernel
theorem d_Md_workOut_7 : decode mm_Md_workOut.2.1 7 = .ok (.invokevirtual 250, 3) := by decide +kernel
theorem d_Md_workOut_10 : decode mm_Md_workOut.2.1 10 = .ok (.lstore_n 2, 1) := by decide +kernel
theorem d_Md_workOut_11 : decode mm_Md_workOut.2.1 11 = .ok (.aload_n 0, 1) := by decide +kernel
theorem d_Md_workOut_12 : decode mm_Md_workOut.2.1 12 = .ok (.getfield 21, 3) := by decide +kernel
theorem d_Md_workOut_15 : decode mm_Md_workOut.2.1 15 = .ok (.iload_n 1, 1) := by decide +kernel
theorem d_Md_workOut_16 : decode mm_Md_workOut.2.1 16 = .ok (.aload_n 0, 1) := by decide +kernel
theorem d_Md_workOut_17 : decode mm_Md_workOut.2.1 17 = .ok (.getfield 231, 3) := by decide +kernel
theorem d_Md_workOut_20 : decode mm_Md_workOut.2.1 20 = .ok (.ifCond .le 10, 3) := by decide +kernel
theorem d_Md_workOut_23 : decode mm_Md_workOut.2.1 23 = .ok (.aload_n 0, 1) := by decide +kernel
theorem d_Md_workOut_24 : decode mm_Md_workOut.2.1 24 = .ok (.getfield 231, 3) := by decide +kernel
theorem d_Md_workOut_27 : decode mm_Md_workOut.2.1 27 = .ok (.goto 4, 3) := by decide +kernel
theorem d_Md_workOut_30 : decode mm_Md_workOut.2.1 30 = .ok (.iconst 1, 1) := by decide +kernel
theorem d_Md_workOut_31 : decode mm_Md_workOut.2.1 31 = .ok (.iastore, 1) := by decide +kernel
theorem d_Md_workOut_32 : decode mm_Md_workOut.2.1 32 = .ok (.aload_n 0, 1) := by decide +kernel
theorem d_Md_workOut_33 : decode mm_Md_workOut.2.1 33 = .ok (.getfield 24, 3) := by decide +kernel
theorem d_Md_workOut_36 : decode mm_Md_workOut.2.1 36 = .ok (.iload_n 1, 1) := by decide +kernel
theorem d_Md_workOut_37 : decode mm_Md_workOut.2.1 37 = .ok (.aload_n 0, 1) := by decide +kernel
theorem d_Md_workOut_38 : decode mm_Md_workOut.2.1 38 = .ok (.getfield 231, 3) := by decide +kernel
theorem d_Md_workOut_41 : decode mm_Md_workOut.2.1 41 = .ok (.ifCond .le 7, 3) := by decide +kernel
theorem d_Md_workOut_44 : decode mm_Md_workOut.2.1 44 = .ok (.lconst 0, 1) := by decide +kernel
theorem d_Md_workOut_45 : decode mm_Md_workOut.2.1 45 = .ok (.goto 4, 3) := by decide +kernel
theorem d_Md_workOut_48 : decode mm_Md_workOut.2.1 48 = .ok (.lload_n 2, 1) := by decide +kernel
theorem d_Md_workOut_49 : decode mm_Md_workOut.2.1 49 = .ok (.lastore, 1) := by decide +kernel
theorem d_Md_workOut_50 : decode mm_Md_workOut.2.1 50 = .ok (.aload_n 0, 1) := by decide +kernel
theorem d_Md_workOut_51 : decode mm_Md_workOut.2.1 51 = .ok (.getfield 27, 3) := by decide +kernel
theorem d_Md_workOut_54 : decode mm_Md_workOut.2.1 54 = .ok (.iload_n 1, 1) := by decide +kernel
theorem d_Md_workOut_55 : decode mm_Md_workOut.2.1 55 = .ok (.iconst 1, 1) := by decide +kernel
theorem d_Md_workOut_56 : decode mm_Md_workOut.2.1 56 = .ok (.bastore, 1) := by decide +kernel
theorem d_Md_workOut_57 : decode mm_Md_workOut.2.1 57 = .ok (.bipush 40, 2) := by decide +kernel
theorem d_Md_workOut_59 : decode mm_Md_workOut.2.1 59 = .ok (.iload_n 1, 1) := by decide +kernel
theorem d_Md_workOut_60 : decode mm_Md_workOut.2.1 60 = .ok (.imul, 1) := by decide +kernel
theorem d_Md_workOut_61 : decode mm_Md_workOut.2.1 61 = .ok (.istore 4, 2) := by decide +kernel
theorem d_Md_workOut_63 : decode mm_Md_workOut.2.1 63 = .ok (.iload 4, 2) := by decide +kernel
theorem d_Md_workOut_65 : decode mm_Md_workOut.2.1 65 = .ok (.bipush 40, 2) := by decide +kernel
theorem d_Md_workOut_67 : decode mm_Md_workOut.2.1 67 = .ok (.iload_n 1, 1) := by decide +kernel
theorem d_Md_workOut_68 : decode mm_Md_workOut.2.1 68 = .ok (.imul, 1) := by decide +kernel
theorem d_Md_workOut_69 : decode mm_Md_workOut.2.1 69 = .ok (.aload_n 0, 1) := by decide +kernel
theorem d_Md_workOut_70 : decode mm_Md_workOut.2.1 70 = .ok (.getfield 33, 3) := by decide +kernel
theorem d_Md_workOut_73 : decode mm_Md_workOut.2.1 73 = .ok (.iload_n 1, 1) := by decide +kernel
theorem d_Md_workOut_74 : decode mm_Md_workOut.2.1 74 = .ok (.iaload, 1) := by decide +kernel
theorem d_Md_workOut_75 : decode mm_Md_workOut.2.1 75 = .ok (.iadd, 1) := by decide +kernel
theorem d_Md_workOut_76 : decode mm_Md_workOut.2.1 76 = .ok (.if_icmp .ge 75, 3) := by decide +kernel
theorem d_Md_workOut_79 : decode mm_Md_workOut.2.1 79 = .ok (.aload_n 0, 1) := by decide +kernel
theorem d_Md_workOut_80 : decode mm_Md_workOut.2.1 80 = .ok (.getfield 51, 3) := by decide +kernel
theorem d_Md_workOut_83 : decode mm_Md_workOut.2.1 83 = .ok (.iload 4, 2) := by decide +kernel
theorem d_Md_workOut_85 : decode mm_Md_workOut.2.1 85 = .ok (.aload_n 0, 1) := by decide +kernel
theorem d_Md_workOut_86 : decode mm_Md_workOut.2.1 86 = .ok (.getfield 36, 3) := by decide +kernel
theorem d_Md_workOut_89 : decode mm_Md_workOut.2.1 89 = .ok (.iload 4, 2) := by decide +kernel
theorem d_Md_workOut_91 : decode mm_Md_workOut.2.1 91 = .ok (.iaload, 1) := by decide +kernel
theorem d_Md_workOut_92 : decode mm_Md_workOut.2.1 92 = .ok (.iconst 1, 1) := by decide +kernel
theorem d_Md_workOut_93 : decode mm_Md_workOut.2.1 93 = .ok (.if_icmp .ne 17, 3) := by decide +kernel
theorem d_Md_workOut_96 : decode mm_Md_workOut.2.1 96 = .ok (.aload_n 0, 1) := by decide +kernel
theorem d_Md_workOut_97 : decode mm_Md_workOut.2.1 97 = .ok (.aload_n 0, 1) := by decide +kernel
theorem d_Md_workOut_98 : decode mm_Md_workOut.2.1 98 = .ok (.getfield 48, 3) := by decide +kernel
theorem d_Md_workOut_101 : decode mm_Md_workOut.2.1 101 = .ok (.iload 4, 2) := by decide +kernel
theorem d_Md_workOut_103 : decode mm_Md_workOut.2.1 103 = .ok (.laload, 1) := by decide +kernel
theorem d_Md_workOut_104 : decode mm_Md_workOut.2.1 104 = .ok (.invokevirtual 244, 3) := by decide +kernel
theorem d_Md_workOut_107 : decode mm_Md_workOut.2.1 107 = .ok (.goto 4, 3) := by decide +kernel
theorem d_Md_workOut_110 : decode mm_Md_workOut.2.1 110 = .ok (.iconst 0, 1) := by decide +kernel
theorem d_Md_workOut_111 : decode mm_Md_workOut.2.1 111 = .ok (.iastore, 1) := by decide +kernel
theorem d_Md_workOut_112 : decode mm_Md_workOut.2.1 112 = .ok (.aload_n 0, 1) := by decide +kernel
theorem d_Md_workOut_113 : decode mm_Md_workOut.2.1 113 = .ok (.getfield 54, 3) := by decide +kernel
theorem d_Md_workOut_116 : decode mm_Md_workOut.2.1 116 = .ok (.iload 4, 2) := by decide +kernel
theorem d_Md_workOut_118 : decode mm_Md_workOut.2.1 118 = .ok (.aload_n 0, 1) := by decide +kernel
theorem d_Md_workOut_119 : decode mm_Md_workOut.2.1 119 = .ok (.getfield 36, 3) := by decide +kernel
theorem d_Md_workOut_122 : decode mm_Md_workOut.2.1 122 = .ok (.iload 4, 2) := by decide +kernel
theorem d_Md_workOut_124 : decode mm_Md_workOut.2.1 124 = .ok (.iaload, 1) := by decide +kernel
theorem d_Md_workOut_125 : decode mm_Md_workOut.2.1 125 = .ok (.iconst 1, 1) := by decide +kernel
theorem d_Md_workOut_126 : decode mm_Md_workOut.2.1 126 = .ok (.if_icmp .ne 17, 3) := by decide +kernel
theorem d_Md_workOut_129 : decode mm_Md_workOut.2.1 129 = .ok (.aload_n 0, 1) := by decide +kernel
theorem d_Md_workOut_130 : decode mm_Md_workOut.2.1 130 = .ok (.aload_n 0, 1) := by decide +kernel
theorem d_Md_workOut_131 : decode mm_Md_workOut.2.1 131 = .ok (.getfield 48, 3) := by decide +kernel
theorem d_Md_workOut_134 : decode mm_Md_workOut.2.1 134 = .ok (.iload 4, 2) := by decide +kernel
theorem d_Md_workOut_136 : decode mm_Md_workOut.2.1 136 = .ok (.laload, 1) := by decide +kernel
theorem d_Md_workOut_137 : decode mm_Md_workOut.2.1 137 = .ok (.invokevirtual 247, 3) := by decide +kernel
theorem d_Md_workOut_140 : decode mm_Md_workOut.2.1 140 = .ok (.goto 4, 3) := by decide +kernel
theorem d_Md_workOut_143 : decode mm_Md_workOut.2.1 143 = .ok (.lconst 0, 1) := by decide +kernel
theorem d_Md_workOut_144 : decode mm_Md_workOut.2.1 144 = .ok (.lastore, 1) := by decide +kernel
theorem d_Md_workOut_145 : decode mm_Md_workOut.2.1 145 = .ok (.iinc 4 1, 3) := by decide +kernel
theorem d_Md_workOut_148 : decode mm_Md_workOut.2.1 148 = .ok (.goto (-85), 3) := by decide +kernel
theorem d_Md_workOut_151 : decode mm_Md_workOut.2.1 151 = .ok (.aload_n 0, 1) := by decide +kernel
theorem d_Md_workOut_152 : decode mm_Md_workOut.2.1 152 = .ok (.dup, 1) := by decide +kernel
theorem d_Md_workOut_153 : decode mm_Md_workOut.2.1 153 = .ok (.getfield 254, 3) := by decide +kernel
theorem d_Md_workOut_156 : decode mm_Md_workOut.2.1 156 = .ok (.iconst 1, 1) := by decide +kernel
theorem d_Md_workOut_157 : decode mm_Md_workOut.2.1 157 = .ok (.iadd, 1) := by decide +kernel
theorem d_Md_workOut_158 : decode mm_Md_workOut.2.1 158 = .ok (.putfield 254, 3) := by decide +kernel
theorem d_Md_workOut_161 : decode mm_Md_workOut.2.1 161 = .ok (.aload_n 0, 1) := by decide +kernel
theorem d_Md_workOut_162 : decode mm_Md_workOut.2.1 162 = .ok (.getfield 257, 3) := by decide +kernel
theorem d_Md_workOut_165 : decode mm_Md_workOut.2.1 165 = .ok (.istore 4, 2) := by decide +kernel
theorem d_Md_workOut_167 : decode mm_Md_workOut.2.1 167 = .ok (.iload 4, 2) := by decide +kernel
theorem d_Md_workOut_169 : decode mm_Md_workOut.2.1 169 = .ok (.ifCond .le 44, 3) := by decide +kernel
theorem d_Md_workOut_172 : decode mm_Md_workOut.2.1 172 = .ok (.aload_n 0, 1) := by decide +kernel
theorem d_Md_workOut_173 : decode mm_Md_workOut.2.1 173 = .ok (.getfield 57, 3) := by decide +kernel
theorem d_Md_workOut_176 : decode mm_Md_workOut.2.1 176 = .ok (.iload 4, 2) := by decide +kernel
theorem d_Md_workOut_178 : decode mm_Md_workOut.2.1 178 = .ok (.iconst 1, 1) := by decide +kernel
theorem d_Md_workOut_179 : decode mm_Md_workOut.2.1 179 = .ok (.isub, 1) := by decide +kernel
theorem d_Md_workOut_180 : decode mm_Md_workOut.2.1 180 = .ok (.laload, 1) := by decide +kernel
theorem d_Md_workOut_181 : decode mm_Md_workOut.2.1 181 = .ok (.aload_n 0, 1) := by decide +kernel
theorem d_Md_workOut_182 : decode mm_Md_workOut.2.1 182 = .ok (.getfield 17, 3) := by decide +kernel
theorem d_Md_workOut_185 : decode mm_Md_workOut.2.1 185 = .ok (.iload_n 1, 1) := by decide +kernel
theorem d_Md_workOut_186 : decode mm_Md_workOut.2.1 186 = .ok (.laload, 1) := by decide +kernel
theorem d_Md_workOut_187 : decode mm_Md_workOut.2.1 187 = .ok (.lcmp, 1) := by decide +kernel
theorem d_Md_workOut_188 : decode mm_Md_workOut.2.1 188 = .ok (.ifCond .le 25, 3) := by decide +kernel
theorem d_Md_workOut_191 : decode mm_Md_workOut.2.1 191 = .ok (.aload_n 0, 1) := by decide +kernel
theorem d_Md_workOut_192 : decode mm_Md_workOut.2.1 192 = .ok (.getfield 57, 3) := by decide +kernel
theorem d_Md_workOut_195 : decode mm_Md_workOut.2.1 195 = .ok (.iload 4, 2) := by decide +kernel
theorem d_Md_workOut_197 : decode mm_Md_workOut.2.1 197 = .ok (.aload_n 0, 1) := by decide +kernel
theorem d_Md_workOut_198 : decode mm_Md_workOut.2.1 198 = .ok (.getfield 57, 3) := by decide +kernel
theorem d_Md_workOut_201 : decode mm_Md_workOut.2.1 201 = .ok (.iload 4, 2) := by decide +kernel
theorem d_Md_workOut_203 : decode mm_Md_workOut.2.1 203 = .ok (.iconst 1, 1) := by decide +kernel
theorem d_Md_workOut_204 : decode mm_Md_workOut.2.1 204 = .ok (.isub, 1) := by decide +kernel
theorem d_Md_workOut_205 : decode mm_Md_workOut.2.1 205 = .ok (.laload, 1) := by decide +kernel
theorem d_Md_workOut_206 : decode mm_Md_workOut.2.1 206 = .ok (.lastore, 1) := by decide +kernel
theorem d_Md_workOut_207 : decode mm_Md_workOut.2.1 207 = .ok (.iinc 4 (-1), 3) := by decide +kernel
theorem d_Md_workOut_210 : decode mm_Md_workOut.2.1 210 = .ok (.goto (-43), 3) := by decide +kernel
theorem d_Md_workOut_213 : decode mm_Md_workOut.2.1 213 = .ok (.aload_n 0, 1) := by decide +kernel
theorem d_Md_workOut_214 : decode mm_Md_workOut.2.1 214 = .ok (.getfield 57, 3) := by decide +kernel
theorem d_Md_workOut_217 : decode mm_Md_workOut.2.1 217 = .ok (.iload 4, 2) := by decide +kernel
theorem d_Md_workOut_219 : decode mm_Md_workOut.2.1 219 = .ok (.aload_n 0, 1) := by decide +kernel
theorem d_Md_workOut_220 : decode mm_Md_workOut.2.1 220 = .ok (.getfield 17, 3) := by decide +kernel
theorem d_Md_workOut_223 : decode mm_Md_workOut.2.1 223 = .ok (.iload_n 1, 1) := by decide +kernel
theorem d_Md_workOut_224 : decode mm_Md_workOut.2.1 224 = .ok (.laload, 1) := by decide +kernel
theorem d_Md_workOut_225 : decode mm_Md_workOut.2.1 225 = .ok (.lastore, 1) := by decide +kernel
theorem d_Md_workOut_226 : decode mm_Md_workOut.2.1 226 = .ok (.aload_n 0, 1) := by decide +kernel
theorem d_Md_workOut_227 : decode mm_Md_workOut.2.1 227 = .ok (.dup, 1) := by decide +kernel
theorem d_Md_workOut_228 : decode mm_Md_workOut.2.1 228 = .ok (.getfield 257, 3) := by decide +kernel
theorem d_Md_workOut_231 : decode mm_Md_workOut.2.1 231 = .ok (.iconst 1, 1) := by decide +kernel
theorem d_Md_workOut_232 : decode mm_Md_workOut.2.1 232 = .ok (.iadd, 1) := by decide +kernel
theorem d_Md_workOut_233 : decode mm_Md_workOut.2.1 233 = .ok (.putfield 257, 3) := by decide +kernel
theorem d_Md_workOut_236 : decode mm_Md_workOut.2.1 236 = .ok (.return_, 1) := by decide +kernel
theorem d_Md_work_0 : decode mm_Md_work.2.1 0 = .ok (.aload_n 0, 1) := by decide +kernel
theorem d_Md_work_1 : decode mm_Md_work.2.1 1 = .ok (.iconst 0, 1) := by decide +kernel
theorem d_Md_work_2 : decode mm_Md_work.2.1 2 = .ok (.putfield 225, 3) := by decide +kernel
theorem d_Md_work_5 : decode mm_Md_work.2.1 5 = .ok (.aload_n 0, 1) := by decide +kernel
theorem d_Md_work_6 : decode mm_Md_work.2.1 6 = .ok (.aload_n 0, 1) := by decide +kernel
theorem d_Md_work_7 : decode mm_Md_work.2.1 7 = .ok (.getfield 30, 3) := by decide +kernel
theorem d_Md_work_10 : decode mm_Md_work.2.1 10 = .ok (.iload_n 1, 1) := by decide +kernel
theorem d_Md_work_11 : decode mm_Md_work.2.1 11 = .ok (.iaload, 1) := by decide +kernel
theorem d_Md_work_12 : decode mm_Md_work.2.1 12 = .ok (.invokevirtual 228, 3) := by decide +kernel
theorem d_Md_work_15 : decode mm_Md_work.2.1 15 = .ok (.aload_n 0, 1) := by decide +kernel
theorem d_Md_work_16 : decode mm_Md_work.2.1 16 = .ok (.getfield 225, 3) := by decide +kernel
theorem d_Md_work_19 : decode mm_Md_work.2.1 19 = .ok (.ifCond .le 259, 3) := by decide +kernel
theorem d_Md_work_22 : decode mm_Md_work.2.1 22 = .ok (.aload_n 0, 1) := by decide +kernel
theorem d_Md_work_23 : decode mm_Md_work.2.1 23 = .ok (.getfield 231, 3) := by decide +kernel
theorem d_Md_work_26 : decode mm_Md_work.2.1 26 = .ok (.ifCond .ne 252, 3) := by decide +kernel
theorem d_Md_work_29 : decode mm_Md_work.2.1 29 = .ok (.bipush 40, 2) := by decide +kernel
theorem d_Md_work_31 : decode mm_Md_work.2.1 31 = .ok (.iload_n 1, 1) := by decide +kernel
theorem d_Md_work_32 : decode mm_Md_work.2.1 32 = .ok (.imul, 1) := by decide +kernel
theorem d_Md_work_33 : decode mm_Md_work.2.1 33 = .ok (.aload_n 0, 1) := by decide +kernel
theorem d_Md_work_34 : decode mm_Md_work.2.1 34 = .ok (.getfield 87, 3) := by decide +kernel
theorem d_Md_work_37 : decode mm_Md_work.2.1 37 = .ok (.aload_n 0, 1) := by decide +kernel
theorem d_Md_work_38 : decode mm_Md_work.2.1 38 = .ok (.getfield 225, 3) := by decide +kernel
theorem d_Md_work_41 : decode mm_Md_work.2.1 41 = .ok (.iconst 1, 1) := by decide +kernel
theorem d_Md_work_42 : decode mm_Md_work.2.1 42 = .ok (.isub, 1) := by decide +kernel
theorem d_Md_work_43 : decode mm_Md_work.2.1 43 = .ok (.iaload, 1) := by decide +kernel
theorem d_Md_work_44 : decode mm_Md_work.2.1 44 = .ok (.iadd, 1) := by decide +kernel
theorem d_Md_work_45 : decode mm_Md_work.2.1 45 = .ok (.istore_n 2, 1) := by decide +kernel
theorem d_Md_work_46 : decode mm_Md_work.2.1 46 = .ok (.aload_n 0, 1) := by decide +kernel
theorem d_Md_work_47 : decode mm_Md_work.2.1 47 = .ok (.getfield 90, 3) := by decide +kernel
theorem d_Md_work_50 : decode mm_Md_work.2.1 50 = .ok (.aload_n 0, 1) := by decide +kernel
theorem d_Md_work_51 : decode mm_Md_work.2.1 51 = .ok (.getfield 225, 3) := by decide +kernel
theorem d_Md_work_54 : decode mm_Md_work.2.1 54 = .ok (.iconst 1, 1) := by decide +kernel
theorem d_Md_work_55 : decode mm_Md_work.2.1 55 = .ok (.isub, 1) := by decide +kernel
theorem d_Md_work_56 : decode mm_Md_work.2.1 56 = .ok (.iaload, 1) := by decide +kernel
theorem d_Md_work_57 : decode mm_Md_work.2.1 57 = .ok (.istore_n 3, 1) := by decide +kernel
theorem d_Md_work_58 : decode mm_Md_work.2.1 58 = .ok (.aload_n 0, 1) := by decide +kernel
theorem d_Md_work_59 : decode mm_Md_work.2.1 59 = .ok (.getfield 90, 3) := by decide +kernel
theorem d_Md_work_62 : decode mm_Md_work.2.1 62 = .ok (.aload_n 0, 1) := by decide +kernel
theorem d_Md_work_63 : decode mm_Md_work.2.1 63 = .ok (.getfield 225, 3) := by decide +kernel
theorem d_Md_work_66 : decode mm_Md_work.2.1 66 = .ok (.iconst 1, 1) := by decide +kernel
theorem d_Md_work_67 : decode mm_Md_work.2.1 67 = .ok (.isub, 1) := by decide +kernel
theorem d_Md_work_68 : decode mm_Md_work.2.1 68 = .ok (.dup2, 1) := by decide +kernel
theorem d_Md_work_69 : decode mm_Md_work.2.1 69 = .ok (.iaload, 1) := by decide +kernel
theorem d_Md_work_70 : decode mm_Md_work.2.1 70 = .ok (.iconst 1, 1) := by decide +kernel
theorem d_Md_work_71 : decode mm_Md_work.2.1 71 = .ok (.iadd, 1) := by decide +kernel
theorem d_Md_work_72 : decode mm_Md_work.2.1 72 = .ok (.iastore, 1) := by decide +kernel
theorem d_Md_work_73 : decode mm_Md_work.2.1 73 = .ok (.aload_n 0, 1) := by decide +kernel
theorem d_Md_work_74 : decode mm_Md_work.2.1 74 = .ok (.getfield 36, 3) := by decide +kernel
theorem d_Md_work_77 : decode mm_Md_work.2.1 77 = .ok (.iload_n 2, 1) := by decide +kernel
theorem d_Md_work_78 : decode mm_Md_work.2.1 78 = .ok (.iaload, 1) := by decide +kernel
theorem d_Md_work_79 : decode mm_Md_work.2.1 79 = .ok (.iconst 1, 1) := by decide +kernel
theorem d_Md_work_80 : decode mm_Md_work.2.1 80 = .ok (.if_icmp .gt 21, 3) := by decide +kernel
theorem d_Md_work_83 : decode mm_Md_work.2.1 83 = .ok (.aload_n 0, 1) := by decide +kernel
theorem d_Md_work_84 : decode mm_Md_work.2.1 84 = .ok (.iload_n 2, 1) := by decide +kernel
theorem d_Md_work_85 : decode mm_Md_work.2.1 85 = .ok (.invokevirtual 234, 3) := by decide +kernel
theorem d_Md_work_88 : decode mm_Md_work.2.1 88 = .ok (.aload_n 0, 1) := by decide +kernel
theorem d_Md_work_89 : decode mm_Md_work.2.1 89 = .ok (.dup, 1) := by decide +kernel
theorem d_Md_work_90 : decode mm_Md_work.2.1 90 = .ok (.getfield 225, 3) := by decide +kernel
theorem d_Md_work_93 : decode mm_Md_work.2.1 93 = .ok (.iconst 1, 1) := by decide +kernel
theorem d_Md_work_94 : decode mm_Md_work.2.1 94 = .ok (.isub, 1) := by decide +kernel
theorem d_Md_work_95 : decode mm_Md_work.2.1 95 = .ok (.putfield 225, 3) := by decide +kernel
theorem d_Md_work_98 : decode mm_Md_work.2.1 98 = .ok (.goto 177, 3) := by decide +kernel
theorem d_Md_work_101 : decode mm_Md_work.2.1 101 = .ok (.iload_n 3, 1) := by decide +kernel
theorem d_Md_work_102 : decode mm_Md_work.2.1 102 = .ok (.ifCond .ne 16, 3) := by decide +kernel
theorem d_Md_work_105 : decode mm_Md_work.2.1 105 = .ok (.aload_n 0, 1) := by decide +kernel
theorem d_Md_work_106 : decode mm_Md_work.2.1 106 = .ok (.aload_n 0, 1) := by decide +kernel
theorem d_Md_work_107 : decode mm_Md_work.2.1 107 = .ok (.getfield 39, 3) := by decide +kernel
theorem d_Md_work_110 : decode mm_Md_work.2.1 110 = .ok (.iload_n 2, 1) := by decide +kernel
theorem d_Md_work_111 : decode mm_Md_work.2.1 111 = .ok (.iaload, 1) := by decide +kernel
theorem d_Md_work_112 : decode mm_Md_work.2.1 112 = .ok (.invokevirtual 228, 3) := by decide +kernel
theorem d_Md_work_115 : decode mm_Md_work.2.1 115 = .ok (.goto 160, 3) := by decide +kernel
theorem d_Md_work_118 : decode mm_Md_work.2.1 118 = .ok (.iload_n 3, 1) := by decide +kernel
theorem d_Md_work_119 : decode mm_Md_work.2.1 119 = .ok (.iconst 1, 1) := by decide +kernel
theorem d_Md_work_120 : decode mm_Md_work.2.1 120 = .ok (.if_icmp .ne 36, 3) := by decide +kernel
theorem d_Md_work_123 : decode mm_Md_work.2.1 123 = .ok (.aload_n 0, 1) := by decide +kernel
theorem d_Md_work_124 : decode mm_Md_work.2.1 124 = .ok (.getfield 36, 3) := by decide +kernel
theorem d_Md_work_127 : decode mm_Md_work.2.1 127 = .ok (.iload_n 2, 1) := by decide +kernel
theorem d_Md_work_128 : decode mm_Md_work.2.1 128 = .ok (.iaload, 1) := by decide +kernel
theorem d_Md_work_129 : decode mm_Md_work.2.1 129 = .ok (.bipush 6, 2) := by decide +kernel
theorem d_Md_work_131 : decode mm_Md_work.2.1 131 = .ok (.if_icmp .ne 25, 3) := by decide +kernel
theorem d_Md_work_134 : decode mm_Md_work.2.1 134 = .ok (.aload_n 0, 1) := by decide +kernel
theorem d_Md_work_135 : decode mm_Md_work.2.1 135 = .ok (.aload_n 0, 1) := by decide +kernel
theorem d_Md_work_136 : decode mm_Md_work.2.1 136 = .ok (.getfield 237, 3) := by decide +kernel
theorem d_Md_work_139 : decode mm_Md_work.2.1 139 = .ok (.lneg, 1) := by decide +kernel
theorem d_Md_work_140 : decode mm_Md_work.2.1 140 = .ok (.putfield 237, 3) := by decide +kernel
theorem d_Md_work_143 : decode mm_Md_work.2.1 143 = .ok (.aload_n 0, 1) := by decide +kernel
theorem d_Md_work_144 : decode mm_Md_work.2.1 144 = .ok (.dup, 1) := by decide +kernel
theorem d_Md_work_145 : decode mm_Md_work.2.1 145 = .ok (.getfield 225, 3) := by decide +kernel
theorem d_Md_work_148 : decode mm_Md_work.2.1 148 = .ok (.iconst 1, 1) := by decide +kernel
theorem d_Md_work_149 : decode mm_Md_work.2.1 149 = .ok (.isub, 1) := by decide +kernel
theorem d_Md_work_150 : decode mm_Md_work.2.1 150 = .ok (.putfield 225, 3) := by decide +kernel
theorem d_Md_work_153 : decode mm_Md_work.2.1 153 = .ok (.goto 122, 3) := by decide +kernel
theorem d_Md_work_156 : decode mm_Md_work.2.1 156 = .ok (.iload_n 3, 1) := by decide +kernel
theorem d_Md_work_157 : decode mm_Md_work.2.1 157 = .ok (.iconst 1, 1) := by decide +kernel
theorem d_Md_work_158 : decode mm_Md_work.2.1 158 = .ok (.if_icmp .ne 60, 3) := by decide +kernel
theorem d_Md_work_161 : decode mm_Md_work.2.1 161 = .ok (.aload_n 0, 1) := by decide +kernel
theorem d_Md_work_162 : decode mm_Md_work.2.1 162 = .ok (.getfield 93, 3) := by decide +kernel
theorem d_Md_work_165 : decode mm_Md_work.2.1 165 = .ok (.aload_n 0, 1) := by decide +kernel
theorem d_Md_work_166 : decode mm_Md_work.2.1 166 = .ok (.getfield 225, 3) := by decide +kernel
theorem d_Md_work_169 : decode mm_Md_work.2.1 169 = .ok (.iconst 1, 1) := by decide +kernel
theorem d_Md_work_170 : decode mm_Md_work.2.1 170 = .ok (.isub, 1) := by decide +kernel
theorem d_Md_work_171 : decode mm_Md_work.2.1 171 = .ok (.aload_n 0, 1) := by decide +kernel
theorem d_Md_work_172 : decode mm_Md_work.2.1 172 = .ok (.getfield 237, 3) := by decide +kernel
theorem d_Md_work_175 : decode mm_Md_work.2.1 175 = .ok (.lastore, 1) := by decide +kernel
theorem d_Md_work_176 : decode mm_Md_work.2.1 176 = .ok (.aload_n 0, 1) := by decide +kernel
theorem d_Md_work_177 : decode mm_Md_work.2.1 177 = .ok (.aload_n 0, 1) := by decide +kernel
theorem d_Md_work_178 : decode mm_Md_work.2.1 178 = .ok (.getfield 36, 3) := by decide +kernel
theorem d_Md_work_181 : decode mm_Md_work.2.1 181 = .ok (.iload_n 2, 1) := by decide +kernel
theorem d_Md_work_182 : decode mm_Md_work.2.1 182 = .ok (.iaload, 1) := by decide +kernel
theorem d_Md_work_183 : decode mm_Md_work.2.1 183 = .ok (.bipush 9, 2) := by decide +kernel
theorem d_Md_work_185 : decode mm_Md_work.2.1 185 = .ok (.if_icmp .ne 21, 3) := by decide +kernel
theorem d_Md_work_188 : decode mm_Md_work.2.1 188 = .ok (.aload_n 0, 1) := by decide +kernel
theorem d_Md_work_189 : decode mm_Md_work.2.1 189 = .ok (.getfield 237, 3) := by decide +kernel
theorem d_Md_work_192 : decode mm_Md_work.2.1 192 = .ok (.lconst 0, 1) := by decide +kernel
theorem d_Md_work_193 : decode mm_Md_work.2.1 193 = .ok (.lcmp, 1) := by decide +kernel
theorem d_Md_work_194 : decode mm_Md_work.2.1 194 = .ok (.ifCond .gt 12, 3) := by decide +kernel
theorem d_Md_work_197 : decode mm_Md_work.2.1 197 = .ok (.aload_n 0, 1) := by decide +kernel
theorem d_Md_work_198 : decode mm_Md_work.2.1 198 = .ok (.getfield 45, 3) := by decide +kernel
theorem d_Md_work_201 : decode mm_Md_work.2.1 201 = .ok (.iload_n 2, 1) := by decide +kernel
theorem d_Md_work_202 : decode mm_Md_work.2.1 202 = .ok (.iaload, 1) := by decide +kernel
theorem d_Md_work_203 : decode mm_Md_work.2.1 203 = .ok (.goto 9, 3) := by decide +kernel
theorem d_Md_work_206 : decode mm_Md_work.2.1 206 = .ok (.aload_n 0, 1) := by decide +kernel
theorem d_Md_work_207 : decode mm_Md_work.2.1 207 = .ok (.getfield 42, 3) := by decide +kernel
theorem d_Md_work_210 : decode mm_Md_work.2.1 210 = .ok (.iload_n 2, 1) := by decide +kernel
theorem d_Md_work_211 : decode mm_Md_work.2.1 211 = .ok (.iaload, 1) := by decide +kernel
theorem d_Md_work_212 : decode mm_Md_work.2.1 212 = .ok (.invokevirtual 228, 3) := by decide +kernel
theorem d_Md_work_215 : decode mm_Md_work.2.1 215 = .ok (.goto 60, 3) := by decide +kernel
theorem d_Md_work_218 : decode mm_Md_work.2.1 218 = .ok (.aload_n 0, 1) := by decide +kernel
theorem d_Md_work_219 : decode mm_Md_work.2.1 219 = .ok (.aload_n 0, 1) := by decide +kernel
theorem d_Md_work_220 : decode mm_Md_work.2.1 220 = .ok (.getfield 36, 3) := by decide +kernel
theorem d_Md_work_223 : decode mm_Md_work.2.1 223 = .ok (.iload_n 2, 1) := by decide +kernel
theorem d_Md_work_224 : decode mm_Md_work.2.1 224 = .ok (.iaload, 1) := by decide +kernel
theorem d_Md_work_225 : decode mm_Md_work.2.1 225 = .ok (.bipush 9, 2) := by decide +kernel
theorem d_Md_work_227 : decode mm_Md_work.2.1 227 = .ok (.if_icmp .ne 10, 3) := by decide +kernel
theorem d_Md_work_230 : decode mm_Md_work.2.1 230 = .ok (.aload_n 0, 1) := by decide +kernel
theorem d_Md_work_231 : decode mm_Md_work.2.1 231 = .ok (.getfield 237, 3) := by decide +kernel
theorem d_Md_work_234 : decode mm_Md_work.2.1 234 = .ok (.goto 28, 3) := by decide +kernel
theorem d_Md_work_237 : decode mm_Md_work.2.1 237 = .ok (.aload_n 0, 1) := by decide +kernel
theorem d_Md_work_238 : decode mm_Md_work.2.1 238 = .ok (.aload_n 0, 1) := by decide +kernel
theorem d_Md_work_239 : decode mm_Md_work.2.1 239 = .ok (.getfield 36, 3) := by decide +kernel
theorem d_Md_work_242 : decode mm_Md_work.2.1 242 = .ok (.iload_n 2, 1) := by decide +kernel
theorem d_Md_work_243 : decode mm_Md_work.2.1 243 = .ok (.iaload, 1) := by decide +kernel
theorem d_Md_work_244 : decode mm_Md_work.2.1 244 = .ok (.aload_n 0, 1) := by decide +kernel
theorem d_Md_work_245 : decode mm_Md_work.2.1 245 = .ok (.getfield 93, 3) := by decide +kernel
theorem d_Md_work_248 : decode mm_Md_work.2.1 248 = .ok (.aload_n 0, 1) := by decide +kernel
theorem d_Md_work_249 : decode mm_Md_work.2.1 249 = .ok (.getfield 225, 3) := by decide +kernel
theorem d_Md_work_252 : decode mm_Md_work.2.1 252 = .ok (.iconst 1, 1) := by decide +kernel
theorem d_Md_work_253 : decode mm_Md_work.2.1 253 = .ok (.isub, 1) := by decide +kernel
theorem d_Md_work_254 : decode mm_Md_work.2.1 254 = .ok (.laload, 1) := by decide +kernel
theorem d_Md_work_255 : decode mm_Md_work.2.1 255 = .ok (.aload_n 0, 1) := by decide +kernel
theorem d_Md_work_256 : decode mm_Md_work.2.1 256 = .ok (.getfield 237, 3) := by decide +kernel
theorem d_Md_work_259 : decode mm_Md_work.2.1 259 = .ok (.invokevirtual 240, 3) := by decide +kernel
theorem d_Md_work_262 : decode mm_Md_work.2.1 262 = .ok (.putfield 237, 3) := by decide +kernel
theorem d_Md_work_265 : decode mm_Md_work.2.1 265 = .ok (.aload_n 0, 1) := by decide +kernel
theorem d_Md_work_266 : decode mm_Md_work.2.1 266 = .ok (.dup, 1) := by decide +kernel
theorem d_Md_work_267 : decode mm_Md_work.2.1 267 = .ok (.getfield 225, 3) := by decide +kernel
theorem d_Md_work_270 : decode mm_Md_work.2.1 270 = .ok (.iconst 1, 1) := by decide +kernel
theorem d_Md_work_271 : decode mm_Md_work.2.1 271 = .ok (.isub, 1) := by decide +kernel
theorem d_Md_work_272 : decode mm_Md_work.2.1 272 = .ok (.putfield 225, 3) := by decide +kernel
theorem d_Md_work_275 : decode mm_Md_work.2.1 275 = .ok (.goto (-260), 3) := by decide +kernel
theorem d_Md_work_278 : decode mm_Md_work.2.1 278 = .ok (.aload_n 0, 1) := by decide +kernel
theorem d_Md_work_279 : decode mm_Md_work.2.1 279 = .ok (.getfield 231, 3) := by decide +kernel
theorem d_Md_work_282 : decode mm_Md_work.2.1 282 = .ok (.ifCond .le 7, 3) := by decide +kernel
theorem d_Md_work_285 : decode mm_Md_work.2.1 285 = .ok (.lconst 0, 1) := by decide +kernel
theorem d_Md_work_286 : decode mm_Md_work.2.1 286 = .ok (.goto 7, 3) := by decide +kernel
theorem d_Md_work_289 : decode mm_Md_work.2.1 289 = .ok (.aload_n 0, 1) := by decide +kernel
theorem d_Md_work_290 : decode mm_Md_work.2.1 290 = .ok (.getfield 237, 3) := by decide +kernel
theorem d_Md_work_293 : decode mm_Md_work.2.1 293 = .ok (.lreturn, 1) := by decide +kernel
theorem d_Md_push_0 : decode mm_Md_push.2.1 0 = .ok (.aload_n 0, 1) := by decide +kernel
theorem d_Md_push_1 : decode mm_Md_push.2.1 1 = .ok (.getfield 87, 3) := by decide +kernel
theorem d_Md_push_4 : decode mm_Md_push.2.1 4 = .ok (.aload_n 0, 1) := by decide +kernel
theorem d_Md_push_5 : decode mm_Md_push.2.1 5 = .ok (.getfield 225, 3) := by decide +kernel
theorem d_Md_push_8 : decode mm_Md_push.2.1 8 = .ok (.iload_n 1, 1) := by decide +kernel
theorem d_Md_push_9 : decode mm_Md_push.2.1 9 = .ok (.iastore, 1) := by decide +kernel
theorem d_Md_push_10 : decode mm_Md_push.2.1 10 = .ok (.aload_n 0, 1) := by decide +kernel
theorem d_Md_push_11 : decode mm_Md_push.2.1 11 = .ok (.getfield 90, 3) := by decide +kernel
theorem d_Md_push_14 : decode mm_Md_push.2.1 14 = .ok (.aload_n 0, 1) := by decide +kernel
theorem d_Md_push_15 : decode mm_Md_push.2.1 15 = .ok (.getfield 225, 3) := by decide +kernel
theorem d_Md_push_18 : decode mm_Md_push.2.1 18 = .ok (.iconst 0, 1) := by decide +kernel
theorem d_Md_push_19 : decode mm_Md_push.2.1 19 = .ok (.iastore, 1) := by decide +kernel
theorem d_Md_push_20 : decode mm_Md_push.2.1 20 = .ok (.aload_n 0, 1) := by decide +kernel
theorem d_Md_push_21 : decode mm_Md_push.2.1 21 = .ok (.dup, 1) := by decide +kernel
theorem d_Md_push_22 : decode mm_Md_push.2.1 22 = .ok (.getfield 225, 3) := by decide +kernel
theorem d_Md_push_25 : decode mm_Md_push.2.1 25 = .ok (.iconst 1, 1) := by decide +kernel
theorem d_Md_push_26 : decode mm_Md_push.2.1 26 = .ok (.iadd, 1) := by decide +kernel
theorem d_Md_push_27 : decode mm_Md_push.2.1 27 = .ok (.putfield 225, 3) := by decide +kernel
theorem d_Md_push_30 : decode mm_Md_push.2.1 30 = .ok (.return_, 1) := by decide +kernel
theorem d_Md_leaf_0 : decode mm_Md_leaf.2.1 0 = .ok (.aload_n 0, 1) := by decide +kernel
theorem d_Md_leaf_1 : decode mm_Md_leaf.2.1 1 = .ok (.getfield 36, 3) := by decide +kernel
theorem d_Md_leaf_4 : decode mm_Md_leaf.2.1 4 = .ok (.iload_n 1, 1) := by decide +kernel
theorem d_Md_leaf_5 : decode mm_Md_leaf.2.1 5 = .ok (.iaload, 1) := by decide +kernel
theorem d_Md_leaf_6 : decode mm_Md_leaf.2.1 6 = .ok (.ifCond .ne 14, 3) := by decide +kernel
theorem d_Md_leaf_9 : decode mm_Md_leaf.2.1 9 = .ok (.aload_n 0, 1) := by decide +kernel
theorem d_Md_leaf_10 : decode mm_Md_leaf.2.1 10 = .ok (.aload_n 0, 1) := by decide +kernel
theorem d_Md_leaf_11 : decode mm_Md_leaf.2.1 11 = .ok (.getfield 48, 3) := by decide +kernel
theorem d_Md_leaf_14 : decode mm_Md_leaf.2.1 14 = .ok (.iload_n 1, 1) := by decide +kernel
theorem d_Md_leaf_15 : decode mm_Md_leaf.2.1 15 = .ok (.laload, 1) := by decide +kernel
theorem d_Md_leaf_16 : decode mm_Md_leaf.2.1 16 = .ok (.putfield 237, 3) := by decide +kernel
theorem d_Md_leaf_19 : decode mm_Md_leaf.2.1 19 = .ok (.return_, 1) := by decide +kernel
theorem d_Md_leaf_20 : decode mm_Md_leaf.2.1 20 = .ok (.aload_n 0, 1) := by decide +kernel
theorem d_Md_leaf_21 : decode mm_Md_leaf.2.1 21 = .ok (.aload_n 0, 1) := by decide +kernel
theorem d_Md_leaf_22 : decode mm_Md_leaf.2.1 22 = .ok (.aload_n 0, 1) := by decide +kernel
theorem d_Md_leaf_23 : decode mm_Md_leaf.2.1 23 = .ok (.getfield 48, 3) := by decide +kernel
theorem d_Md_leaf_26 : decode mm_Md_leaf.2.1 26 = .ok (.iload_n 1, 1) := by decide +kernel
theorem d_Md_leaf_27 : decode mm_Md_leaf.2.1 27 = .ok (.laload, 1) := by decide +kernel
theorem d_Md_leaf_28 : decode mm_Md_leaf.2.1 28 = .ok (.invokevirtual 244, 3) := by decide +kernel
theorem d_Md_leaf_31 : decode mm_Md_leaf.2.1 31 = .ok (.iconst 1, 1) := by decide +kernel
theorem d_Md_leaf_32 : decode mm_Md_leaf.2.1 32 = .ok (.if_icmp .ne 7, 3) := by decide +kernel
theorem d_Md_leaf_35 : decode mm_Md_leaf.2.1 35 = .ok (.iconst 0, 1) := by decide +kernel
theorem d_Md_leaf_36 : decode mm_Md_leaf.2.1 36 = .ok (.goto 4, 3) := by decide +kernel
theorem d_Md_leaf_39 : decode mm_Md_leaf.2.1 39 = .ok (.iconst 3, 1) := by decide +kernel
theorem d_Md_leaf_40 : decode mm_Md_leaf.2.1 40 = .ok (.putfield 231, 3) := by decide +kernel
theorem d_Md_leaf_43 : decode mm_Md_leaf.2.1 43 = .ok (.aload_n 0, 1) := by decide +kernel
theorem d_Md_leaf_44 : decode mm_Md_leaf.2.1 44 = .ok (.aload_n 0, 1) := by decide +kernel
theorem d_Md_leaf_45 : decode mm_Md_leaf.2.1 45 = .ok (.aload_n 0, 1) := by decide +kernel
theorem d_Md_leaf_46 : decode mm_Md_leaf.2.1 46 = .ok (.getfield 48, 3) := by decide +kernel
theorem d_Md_leaf_49 : decode mm_Md_leaf.2.1 49 = .ok (.iload_n 1, 1) := by decide +kernel
theorem d_Md_leaf_50 : decode mm_Md_leaf.2.1 50 = .ok (.laload, 1) := by decide +kernel
theorem d_Md_leaf_51 : decode mm_Md_leaf.2.1 51 = .ok (.invokevirtual 247, 3) := by decide +kernel
theorem d_Md_leaf_54 : decode mm_Md_leaf.2.1 54 = .ok (.putfield 237, 3) := by decide +kernel
theorem d_Md_leaf_57 : decode mm_Md_leaf.2.1 57 = .ok (.return_, 1) := by decide +kernel
theorem d_Md_both_0 : decode mm_Md_both.2.1 0 = .ok (.iload_n 1, 1) := by decide +kernel
theorem d_Md_both_1 : decode mm_Md_both.2.1 1 = .ok (.iconst 5, 1) := by decide +kernel
theorem d_Md_both_2 : decode mm_Md_both.2.1 2 = .ok (.if_icmp .ne 17, 3) := by decide +kernel
theorem d_Md_both_5 : decode mm_Md_both.2.1 5 = .ok (.lload 4, 2) := by decide +kernel
theorem d_Md_both_7 : decode mm_Md_both.2.1 7 = .ok (.lconst 0, 1) := by decide +kernel
theorem d_Md_both_8 : decode mm_Md_both.2.1 8 = .ok (.lcmp, 1) := by decide +kernel
theorem d_Md_both_9 : decode mm_Md_both.2.1 9 = .ok (.ifCond .ne 10, 3) := by decide +kernel
theorem d_Md_both_12 : decode mm_Md_both.2.1 12 = .ok (.aload_n 0, 1) := by decide +kernel
theorem d_Md_both_13 : decode mm_Md_both.2.1 13 = .ok (.iconst 2, 1) := by decide +kernel
theorem d_Md_both_14 : decode mm_Md_both.2.1 14 = .ok (.putfield 231, 3) := by decide +kernel
theorem d_Md_both_17 : decode mm_Md_both.2.1 17 = .ok (.lconst 0, 1) := by decide +kernel
theorem d_Md_both_18 : decode mm_Md_both.2.1 18 = .ok (.lreturn, 1) := by decide +kernel
theorem d_Md_both_19 : decode mm_Md_both.2.1 19 = .ok (.iload_n 1, 1) := by decide +kernel
theorem d_Md_both_20 : decode mm_Md_both.2.1 20 = .ok (.tableswitch 74 2 7 #[40, 45, 50, 55, 74, 60], 40) := by decide +kernel
theorem d_Md_both_60 : decode mm_Md_both.2.1 60 = .ok (.lload_n 2, 1) := by decide +kernel
theorem d_Md_both_61 : decode mm_Md_both.2.1 61 = .ok (.lload 4, 2) := by decide +kernel
theorem d_Md_both_63 : decode mm_Md_both.2.1 63 = .ok (.ladd, 1) := by decide +kernel
theorem d_Md_both_64 : decode mm_Md_both.2.1 64 = .ok (.lreturn, 1) := by decide +kernel
theorem d_Md_both_65 : decode mm_Md_both.2.1 65 = .ok (.lload_n 2, 1) := by decide +kernel
theorem d_Md_both_66 : decode mm_Md_both.2.1 66 = .ok (.lload 4, 2) := by decide +kernel
theorem d_Md_both_68 : decode mm_Md_both.2.1 68 = .ok (.lsub, 1) := by decide +kernel
theorem d_Md_both_69 : decode mm_Md_both.2.1 69 = .ok (.lreturn, 1) := by decide +kernel
theorem d_Md_both_70 : decode mm_Md_both.2.1 70 = .ok (.lload_n 2, 1) := by decide +kernel
theorem d_Md_both_71 : decode mm_Md_both.2.1 71 = .ok (.lload 4, 2) := by decide +kernel
theorem d_Md_both_73 : decode mm_Md_both.2.1 73 = .ok (.lmul, 1) := by decide +kernel
theorem d_Md_both_74 : decode mm_Md_both.2.1 74 = .ok (.lreturn, 1) := by decide +kernel
theorem d_Md_both_75 : decode mm_Md_both.2.1 75 = .ok (.lload_n 2, 1) := by decide +kernel
theorem d_Md_both_76 : decode mm_Md_both.2.1 76 = .ok (.lload 4, 2) := by decide +kernel
theorem d_Md_both_78 : decode mm_Md_both.2.1 78 = .ok (.ldiv, 1) := by decide +kernel
theorem d_Md_both_79 : decode mm_Md_both.2.1 79 = .ok (.lreturn, 1) := by decide +kernel
theorem d_Md_both_80 : decode mm_Md_both.2.1 80 = .ok (.lload_n 2, 1) := by decide +kernel
theorem d_Md_both_81 : decode mm_Md_both.2.1 81 = .ok (.lload 4, 2) := by decide +kernel
theorem d_Md_both_83 : decode mm_Md_both.2.1 83 = .ok (.lcmp, 1) := by decide +kernel
theorem d_Md_both_84 : decode mm_Md_both.2.1 84 = .ok (.ifCond .ge 7, 3) := by decide +kernel
theorem d_Md_both_87 : decode mm_Md_both.2.1 87 = .ok (.lload_n 2, 1) := by decide +kernel
theorem d_Md_both_88 : decode mm_Md_both.2.1 88 = .ok (.goto 5, 3) := by decide +kernel
theorem d_Md_both_91 : decode mm_Md_both.2.1 91 = .ok (.lload 4, 2) := by decide +kernel
theorem d_Md_both_93 : decode mm_Md_both.2.1 93 = .ok (.lreturn, 1) := by decide +kernel
theorem d_Md_both_94 : decode mm_Md_both.2.1 94 = .ok (.lload_n 2, 1) := by decide +kernel
theorem d_Md_both_95 : decode mm_Md_both.2.1 95 = .ok (.lload 4, 2) := by decide +kernel
theorem d_Md_both_97 : decode mm_Md_both.2.1 97 = .ok (.lcmp, 1) := by decide +kernel
theorem d_Md_both_98 : decode mm_Md_both.2.1 98 = .ok (.ifCond .le 7, 3) := by decide +kernel
theorem d_Md_both_101 : decode mm_Md_both.2.1 101 = .ok (.lload_n 2, 1) := by decide +kernel
theorem d_Md_both_102 : decode mm_Md_both.2.1 102 = .ok (.goto 5, 3) := by decide +kernel
theorem d_Md_both_105 : decode mm_Md_both.2.1 105 = .ok (.lload 4, 2) := by decide +kernel
theorem d_Md_both_107 : decode mm_Md_both.2.1 107 = .ok (.lreturn, 1) := by decide +kernel
theorem d_Md_buildAll_0 : decode mm_Md_buildAll.2.1 0 = .ok (.aload_n 0, 1) := by decide +kernel
theorem d_Md_buildAll_1 : decode mm_Md_buildAll.2.1 1 = .ok (.iconst 0, 1) := by decide +kernel
theorem d_Md_buildAll_2 : decode mm_Md_buildAll.2.1 2 = .ok (.putfield 96, 3) := by decide +kernel
theorem d_Md_buildAll_5 : decode mm_Md_buildAll.2.1 5 = .ok (.lconst 0, 1) := by decide +kernel
theorem d_Md_buildAll_6 : decode mm_Md_buildAll.2.1 6 = .ok (.lstore_n 1, 1) := by decide +kernel
theorem d_Md_buildAll_7 : decode mm_Md_buildAll.2.1 7 = .ok (.iconst 0, 1) := by decide +kernel
theorem d_Md_buildAll_8 : decode mm_Md_buildAll.2.1 8 = .ok (.istore_n 3, 1) := by decide +kernel
theorem d_Md_buildAll_9 : decode mm_Md_buildAll.2.1 9 = .ok (.iload_n 3, 1) := by decide +kernel
theorem d_Md_buildAll_10 : decode mm_Md_buildAll.2.1 10 = .ok (.bipush 64, 2) := by decide +kernel
theorem d_Md_buildAll_12 : decode mm_Md_buildAll.2.1 12 = .ok (.if_icmp .ge 28, 3) := by decide +kernel
theorem d_Md_buildAll_15 : decode mm_Md_buildAll.2.1 15 = .ok (.aload_n 0, 1) := by decide +kernel
theorem d_Md_buildAll_16 : decode mm_Md_buildAll.2.1 16 = .ok (.getfield 13, 3) := by decide +kernel
theorem d_Md_buildAll_19 : decode mm_Md_buildAll.2.1 19 = .ok (.iload_n 3, 1) := by decide +kernel
theorem d_Md_buildAll_20 : decode mm_Md_buildAll.2.1 20 = .ok (.baload, 1) := by decide +kernel
theorem d_Md_buildAll_21 : decode mm_Md_buildAll.2.1 21 = .ok (.ifCond .eq 11, 3) := by decide +kernel
theorem d_Md_buildAll_24 : decode mm_Md_buildAll.2.1 24 = .ok (.lload_n 1, 1) := by decide +kernel
theorem d_Md_buildAll_25 : decode mm_Md_buildAll.2.1 25 = .ok (.lconst 1, 1) := by decide +kernel
theorem d_Md_buildAll_26 : decode mm_Md_buildAll.2.1 26 = .ok (.iload_n 3, 1) := by decide +kernel
theorem d_Md_buildAll_27 : decode mm_Md_buildAll.2.1 27 = .ok (.lshl, 1) := by decide +kernel
theorem d_Md_buildAll_28 : decode mm_Md_buildAll.2.1 28 = .ok (.lor, 1) := by decide +kernel
theorem d_Md_buildAll_29 : decode mm_Md_buildAll.2.1 29 = .ok (.goto 4, 3) := by decide +kernel
theorem d_Md_buildAll_32 : decode mm_Md_buildAll.2.1 32 = .ok (.lload_n 1, 1) := by decide +kernel
theorem d_Md_buildAll_33 : decode mm_Md_buildAll.2.1 33 = .ok (.lstore_n 1, 1) := by decide +kernel
theorem d_Md_buildAll_34 : decode mm_Md_buildAll.2.1 34 = .ok (.iinc 3 1, 3) := by decide +kernel
theorem d_Md_buildAll_37 : decode mm_Md_buildAll.2.1 37 = .ok (.goto (-28), 3) := by decide +kernel
theorem d_Md_buildAll_40 : decode mm_Md_buildAll.2.1 40 = .ok (.aload_n 0, 1) := by decide +kernel
theorem d_Md_buildAll_41 : decode mm_Md_buildAll.2.1 41 = .ok (.lload_n 1, 1) := by decide +kernel
theorem d_Md_buildAll_42 : decode mm_Md_buildAll.2.1 42 = .ok (.invokevirtual 275, 3) := by decide +kernel
theorem d_Md_buildAll_45 : decode mm_Md_buildAll.2.1 45 = .ok (.ireturn, 1) := by decide +kernel
theorem d_Md_fault_0 : decode mm_Md_fault.2.1 0 = .ok (.aload_n 0, 1) := by decide +kernel
theorem d_Md_fault_1 : decode mm_Md_fault.2.1 1 = .ok (.iconst 0, 1) := by decide +kernel
theorem d_Md_fault_2 : decode mm_Md_fault.2.1 2 = .ok (.putfield 96, 3) := by decide +kernel
theorem d_Md_fault_5 : decode mm_Md_fault.2.1 5 = .ok (.aload_n 0, 1) := by decide +kernel
theorem d_Md_fault_6 : decode mm_Md_fault.2.1 6 = .ok (.getfield 144, 3) := by decide +kernel
theorem d_Md_fault_9 : decode mm_Md_fault.2.1 9 = .ok (.ireturn, 1) := by decide +kernel
theorem d_Md_value_0 : decode mm_Md_value.2.1 0 = .ok (.aload_n 0, 1) := by decide +kernel
theorem d_Md_value_1 : decode mm_Md_value.2.1 1 = .ok (.aload_n 0, 1) := by decide +kernel
theorem d_Md_value_2 : decode mm_Md_value.2.1 2 = .ok (.invokevirtual 269, 3) := by decide +kernel
theorem d_Md_value_5 : decode mm_Md_value.2.1 5 = .ok (.ifCond .eq 7, 3) := by decide +kernel
theorem d_Md_value_8 : decode mm_Md_value.2.1 8 = .ok (.iconst 0, 1) := by decide +kernel
theorem d_Md_value_9 : decode mm_Md_value.2.1 9 = .ok (.goto 4, 3) := by decide +kernel
theorem d_Md_value_12 : decode mm_Md_value.2.1 12 = .ok (.iconst 1, 1) := by decide +kernel
theorem d_Md_value_13 : decode mm_Md_value.2.1 13 = .ok (.putfield 96, 3) := by decide +kernel
theorem d_Md_value_16 : decode mm_Md_value.2.1 16 = .ok (.aload_n 0, 1) := by decide +kernel
theorem d_Md_value_17 : decode mm_Md_value.2.1 17 = .ok (.getfield 96, 3) := by decide +kernel
theorem d_Md_value_20 : decode mm_Md_value.2.1 20 = .ok (.ifCond .le 7, 3) := by decide +kernel
theorem d_Md_value_23 : decode mm_Md_value.2.1 23 = .ok (.lconst 0, 1) := by decide +kernel
theorem d_Md_value_24 : decode mm_Md_value.2.1 24 = .ok (.goto 11, 3) := by decide +kernel
theorem d_Md_value_27 : decode mm_Md_value.2.1 27 = .ok (.aload_n 0, 1) := by decide +kernel
theorem d_Md_value_28 : decode mm_Md_value.2.1 28 = .ok (.aload_n 0, 1) := by decide +kernel
theorem d_Md_value_29 : decode mm_Md_value.2.1 29 = .ok (.getfield 123, 3) := by decide +kernel
theorem d_Md_value_32 : decode mm_Md_value.2.1 32 = .ok (.invokevirtual 247, 3) := by decide +kernel
theorem d_Md_value_35 : decode mm_Md_value.2.1 35 = .ok (.lreturn, 1) := by decide +kernel
theorem d_Md_state_0 : decode mm_Md_state.2.1 0 = .ok (.aload_n 0, 1) := by decide +kernel
theorem d_Md_state_1 : decode mm_Md_state.2.1 1 = .ok (.aload_n 0, 1) := by decide +kernel
theorem d_Md_state_2 : decode mm_Md_state.2.1 2 = .ok (.invokevirtual 269, 3) := by decide +kernel
theorem d_Md_state_5 : decode mm_Md_state.2.1 5 = .ok (.ifCond .eq 7, 3) := by decide +kernel
theorem d_Md_state_8 : decode mm_Md_state.2.1 8 = .ok (.iconst 0, 1) := by decide +kernel
theorem d_Md_state_9 : decode mm_Md_state.2.1 9 = .ok (.goto 4, 3) := by decide +kernel
theorem d_Md_state_12 : decode mm_Md_state.2.1 12 = .ok (.iconst 1, 1) := by decide +kernel
theorem d_Md_state_13 : decode mm_Md_state.2.1 13 = .ok (.putfield 96, 3) := by decide +kernel
theorem d_Md_state_16 : decode mm_Md_state.2.1 16 = .ok (.aload_n 0, 1) := by decide +kernel
theorem d_Md_state_17 : decode mm_Md_state.2.1 17 = .ok (.getfield 96, 3) := by decide +kernel
theorem d_Md_state_20 : decode mm_Md_state.2.1 20 = .ok (.ifCond .le 5, 3) := by decide +kernel
theorem d_Md_state_23 : decode mm_Md_state.2.1 23 = .ok (.iconst 0, 1) := by decide +kernel
theorem d_Md_state_24 : decode mm_Md_state.2.1 24 = .ok (.ireturn, 1) := by decide +kernel
theorem d_Md_state_25 : decode mm_Md_state.2.1 25 = .ok (.aload_n 0, 1) := by decide +kernel
theorem d_Md_state_26 : decode mm_Md_state.2.1 26 = .ok (.aload_n 0, 1) := by decide +kernel
theorem d_Md_state_27 : decode mm_Md_state.2.1 27 = .ok (.getfield 123, 3) := by decide +kernel
theorem d_Md_state_30 : decode mm_Md_state.2.1 30 = .ok (.invokevirtual 214, 3) := by decide +kernel
theorem d_Md_state_33 : decode mm_Md_state.2.1 33 = .ok (.istore_n 1, 1) := by decide +kernel
theorem d_Md_state_34 : decode mm_Md_state.2.1 34 = .ok (.iload_n 1, 1) := by decide +kernel
theorem d_Md_state_35 : decode mm_Md_state.2.1 35 = .ok (.ifCond .ge 7, 3) := by decide +kernel
theorem d_Md_state_38 : decode mm_Md_state.2.1 38 = .ok (.iconst (-1), 1) := by decide +kernel
theorem d_Md_state_39 : decode mm_Md_state.2.1 39 = .ok (.goto 23, 3) := by decide +kernel
theorem d_Md_state_42 : decode mm_Md_state.2.1 42 = .ok (.aload_n 0, 1) := by decide +kernel
theorem d_Md_state_43 : decode mm_Md_state.2.1 43 = .ok (.getfield 21, 3) := by decide +kernel
theorem d_Md_state_46 : decode mm_Md_state.2.1 46 = .ok (.iload_n 1, 1) := by decide +kernel
theorem d_Md_state_47 : decode mm_Md_state.2.1 47 = .ok (.iaload, 1) := by decide +kernel
theorem d_Md_state_48 : decode mm_Md_state.2.1 48 = .ok (.aload_n 0, 1) := by decide +kernel
theorem d_Md_state_49 : decode mm_Md_state.2.1 49 = .ok (.iload_n 1, 1) := by decide +kernel
theorem d_Md_state_50 : decode mm_Md_state.2.1 50 = .ok (.invokevirtual 263, 3) := by decide +kernel
theorem d_Md_state_53 : decode mm_Md_state.2.1 53 = .ok (.ifCond .eq 7, 3) := by decide +kernel
theorem d_Md_state_56 : decode mm_Md_state.2.1 56 = .ok (.iconst 4, 1) := by decide +kernel
theorem d_Md_state_57 : decode mm_Md_state.2.1 57 = .ok (.goto 4, 3) := by decide +kernel
theorem d_Md_state_60 : decode mm_Md_state.2.1 60 = .ok (.iconst 0, 1) := by decide +kernel
theorem d_Md_state_61 : decode mm_Md_state.2.1 61 = .ok (.iadd, 1) := by decide +kernel
theorem d_Md_state_62 : decode mm_Md_state.2.1 62 = .ok (.ireturn, 1) := by decide +kernel
theorem d_Md_readers_0 : decode mm_Md_readers.2.1 0 = .ok (.aload_n 0, 1) := by decide +kernel
theorem d_Md_readers_1 : decode mm_Md_readers.2.1 1 = .ok (.aload_n 0, 1) := by decide +kernel
theorem d_Md_readers_2 : decode mm_Md_readers.2.1 2 = .ok (.invokevirtual 269, 3) := by decide +kernel
theorem d_Md_readers_5 : decode mm_Md_readers.2.1 5 = .ok (.ifCond .eq 7, 3) := by decide +kernel
theorem d_Md_readers_8 : decode mm_Md_readers.2.1 8 = .ok (.iconst 0, 1) := by decide +kernel
theorem d_Md_readers_9 : decode mm_Md_readers.2.1 9 = .ok (.goto 4, 3) := by decide +kernel
theorem d_Md_readers_12 : decode mm_Md_readers.2.1 12 = .ok (.iconst 1, 1) := by decide +kernel
theorem d_Md_readers_13 : decode mm_Md_readers.2.1 13 = .ok (.putfield 96, 3) := by decide +kernel
theorem d_Md_readers_16 : decode mm_Md_readers.2.1 16 = .ok (.aload_n 0, 1) := by decide +kernel
theorem d_Md_readers_17 : decode mm_Md_readers.2.1 17 = .ok (.getfield 96, 3) := by decide +kernel
theorem d_Md_readers_20 : decode mm_Md_readers.2.1 20 = .ok (.ifCond .le 5, 3) := by decide +kernel
theorem d_Md_readers_23 : decode mm_Md_readers.2.1 23 = .ok (.iconst 0, 1) := by decide +kernel
theorem d_Md_readers_24 : decode mm_Md_readers.2.1 24 = .ok (.ireturn, 1) := by decide +kernel
theorem d_Md_readers_25 : decode mm_Md_readers.2.1 25 = .ok (.aload_n 0, 1) := by decide +kernel
theorem d_Md_readers_26 : decode mm_Md_readers.2.1 26 = .ok (.getfield 123, 3) := by decide +kernel
theorem d_Md_readers_29 : decode mm_Md_readers.2.1 29 = .ok (.lstore_n 2, 1) := by decide +kernel
theorem d_Md_readers_30 : decode mm_Md_readers.2.1 30 = .ok (.iload_n 1, 1) := by decide +kernel
theorem d_Md_readers_31 : decode mm_Md_readers.2.1 31 = .ok (.ifCond .eq 12, 3) := by decide +kernel
theorem d_Md_readers_34 : decode mm_Md_readers.2.1 34 = .ok (.aload_n 0, 1) := by decide +kernel
theorem d_Md_readers_35 : decode mm_Md_readers.2.1 35 = .ok (.lload_n 2, 1) := by decide +kernel
theorem d_Md_readers_36 : decode mm_Md_readers.2.1 36 = .ok (.invokevirtual 221, 3) := by decide +kernel
theorem d_Md_readers_39 : decode mm_Md_readers.2.1 39 = .ok (.invokestatic 278, 3) := by decide +kernel
theorem d_Md_readers_42 : decode mm_Md_readers.2.1 42 = .ok (.ireturn, 1) := by decide +kernel
theorem d_Md_readers_43 : decode mm_Md_readers.2.1 43 = .ok (.iconst 0, 1) := by decide +kernel
theorem d_Md_readers_44 : decode mm_Md_readers.2.1 44 = .ok (.istore 4, 2) := by decide +kernel
theorem d_Md_readers_46 : decode mm_Md_readers.2.1 46 = .ok (.iconst 0, 1) := by decide +kernel
theorem d_Md_readers_47 : decode mm_Md_readers.2.1 47 = .ok (.istore 5, 2) := by decide +kernel
theorem d_Md_readers_49 : decode mm_Md_readers.2.1 49 = .ok (.iload 5, 2) := by decide +kernel
theorem d_Md_readers_51 : decode mm_Md_readers.2.1 51 = .ok (.bipush 64, 2) := by decide +kernel
theorem d_Md_readers_53 : decode mm_Md_readers.2.1 53 = .ok (.if_icmp .ge 40, 3) := by decide +kernel
theorem d_Md_readers_56 : decode mm_Md_readers.2.1 56 = .ok (.aload_n 0, 1) := by decide +kernel
theorem d_Md_readers_57 : decode mm_Md_readers.2.1 57 = .ok (.getfield 13, 3) := by decide +kernel
theorem d_Md_readers_60 : decode mm_Md_readers.2.1 60 = .ok (.iload 5, 2) := by decide +kernel
theorem d_Md_readers_62 : decode mm_Md_readers.2.1 62 = .ok (.baload, 1) := by decide +kernel
theorem d_Md_readers_63 : decode mm_Md_readers.2.1 63 = .ok (.ifCond .eq 20, 3) := by decide +kernel
theorem d_Md_readers_66 : decode mm_Md_readers.2.1 66 = .ok (.aload_n 0, 1) := by decide +kernel
theorem d_Md_readers_67 : decode mm_Md_readers.2.1 67 = .ok (.iload 5, 2) := by decide +kernel
theorem d_Md_readers_69 : decode mm_Md_readers.2.1 69 = .ok (.lload_n 2, 1) := by decide +kernel
theorem d_Md_readers_70 : decode mm_Md_readers.2.1 70 = .ok (.invokevirtual 207, 3) := by decide +kernel
theorem d_Md_readers_73 : decode mm_Md_readers.2.1 73 = .ok (.ifCond .eq 10, 3) := by decide +kernel
theorem d_Md_readers_76 : decode mm_Md_readers.2.1 76 = .ok (.iload 4, 2) := by decide +kernel
theorem d_Md_readers_78 : decode mm_Md_readers.2.1 78 = .ok (.iconst 1, 1) := by decide +kernel
theorem d_Md_readers_79 : decode mm_Md_readers.2.1 79 = .ok (.iadd, 1) := by decide +kernel
theorem d_Md_readers_80 : decode mm_Md_readers.2.1 80 = .ok (.goto 5, 3) := by decide +kernel
theorem d_Md_readers_83 : decode mm_Md_readers.2.1 83 = .ok (.iload 4, 2) := by decide +kernel
theorem d_Md_readers_85 : decode mm_Md_readers.2.1 85 = .ok (.istore 4, 2) := by decide +kernel
theorem d_Md_readers_87 : decode mm_Md_readers.2.1 87 = .ok (.iinc 5 1, 3) := by decide +kernel
theorem d_Md_readers_90 : decode mm_Md_readers.2.1 90 = .ok (.goto (-41), 3) := by decide +kernel
theorem d_Md_readers_93 : decode mm_Md_readers.2.1 93 = .ok (.iload 4, 2) := by decide +kernel
theorem d_Md_readers_95 : decode mm_Md_readers.2.1 95 = .ok (.ireturn, 1) := by decide +kernel
theorem d_Md_howMany_0 : decode mm_Md_howMany.2.1 0 = .ok (.iconst 0, 1) := by decide +kernel
theorem d_Md_howMany_1 : decode mm_Md_howMany.2.1 1 = .ok (.istore_n 2, 1) := by decide +kernel
theorem d_Md_howMany_2 : decode mm_Md_howMany.2.1 2 = .ok (.iconst 0, 1) := by decide +kernel
theorem d_Md_howMany_3 : decode mm_Md_howMany.2.1 3 = .ok (.istore_n 3, 1) := by decide +kernel
theorem d_Md_howMany_4 : decode mm_Md_howMany.2.1 4 = .ok (.iload_n 3, 1) := by decide +kernel
theorem d_Md_howMany_5 : decode mm_Md_howMany.2.1 5 = .ok (.bipush 64, 2) := by decide +kernel
theorem d_Md_howMany_7 : decode mm_Md_howMany.2.1 7 = .ok (.if_icmp .ge 27, 3) := by decide +kernel
theorem d_Md_howMany_10 : decode mm_Md_howMany.2.1 10 = .ok (.lload_n 0, 1) := by decide +kernel
theorem d_Md_howMany_11 : decode mm_Md_howMany.2.1 11 = .ok (.iload_n 3, 1) := by decide +kernel
theorem d_Md_howMany_12 : decode mm_Md_howMany.2.1 12 = .ok (.lshr, 1) := by decide +kernel
theorem d_Md_howMany_13 : decode mm_Md_howMany.2.1 13 = .ok (.lconst 1, 1) := by decide +kernel
theorem d_Md_howMany_14 : decode mm_Md_howMany.2.1 14 = .ok (.land, 1) := by decide +kernel
theorem d_Md_howMany_15 : decode mm_Md_howMany.2.1 15 = .ok (.lconst 1, 1) := by decide +kernel
theorem d_Md_howMany_16 : decode mm_Md_howMany.2.1 16 = .ok (.lcmp, 1) := by decide +kernel
theorem d_Md_howMany_17 : decode mm_Md_howMany.2.1 17 = .ok (.ifCond .ne 9, 3) := by decide +kernel
theorem d_Md_howMany_20 : decode mm_Md_howMany.2.1 20 = .ok (.iload_n 2, 1) := by decide +kernel
theorem d_Md_howMany_21 : decode mm_Md_howMany.2.1 21 = .ok (.iconst 1, 1) := by decide +kernel
theorem d_Md_howMany_22 : decode mm_Md_howMany.2.1 22 = .ok (.iadd, 1) := by decide +kernel
theorem d_Md_howMany_23 : decode mm_Md_howMany.2.1 23 = .ok (.goto 4, 3) := by decide +kernel
theorem d_Md_howMany_26 : decode mm_Md_howMany.2.1 26 = .ok (.iload_n 2, 1) := by decide +kernel
theorem d_Md_howMany_27 : decode mm_Md_howMany.2.1 27 = .ok (.istore_n 2, 1) := by decide +kernel
theorem d_Md_howMany_28 : decode mm_Md_howMany.2.1 28 = .ok (.iinc 3 1, 3) := by decide +kernel
theorem d_Md_howMany_31 : decode mm_Md_howMany.2.1 31 = .ok (.goto (-27), 3) := by decide +kernel
theorem d_Md_howMany_34 : decode mm_Md_howMany.2.1 34 = .ok (.iload_n 2, 1) := by decide +kernel
theorem d_Md_howMany_35 : decode mm_Md_howMany.2.1 35 = .ok (.ireturn, 1) := by decide +kernel
theorem d_Md_built_0 : decode mm_Md_built.2.1 0 = .ok (.iload_n 1, 1) := by decide +kernel
theorem d_Md_built_1 : decode mm_Md_built.2.1 1 = .ok (.ifCond .lt 43, 3) := by decide +kernel
theorem d_Md_built_4 : decode mm_Md_built.2.1 4 = .ok (.iload_n 1, 1) := by decide +kernel
theorem d_Md_built_5 : decode mm_Md_built.2.1 5 = .ok (.aload_n 0, 1) := by decide +kernel
theorem d_Md_built_6 : decode mm_Md_built.2.1 6 = .ok (.getfield 257, 3) := by decide +kernel
theorem d_Md_built_9 : decode mm_Md_built.2.1 9 = .ok (.if_icmp .ge 35, 3) := by decide +kernel
theorem d_Md_built_12 : decode mm_Md_built.2.1 12 = .ok (.iload_n 2, 1) := by decide +kernel
theorem d_Md_built_13 : decode mm_Md_built.2.1 13 = .ok (.ifCond .lt 31, 3) := by decide +kernel
theorem d_Md_built_16 : decode mm_Md_built.2.1 16 = .ok (.iload_n 2, 1) := by decide +kernel
theorem d_Md_built_17 : decode mm_Md_built.2.1 17 = .ok (.bipush 8, 2) := by decide +kernel
theorem d_Md_built_19 : decode mm_Md_built.2.1 19 = .ok (.if_icmp .ge 25, 3) := by decide +kernel
theorem d_Md_built_22 : decode mm_Md_built.2.1 22 = .ok (.aload_n 0, 1) := by decide +kernel
theorem d_Md_built_23 : decode mm_Md_built.2.1 23 = .ok (.getfield 57, 3) := by decide +kernel
theorem d_Md_built_26 : decode mm_Md_built.2.1 26 = .ok (.iload_n 1, 1) := by decide +kernel
theorem d_Md_built_27 : decode mm_Md_built.2.1 27 = .ok (.laload, 1) := by decide +kernel
theorem d_Md_built_28 : decode mm_Md_built.2.1 28 = .ok (.bipush 56, 2) := by decide +kernel
theorem d_Md_built_30 : decode mm_Md_built.2.1 30 = .ok (.bipush 8, 2) := by decide +kernel
theorem d_Md_built_32 : decode mm_Md_built.2.1 32 = .ok (.iload_n 2, 1) := by decide +kernel
theorem d_Md_built_33 : decode mm_Md_built.2.1 33 = .ok (.imul, 1) := by decide +kernel
theorem d_Md_built_34 : decode mm_Md_built.2.1 34 = .ok (.isub, 1) := by decide +kernel
theorem d_Md_built_35 : decode mm_Md_built.2.1 35 = .ok (.lshr, 1) := by decide +kernel
theorem d_Md_built_36 : decode mm_Md_built.2.1 36 = .ok (.l2i, 1) := by decide +kernel
theorem d_Md_built_37 : decode mm_Md_built.2.1 37 = .ok (.sipush 255, 3) := by decide +kernel
theorem d_Md_built_40 : decode mm_Md_built.2.1 40 = .ok (.iand, 1) := by decide +kernel
theorem d_Md_built_41 : decode mm_Md_built.2.1 41 = .ok (.goto 4, 3) := by decide +kernel
theorem d_Md_built_44 : decode mm_Md_built.2.1 44 = .ok (.iconst 0, 1) := by decide +kernel
theorem d_Md_built_45 : decode mm_Md_built.2.1 45 = .ok (.istore_n 3, 1) := by decide +kernel
theorem d_Md_built_46 : decode mm_Md_built.2.1 46 = .ok (.aload_n 0, 1) := by decide +kernel
theorem d_Md_built_47 : decode mm_Md_built.2.1 47 = .ok (.iload_n 3, 1) := by decide +kernel
theorem d_Md_built_48 : decode mm_Md_built.2.1 48 = .ok (.ifCond .le 7, 3) := by decide +kernel
theorem d_Md_built_51 : decode mm_Md_built.2.1 51 = .ok (.iconst 0, 1) := by decide +kernel
theorem d_Md_built_52 : decode mm_Md_built.2.1 52 = .ok (.goto 4, 3) := by decide +kernel
theorem d_Md_built_55 : decode mm_Md_built.2.1 55 = .ok (.iconst 1, 1) := by decide +kernel
theorem d_Md_built_56 : decode mm_Md_built.2.1 56 = .ok (.putfield 96, 3) := by decide +kernel
theorem d_Md_built_59 : decode mm_Md_built.2.1 59 = .ok (.iload_n 3, 1) := by decide +kernel
theorem d_Md_built_60 : decode mm_Md_built.2.1 60 = .ok (.ireturn, 1) := by decide +kernel
theorem d_Md_count_0 : decode mm_Md_count.2.1 0 = .ok (.aload_n 0, 1) := by decide +kernel
theorem d_Md_count_1 : decode mm_Md_count.2.1 1 = .ok (.iload_n 1, 1) := by decide +kernel
theorem d_Md_count_2 : decode mm_Md_count.2.1 2 = .ok (.ifCond .lt 12, 3) := by decide +kernel
theorem d_Md_count_5 : decode mm_Md_count.2.1 5 = .ok (.iload_n 1, 1) := by decide +kernel
theorem d_Md_count_6 : decode mm_Md_count.2.1 6 = .ok (.iconst 4, 1) := by decide +kernel
theorem d_Md_count_7 : decode mm_Md_count.2.1 7 = .ok (.if_icmp .gt 7, 3) := by decide +kernel
theorem d_Md_count_10 : decode mm_Md_count.2.1 10 = .ok (.iconst 0, 1) := by decide +kernel
theorem d_Md_count_11 : decode mm_Md_count.2.1 11 = .ok (.goto 4, 3) := by decide +kernel
theorem d_Md_count_14 : decode mm_Md_count.2.1 14 = .ok (.iconst 1, 1) := by decide +kernel
theorem d_Md_count_15 : decode mm_Md_count.2.1 15 = .ok (.putfield 96, 3) := by decide +kernel
theorem d_Md_count_18 : decode mm_Md_count.2.1 18 = .ok (.aload_n 0, 1) := by decide +kernel
theorem d_Md_count_19 : decode mm_Md_count.2.1 19 = .ok (.getfield 96, 3) := by decide +kernel
theorem d_Md_count_22 : decode mm_Md_count.2.1 22 = .ok (.ifCond .le 5, 3) := by decide +kernel
theorem d_Md_count_25 : decode mm_Md_count.2.1 25 = .ok (.iconst 0, 1) := by decide +kernel
theorem d_Md_count_26 : decode mm_Md_count.2.1 26 = .ok (.ireturn, 1) := by decide +kernel
theorem d_Md_count_27 : decode mm_Md_count.2.1 27 = .ok (.iconst 0, 1) := by decide +kernel
theorem d_Md_count_28 : decode mm_Md_count.2.1 28 = .ok (.istore_n 2, 1) := by decide +kernel
theorem d_Md_count_29 : decode mm_Md_count.2.1 29 = .ok (.iconst 0, 1) := by decide +kernel
theorem d_Md_count_30 : decode mm_Md_count.2.1 30 = .ok (.istore_n 3, 1) := by decide +kernel
theorem d_Md_count_31 : decode mm_Md_count.2.1 31 = .ok (.iload_n 3, 1) := by decide +kernel
theorem d_Md_count_32 : decode mm_Md_count.2.1 32 = .ok (.bipush 64, 2) := by decide +kernel
theorem d_Md_count_34 : decode mm_Md_count.2.1 34 = .ok (.if_icmp .ge 34, 3) := by decide +kernel
theorem d_Md_count_37 : decode mm_Md_count.2.1 37 = .ok (.aload_n 0, 1) := by decide +kernel
theorem d_Md_count_38 : decode mm_Md_count.2.1 38 = .ok (.getfield 13, 3) := by decide +kernel
theorem d_Md_count_41 : decode mm_Md_count.2.1 41 = .ok (.iload_n 3, 1) := by decide +kernel
theorem d_Md_count_42 : decode mm_Md_count.2.1 42 = .ok (.baload, 1) := by decide +kernel
theorem d_Md_count_43 : decode mm_Md_count.2.1 43 = .ok (.ifCond .eq 17, 3) := by decide +kernel
theorem d_Md_count_46 : decode mm_Md_count.2.1 46 = .ok (.aload_n 0, 1) := by decide +kernel
theorem d_Md_count_47 : decode mm_Md_count.2.1 47 = .ok (.iload_n 3, 1) := by decide +kernel
theorem d_Md_count_48 : decode mm_Md_count.2.1 48 = .ok (.invokevirtual 263, 3) := by decide +kernel
theorem d_Md_count_51 : decode mm_Md_count.2.1 51 = .ok (.ifCond .eq 9, 3) := by decide +kernel
theorem d_Md_count_54 : decode mm_Md_count.2.1 54 = .ok (.iload_n 2, 1) := by decide +kernel
theorem d_Md_count_55 : decode mm_Md_count.2.1 55 = .ok (.iconst 1, 1) := by decide +kernel
theorem d_Md_count_56 : decode mm_Md_count.2.1 56 = .ok (.iadd, 1) := by decide +kernel
theorem d_Md_count_57 : decode mm_Md_count.2.1 57 = .ok (.goto 4, 3) := by decide +kernel
theorem d_Md_count_60 : decode mm_Md_count.2.1 60 = .ok (.iload_n 2, 1) := by decide +kernel
theorem d_Md_count_61 : decode mm_Md_count.2.1 61 = .ok (.istore_n 2, 1) := by decide +kernel
theorem d_Md_count_62 : decode mm_Md_count.2.1 62 = .ok (.iinc 3 1, 3) := by decide +kernel
theorem d_Md_count_65 : decode mm_Md_count.2.1 65 = .ok (.goto (-34), 3) := by decide +kernel
theorem d_Md_count_68 : decode mm_Md_count.2.1 68 = .ok (.iload_n 1, 1) := by decide +kernel
theorem d_Md_count_69 : decode mm_Md_count.2.1 69 = .ok (.ifCond .ne 10, 3) := by decide +kernel
theorem d_Md_count_72 : decode mm_Md_count.2.1 72 = .ok (.aload_n 0, 1) := by decide +kernel
theorem d_Md_count_73 : decode mm_Md_count.2.1 73 = .ok (.invokevirtual 218, 3) := by decide +kernel
theorem d_Md_count_76 : decode mm_Md_count.2.1 76 = .ok (.goto 40, 3) := by decide +kernel
theorem d_Md_count_79 : decode mm_Md_count.2.1 79 = .ok (.iload_n 1, 1) := by decide +kernel
theorem d_Md_count_80 : decode mm_Md_count.2.1 80 = .ok (.iconst 1, 1) := by decide +kernel
theorem d_Md_count_81 : decode mm_Md_count.2.1 81 = .ok (.if_icmp .ne 7, 3) := by decide +kernel
theorem d_Md_count_84 : decode mm_Md_count.2.1 84 = .ok (.iload_n 2, 1) := by decide +kernel
theorem d_Md_count_85 : decode mm_Md_count.2.1 85 = .ok (.goto 31, 3) := by decide +kernel
theorem d_Md_count_88 : decode mm_Md_count.2.1 88 = .ok (.iload_n 1, 1) := by decide +kernel
theorem d_Md_count_89 : decode mm_Md_count.2.1 89 = .ok (.iconst 2, 1) := by decide +kernel
theorem d_Md_count_90 : decode mm_Md_count.2.1 90 = .ok (.if_icmp .ne 10, 3) := by decide +kernel
theorem d_Md_count_93 : decode mm_Md_count.2.1 93 = .ok (.aload_n 0, 1) := by decide +kernel
theorem d_Md_count_94 : decode mm_Md_count.2.1 94 = .ok (.getfield 100, 3) := by decide +kernel
theorem d_Md_count_97 : decode mm_Md_count.2.1 97 = .ok (.goto 19, 3) := by decide +kernel
theorem d_Md_count_100 : decode mm_Md_count.2.1 100 = .ok (.iload_n 1, 1) := by decide +kernel
theorem d_Md_count_101 : decode mm_Md_count.2.1 101 = .ok (.iconst 3, 1) := by decide +kernel
theorem d_Md_count_102 : decode mm_Md_count.2.1 102 = .ok (.if_icmp .ne 10, 3) := by decide +kernel
theorem d_Md_count_105 : decode mm_Md_count.2.1 105 = .ok (.aload_n 0, 1) := by decide +kernel
theorem d_Md_count_106 : decode mm_Md_count.2.1 106 = .ok (.getfield 254, 3) := by decide +kernel
theorem d_Md_count_109 : decode mm_Md_count.2.1 109 = .ok (.goto 7, 3) := by decide +kernel
theorem d_Md_count_112 : decode mm_Md_count.2.1 112 = .ok (.aload_n 0, 1) := by decide +kernel
theorem d_Md_count_113 : decode mm_Md_count.2.1 113 = .ok (.getfield 257, 3) := by decide +kernel
theorem d_Md_count_116 : decode mm_Md_count.2.1 116 = .ok (.ireturn, 1) := by decide +kernel
theorem d_Md_feed_0 : decode mm_Md_feed.2.1 0 = .ok (.aload_n 0, 1) := by decide +kernel
theorem d_Md_feed_1 : decode mm_Md_feed.2.1 1 = .ok (.aload_n 0, 1) := by decide +kernel
theorem d_Md_feed_2 : decode mm_Md_feed.2.1 2 = .ok (.getfield 100, 3) := by decide +kernel
theorem d_Md_feed_5 : decode mm_Md_feed.2.1 5 = .ok (.bipush 20, 2) := by decide +kernel
theorem d_Md_feed_7 : decode mm_Md_feed.2.1 7 = .ok (.iadd, 1) := by decide +kernel
theorem d_Md_feed_8 : decode mm_Md_feed.2.1 8 = .ok (.sipush 2000, 3) := by decide +kernel
theorem d_Md_feed_11 : decode mm_Md_feed.2.1 11 = .ok (.if_icmp .le 7, 3) := by decide +kernel
theorem d_Md_feed_14 : decode mm_Md_feed.2.1 14 = .ok (.iconst 1, 1) := by decide +kernel
theorem d_Md_feed_15 : decode mm_Md_feed.2.1 15 = .ok (.goto 4, 3) := by decide +kernel
theorem d_Md_feed_18 : decode mm_Md_feed.2.1 18 = .ok (.iconst 0, 1) := by decide +kernel
theorem d_Md_feed_19 : decode mm_Md_feed.2.1 19 = .ok (.putfield 96, 3) := by decide +kernel
theorem d_Md_feed_22 : decode mm_Md_feed.2.1 22 = .ok (.aload_n 0, 1) := by decide +kernel
theorem d_Md_feed_23 : decode mm_Md_feed.2.1 23 = .ok (.getfield 96, 3) := by decide +kernel
theorem d_Md_feed_26 : decode mm_Md_feed.2.1 26 = .ok (.ifCond .le 5, 3) := by decide +kernel
theorem d_Md_feed_29 : decode mm_Md_feed.2.1 29 = .ok (.iconst 0, 1) := by decide +kernel
theorem d_Md_feed_30 : decode mm_Md_feed.2.1 30 = .ok (.ireturn, 1) := by decide +kernel
theorem d_Md_feed_31 : decode mm_Md_feed.2.1 31 = .ok (.iconst 0, 1) := by decide +kernel
theorem d_Md_feed_32 : decode mm_Md_feed.2.1 32 = .ok (.istore 6, 2) := by decide +kernel
theorem d_Md_feed_34 : decode mm_Md_feed.2.1 34 = .ok (.iload 6, 2) := by decide +kernel
theorem d_Md_feed_36 : decode mm_Md_feed.2.1 36 = .ok (.bipush 20, 2) := by decide +kernel
theorem d_Md_feed_38 : decode mm_Md_feed.2.1 38 = .ok (.if_icmp .ge 86, 3) := by decide +kernel
theorem d_Md_feed_41 : decode mm_Md_feed.2.1 41 = .ok (.iload 6, 2) := by decide +kernel
theorem d_Md_feed_43 : decode mm_Md_feed.2.1 43 = .ok (.iconst 4, 1) := by decide +kernel
theorem d_Md_feed_44 : decode mm_Md_feed.2.1 44 = .ok (.if_icmp .ge 7, 3) := by decide +kernel
theorem d_Md_feed_47 : decode mm_Md_feed.2.1 47 = .ok (.iload_n 1, 1) := by decide +kernel
theorem d_Md_feed_48 : decode mm_Md_feed.2.1 48 = .ok (.goto 39, 3) := by decide +kernel
theorem d_Md_feed_51 : decode mm_Md_feed.2.1 51 = .ok (.iload 6, 2) := by decide +kernel
theorem d_Md_feed_53 : decode mm_Md_feed.2.1 53 = .ok (.bipush 8, 2) := by decide +kernel
theorem d_Md_feed_55 : decode mm_Md_feed.2.1 55 = .ok (.if_icmp .ge 7, 3) := by decide +kernel
theorem d_Md_feed_58 : decode mm_Md_feed.2.1 58 = .ok (.iload_n 2, 1) := by decide +kernel
theorem d_Md_feed_59 : decode mm_Md_feed.2.1 59 = .ok (.goto 28, 3) := by decide +kernel
theorem d_Md_feed_62 : decode mm_Md_feed.2.1 62 = .ok (.iload 6, 2) := by decide +kernel
theorem d_Md_feed_64 : decode mm_Md_feed.2.1 64 = .ok (.bipush 12, 2) := by decide +kernel
theorem d_Md_feed_66 : decode mm_Md_feed.2.1 66 = .ok (.if_icmp .ge 7, 3) := by decide +kernel
theorem d_Md_feed_69 : decode mm_Md_feed.2.1 69 = .ok (.iload_n 3, 1) := by decide +kernel
theorem d_Md_feed_70 : decode mm_Md_feed.2.1 70 = .ok (.goto 17, 3) := by decide +kernel
theorem d_Md_feed_73 : decode mm_Md_feed.2.1 73 = .ok (.iload 6, 2) := by decide +kernel
theorem d_Md_feed_75 : decode mm_Md_feed.2.1 75 = .ok (.bipush 16, 2) := by decide +kernel
theorem d_Md_feed_77 : decode mm_Md_feed.2.1 77 = .ok (.if_icmp .ge 8, 3) := by decide +kernel
theorem d_Md_feed_80 : decode mm_Md_feed.2.1 80 = .ok (.iload 4, 2) := by decide +kernel
theorem d_Md_feed_82 : decode mm_Md_feed.2.1 82 = .ok (.goto 5, 3) := by decide +kernel
theorem d_Md_feed_85 : decode mm_Md_feed.2.1 85 = .ok (.iload 5, 2) := by decide +kernel
theorem d_Md_feed_87 : decode mm_Md_feed.2.1 87 = .ok (.istore 7, 2) := by decide +kernel
theorem d_Md_feed_89 : decode mm_Md_feed.2.1 89 = .ok (.aload_n 0, 1) := by decide +kernel
theorem d_Md_feed_90 : decode mm_Md_feed.2.1 90 = .ok (.getfield 7, 3) := by decide +kernel
theorem d_Md_feed_93 : decode mm_Md_feed.2.1 93 = .ok (.aload_n 0, 1) := by decide +kernel
theorem d_Md_feed_94 : decode mm_Md_feed.2.1 94 = .ok (.getfield 100, 3) := by decide +kernel
theorem d_Md_feed_97 : decode mm_Md_feed.2.1 97 = .ok (.iload 6, 2) := by decide +kernel
theorem d_Md_feed_99 : decode mm_Md_feed.2.1 99 = .ok (.iadd, 1) := by decide +kernel
theorem d_Md_feed_100 : decode mm_Md_feed.2.1 100 = .ok (.iload 7, 2) := by decide +kernel
theorem d_Md_feed_102 : decode mm_Md_feed.2.1 102 = .ok (.bipush 24, 2) := by decide +kernel
theorem d_Md_feed_104 : decode mm_Md_feed.2.1 104 = .ok (.bipush 8, 2) := by decide +kernel
theorem d_Md_feed_106 : decode mm_Md_feed.2.1 106 = .ok (.iload 6, 2) := by decide +kernel
theorem d_Md_feed_108 : decode mm_Md_feed.2.1 108 = .ok (.iconst 4, 1) := by decide +kernel
theorem d_Md_feed_109 : decode mm_Md_feed.2.1 109 = .ok (.irem, 1) := by decide +kernel
theorem d_Md_feed_110 : decode mm_Md_feed.2.1 110 = .ok (.imul, 1) := by decide +kernel
theorem d_Md_feed_111 : decode mm_Md_feed.2.1 111 = .ok (.isub, 1) := by decide +kernel
theorem d_Md_feed_112 : decode mm_Md_feed.2.1 112 = .ok (.ishr, 1) := by decide +kernel
theorem d_Md_feed_113 : decode mm_Md_feed.2.1 113 = .ok (.sipush 255, 3) := by decide +kernel
theorem d_Md_feed_116 : decode mm_Md_feed.2.1 116 = .ok (.iand, 1) := by decide +kernel
theorem d_Md_feed_117 : decode mm_Md_feed.2.1 117 = .ok (.iastore, 1) := by decide +kernel
theorem d_Md_feed_118 : decode mm_Md_feed.2.1 118 = .ok (.iinc 6 1, 3) := by decide +kernel
theorem d_Md_feed_121 : decode mm_Md_feed.2.1 121 = .ok (.goto (-87), 3) := by decide +kernel
theorem d_Md_feed_124 : decode mm_Md_feed.2.1 124 = .ok (.aload_n 0, 1) := by decide +kernel
theorem d_Md_feed_125 : decode mm_Md_feed.2.1 125 = .ok (.aload_n 0, 1) := by decide +kernel
theorem d_Md_feed_126 : decode mm_Md_feed.2.1 126 = .ok (.getfield 100, 3) := by decide +kernel
theorem d_Md_feed_129 : decode mm_Md_feed.2.1 129 = .ok (.bipush 20, 2) := by decide +kernel
theorem d_Md_feed_131 : decode mm_Md_feed.2.1 131 = .ok (.iadd, 1) := by decide +kernel
theorem d_Md_feed_132 : decode mm_Md_feed.2.1 132 = .ok (.putfield 100, 3) := by decide +kernel
theorem d_Md_feed_135 : decode mm_Md_feed.2.1 135 = .ok (.aload_n 0, 1) := by decide +kernel
theorem d_Md_feed_136 : decode mm_Md_feed.2.1 136 = .ok (.getfield 100, 3) := by decide +kernel
theorem d_Md_feed_139 : decode mm_Md_feed.2.1 139 = .ok (.ireturn, 1) := by decide +kernel
theorem d_Md_end_0 : decode mm_Md_end.2.1 0 = .ok (.aload_n 0, 1) := by decide +kernel
theorem d_Md_end_1 : decode mm_Md_end.2.1 1 = .ok (.iload_n 1, 1) := by decide +kernel
theorem d_Md_end_2 : decode mm_Md_end.2.1 2 = .ok (.ifCond .lt 15, 3) := by decide +kernel
theorem d_Md_end_5 : decode mm_Md_end.2.1 5 = .ok (.iload_n 1, 1) := by decide +kernel
theorem d_Md_end_6 : decode mm_Md_end.2.1 6 = .ok (.aload_n 0, 1) := by decide +kernel
theorem d_Md_end_7 : decode mm_Md_end.2.1 7 = .ok (.getfield 100, 3) := by decide +kernel
theorem d_Md_end_10 : decode mm_Md_end.2.1 10 = .ok (.if_icmp .gt 7, 3) := by decide +kernel
theorem d_Md_end_13 : decode mm_Md_end.2.1 13 = .ok (.iconst 0, 1) := by decide +kernel
theorem d_Md_end_14 : decode mm_Md_end.2.1 14 = .ok (.goto 4, 3) := by decide +kernel
theorem d_Md_end_17 : decode mm_Md_end.2.1 17 = .ok (.iconst 1, 1) := by decide +kernel
theorem d_Md_end_18 : decode mm_Md_end.2.1 18 = .ok (.putfield 96, 3) := by decide +kernel
theorem d_Md_end_21 : decode mm_Md_end.2.1 21 = .ok (.aload_n 0, 1) := by decide +kernel
theorem d_Md_end_22 : decode mm_Md_end.2.1 22 = .ok (.aload_n 0, 1) := by decide +kernel
theorem d_Md_end_23 : decode mm_Md_end.2.1 23 = .ok (.getfield 96, 3) := by decide +kernel
theorem d_Md_end_26 : decode mm_Md_end.2.1 26 = .ok (.ifCond .le 10, 3) := by decide +kernel
theorem d_Md_end_29 : decode mm_Md_end.2.1 29 = .ok (.aload_n 0, 1) := by decide +kernel
theorem d_Md_end_30 : decode mm_Md_end.2.1 30 = .ok (.getfield 100, 3) := by decide +kernel
theorem d_Md_end_33 : decode mm_Md_end.2.1 33 = .ok (.goto 4, 3) := by decide +kernel
theorem d_Md_end_36 : decode mm_Md_end.2.1 36 = .ok (.iload_n 1, 1) := by decide +kernel
theorem d_Md_end_37 : decode mm_Md_end.2.1 37 = .ok (.putfield 100, 3) := by decide +kernel
theorem d_Md_end_40 : decode mm_Md_end.2.1 40 = .ok (.return_, 1) := by decide +kernel
theorem d_Lw_law_0 : decode mm_Lw_law.2.1 0 = .ok (.new 8, 3) := by decide +kernel
theorem d_Lw_law_3 : decode mm_Lw_law.2.1 3 = .ok (.dup, 1) := by decide +kernel
theorem d_Lw_law_4 : decode mm_Lw_law.2.1 4 = .ok (.invokespecial 52, 3) := by decide +kernel
theorem d_Lw_law_7 : decode mm_Lw_law.2.1 7 = .ok (.astore_n 1, 1) := by decide +kernel
theorem d_Lw_law_8 : decode mm_Lw_law.2.1 8 = .ok (.new 53, 3) := by decide +kernel
theorem d_Lw_law_11 : decode mm_Lw_law.2.1 11 = .ok (.dup, 1) := by decide +kernel
theorem d_Lw_law_12 : decode mm_Lw_law.2.1 12 = .ok (.invokespecial 55, 3) := by decide +kernel
theorem d_Lw_law_15 : decode mm_Lw_law.2.1 15 = .ok (.astore_n 2, 1) := by decide +kernel
theorem d_Lw_law_16 : decode mm_Lw_law.2.1 16 = .ok (.iconst 1, 1) := by decide +kernel
theorem d_Lw_law_17 : decode mm_Lw_law.2.1 17 = .ok (.newarray .long, 2) := by decide +kernel
theorem d_Lw_law_19 : decode mm_Lw_law.2.1 19 = .ok (.astore_n 3, 1) := by decide +kernel
theorem d_Lw_law_20 : decode mm_Lw_law.2.1 20 = .ok (.iconst 0, 1) := by decide +kernel
theorem d_Lw_law_21 : decode mm_Lw_law.2.1 21 = .ok (.istore 4, 2) := by decide +kernel
theorem d_Lw_law_23 : decode mm_Lw_law.2.1 23 = .ok (.iload 4, 2) := by decide +kernel
theorem d_Lw_law_25 : decode mm_Lw_law.2.1 25 = .ok (.aload_n 0, 1) := by decide +kernel
theorem d_Lw_law_26 : decode mm_Lw_law.2.1 26 = .ok (.arraylength, 1) := by decide +kernel
theorem d_Lw_law_27 : decode mm_Lw_law.2.1 27 = .ok (.bipush 6, 2) := by decide +kernel
theorem d_Lw_law_29 : decode mm_Lw_law.2.1 29 = .ok (.isub, 1) := by decide +kernel
theorem d_Lw_law_30 : decode mm_Lw_law.2.1 30 = .ok (.if_icmp .gt 637, 3) := by decide +kernel
theorem d_Lw_law_33 : decode mm_Lw_law.2.1 33 = .ok (.aload_n 0, 1) := by decide +kernel
theorem d_Lw_law_34 : decode mm_Lw_law.2.1 34 = .ok (.iload 4, 2) := by decide +kernel
theorem d_Lw_law_36 : decode mm_Lw_law.2.1 36 = .ok (.iaload, 1) := by decide +kernel
theorem d_Lw_law_37 : decode mm_Lw_law.2.1 37 = .ok (.bipush 15, 2) := by decide +kernel
theorem d_Lw_law_39 : decode mm_Lw_law.2.1 39 = .ok (.iand, 1) := by decide +kernel
theorem d_Lw_law_40 : decode mm_Lw_law.2.1 40 = .ok (.tableswitch 621 0 11 #[64, 168, 204, 217, 230, 281, 325, 338, 381, 425, 497, 565], 64) := by decide +kernel
theorem d_Lw_law_104 : decode mm_Lw_law.2.1 104 = .ok (.aload_n 1, 1) := by decide +kernel
theorem d_Lw_law_105 : decode mm_Lw_law.2.1 105 = .ok (.aload_n 0, 1) := by decide +kernel
theorem d_Lw_law_106 : decode mm_Lw_law.2.1 106 = .ok (.iload 4, 2) := by decide +kernel
theorem d_Lw_law_108 : decode mm_Lw_law.2.1 108 = .ok (.iconst 1, 1) := by decide +kernel
theorem d_Lw_law_109 : decode mm_Lw_law.2.1 109 = .ok (.iadd, 1) := by decide +kernel
theorem d_Lw_law_110 : decode mm_Lw_law.2.1 110 = .ok (.iaload, 1) := by decide +kernel
theorem d_Lw_law_111 : decode mm_Lw_law.2.1 111 = .ok (.aload_n 0, 1) := by decide +kernel
theorem d_Lw_law_112 : decode mm_Lw_law.2.1 112 = .ok (.iload 4, 2) := by decide +kernel
theorem d_Lw_law_114 : decode mm_Lw_law.2.1 114 = .ok (.iconst 2, 1) := by decide +kernel
theorem d_Lw_law_115 : decode mm_Lw_law.2.1 115 = .ok (.iadd, 1) := by decide +kernel
theorem d_Lw_law_116 : decode mm_Lw_law.2.1 116 = .ok (.iaload, 1) := by decide +kernel
theorem d_Lw_law_117 : decode mm_Lw_law.2.1 117 = .ok (.aload_n 0, 1) := by decide +kernel
theorem d_Lw_law_118 : decode mm_Lw_law.2.1 118 = .ok (.iload 4, 2) := by decide +kernel
theorem d_Lw_law_120 : decode mm_Lw_law.2.1 120 = .ok (.iconst 3, 1) := by decide +kernel
theorem d_Lw_law_121 : decode mm_Lw_law.2.1 121 = .ok (.iadd, 1) := by decide +kernel
theorem d_Lw_law_122 : decode mm_Lw_law.2.1 122 = .ok (.iaload, 1) := by decide +kernel
theorem d_Lw_law_123 : decode mm_Lw_law.2.1 123 = .ok (.aload_n 0, 1) := by decide +kernel
theorem d_Lw_law_124 : decode mm_Lw_law.2.1 124 = .ok (.iload 4, 2) := by decide +kernel
theorem d_Lw_law_126 : decode mm_Lw_law.2.1 126 = .ok (.iconst 4, 1) := by decide +kernel
theorem d_Lw_law_127 : decode mm_Lw_law.2.1 127 = .ok (.iadd, 1) := by decide +kernel
theorem d_Lw_law_128 : decode mm_Lw_law.2.1 128 = .ok (.iaload, 1) := by decide +kernel
theorem d_Lw_law_129 : decode mm_Lw_law.2.1 129 = .ok (.aload_n 0, 1) := by decide +kernel
theorem d_Lw_law_130 : decode mm_Lw_law.2.1 130 = .ok (.iload 4, 2) := by decide +kernel
theorem d_Lw_law_132 : decode mm_Lw_law.2.1 132 = .ok (.iconst 5, 1) := by decide +kernel
theorem d_Lw_law_133 : decode mm_Lw_law.2.1 133 = .ok (.iadd, 1) := by decide +kernel
theorem d_Lw_law_134 : decode mm_Lw_law.2.1 134 = .ok (.iaload, 1) := by decide +kernel
theorem d_Lw_law_135 : decode mm_Lw_law.2.1 135 = .ok (.aload_n 3, 1) := by decide +kernel
theorem d_Lw_law_136 : decode mm_Lw_law.2.1 136 = .ok (.invokestatic 56, 3) := by decide +kernel
theorem d_Lw_law_139 : decode mm_Lw_law.2.1 139 = .ok (.istore 5, 2) := by decide +kernel
theorem d_Lw_law_141 : decode mm_Lw_law.2.1 141 = .ok (.aload_n 2, 1) := by decide +kernel
theorem d_Lw_law_142 : decode mm_Lw_law.2.1 142 = .ok (.aload_n 0, 1) := by decide +kernel
theorem d_Lw_law_143 : decode mm_Lw_law.2.1 143 = .ok (.iload 4, 2) := by decide +kernel
theorem d_Lw_law_145 : decode mm_Lw_law.2.1 145 = .ok (.iconst 1, 1) := by decide +kernel
theorem d_Lw_law_146 : decode mm_Lw_law.2.1 146 = .ok (.iadd, 1) := by decide +kernel
theorem d_Lw_law_147 : decode mm_Lw_law.2.1 147 = .ok (.iaload, 1) := by decide +kernel
theorem d_Lw_law_148 : decode mm_Lw_law.2.1 148 = .ok (.aload_n 0, 1) := by decide +kernel
theorem d_Lw_law_149 : decode mm_Lw_law.2.1 149 = .ok (.iload 4, 2) := by decide +kernel
theorem d_Lw_law_151 : decode mm_Lw_law.2.1 151 = .ok (.iconst 2, 1) := by decide +kernel
theorem d_Lw_law_152 : decode mm_Lw_law.2.1 152 = .ok (.iadd, 1) := by decide +kernel
theorem d_Lw_law_153 : decode mm_Lw_law.2.1 153 = .ok (.iaload, 1) := by decide +kernel
theorem d_Lw_law_154 : decode mm_Lw_law.2.1 154 = .ok (.aload_n 0, 1) := by decide +kernel
theorem d_Lw_law_155 : decode mm_Lw_law.2.1 155 = .ok (.iload 4, 2) := by decide +kernel
theorem d_Lw_law_157 : decode mm_Lw_law.2.1 157 = .ok (.iconst 3, 1) := by decide +kernel
theorem d_Lw_law_158 : decode mm_Lw_law.2.1 158 = .ok (.iadd, 1) := by decide +kernel
theorem d_Lw_law_159 : decode mm_Lw_law.2.1 159 = .ok (.iaload, 1) := by decide +kernel
theorem d_Lw_law_160 : decode mm_Lw_law.2.1 160 = .ok (.aload_n 0, 1) := by decide +kernel
theorem d_Lw_law_161 : decode mm_Lw_law.2.1 161 = .ok (.iload 4, 2) := by decide +kernel
theorem d_Lw_law_163 : decode mm_Lw_law.2.1 163 = .ok (.iconst 4, 1) := by decide +kernel
theorem d_Lw_law_164 : decode mm_Lw_law.2.1 164 = .ok (.iadd, 1) := by decide +kernel
theorem d_Lw_law_165 : decode mm_Lw_law.2.1 165 = .ok (.iaload, 1) := by decide +kernel
theorem d_Lw_law_166 : decode mm_Lw_law.2.1 166 = .ok (.aload_n 0, 1) := by decide +kernel
theorem d_Lw_law_167 : decode mm_Lw_law.2.1 167 = .ok (.iload 4, 2) := by decide +kernel
theorem d_Lw_law_169 : decode mm_Lw_law.2.1 169 = .ok (.iconst 5, 1) := by decide +kernel
theorem d_Lw_law_170 : decode mm_Lw_law.2.1 170 = .ok (.iadd, 1) := by decide +kernel
theorem d_Lw_law_171 : decode mm_Lw_law.2.1 171 = .ok (.iaload, 1) := by decide +kernel
theorem d_Lw_law_172 : decode mm_Lw_law.2.1 172 = .ok (.invokevirtual 61, 3) := by decide +kernel
theorem d_Lw_law_175 : decode mm_Lw_law.2.1 175 = .ok (.istore 6, 2) := by decide +kernel
theorem d_Lw_law_177 : decode mm_Lw_law.2.1 177 = .ok (.aload_n 2, 1) := by decide +kernel
theorem d_Lw_law_178 : decode mm_Lw_law.2.1 178 = .ok (.invokevirtual 62, 3) := by decide +kernel
theorem d_Lw_law_181 : decode mm_Lw_law.2.1 181 = .ok (.iload 5, 2) := by decide +kernel
theorem d_Lw_law_183 : decode mm_Lw_law.2.1 183 = .ok (.if_icmp .eq 5, 3) := by decide +kernel
theorem d_Lw_law_186 : decode mm_Lw_law.2.1 186 = .ok (.iconst 0, 1) := by decide +kernel
theorem d_Lw_law_187 : decode mm_Lw_law.2.1 187 = .ok (.ireturn, 1) := by decide +kernel
theorem d_Lw_law_188 : decode mm_Lw_law.2.1 188 = .ok (.iload 5, 2) := by decide +kernel
theorem d_Lw_law_190 : decode mm_Lw_law.2.1 190 = .ok (.ifCond .ne 15, 3) := by decide +kernel
theorem d_Lw_law_193 : decode mm_Lw_law.2.1 193 = .ok (.aload_n 3, 1) := by decide +kernel
theorem d_Lw_law_194 : decode mm_Lw_law.2.1 194 = .ok (.iconst 0, 1) := by decide +kernel
theorem d_Lw_law_195 : decode mm_Lw_law.2.1 195 = .ok (.laload, 1) := by decide +kernel
theorem d_Lw_law_196 : decode mm_Lw_law.2.1 196 = .ok (.iload 6, 2) := by decide +kernel
theorem d_Lw_law_198 : decode mm_Lw_law.2.1 198 = .ok (.i2l, 1) := by decide +kernel
theorem d_Lw_law_199 : decode mm_Lw_law.2.1 199 = .ok (.lcmp, 1) := by decide +kernel
theorem d_Lw_law_200 : decode mm_Lw_law.2.1 200 = .ok (.ifCond .eq 5, 3) := by decide +kernel
theorem d_Lw_law_203 : decode mm_Lw_law.2.1 203 = .ok (.iconst 0, 1) := by decide +kernel
theorem d_Lw_law_204 : decode mm_Lw_law.2.1 204 = .ok (.ireturn, 1) := by decide +kernel
theorem d_Lw_law_205 : decode mm_Lw_law.2.1 205 = .ok (.goto 456, 3) := by decide +kernel
theorem d_Lw_law_208 : decode mm_Lw_law.2.1 208 = .ok (.aload_n 1, 1) := by decide +kernel
theorem d_Lw_law_209 : decode mm_Lw_law.2.1 209 = .ok (.aload_n 0, 1) := by decide +kernel
theorem d_Lw_law_210 : decode mm_Lw_law.2.1 210 = .ok (.iload 4, 2) := by decide +kernel
theorem d_Lw_law_212 : decode mm_Lw_law.2.1 212 = .ok (.iconst 1, 1) := by decide +kernel
theorem d_Lw_law_213 : decode mm_Lw_law.2.1 213 = .ok (.iadd, 1) := by decide +kernel
theorem d_Lw_law_214 : decode mm_Lw_law.2.1 214 = .ok (.iaload, 1) := by decide +kernel
theorem d_Lw_law_215 : decode mm_Lw_law.2.1 215 = .ok (.invokestatic 65, 3) := by decide +kernel
theorem d_Lw_law_218 : decode mm_Lw_law.2.1 218 = .ok (.istore 5, 2) := by decide +kernel
theorem d_Lw_law_220 : decode mm_Lw_law.2.1 220 = .ok (.aload_n 2, 1) := by decide +kernel
theorem d_Lw_law_221 : decode mm_Lw_law.2.1 221 = .ok (.aload_n 0, 1) := by decide +kernel
theorem d_Lw_law_222 : decode mm_Lw_law.2.1 222 = .ok (.iload 4, 2) := by decide +kernel
theorem d_Lw_law_224 : decode mm_Lw_law.2.1 224 = .ok (.iconst 1, 1) := by decide +kernel
theorem d_Lw_law_225 : decode mm_Lw_law.2.1 225 = .ok (.iadd, 1) := by decide +kernel
theorem d_Lw_law_226 : decode mm_Lw_law.2.1 226 = .ok (.iaload, 1) := by decide +kernel
theorem d_Lw_law_227 : decode mm_Lw_law.2.1 227 = .ok (.invokevirtual 68, 3) := by decide +kernel
theorem d_Lw_law_230 : decode mm_Lw_law.2.1 230 = .ok (.aload_n 2, 1) := by decide +kernel
theorem d_Lw_law_231 : decode mm_Lw_law.2.1 231 = .ok (.invokevirtual 62, 3) := by decide +kernel
theorem d_Lw_law_234 : decode mm_Lw_law.2.1 234 = .ok (.iload 5, 2) := by decide +kernel
theorem d_Lw_law_236 : decode mm_Lw_law.2.1 236 = .ok (.if_icmp .eq 5, 3) := by decide +kernel
theorem d_Lw_law_239 : decode mm_Lw_law.2.1 239 = .ok (.iconst 0, 1) := by decide +kernel
theorem d_Lw_law_240 : decode mm_Lw_law.2.1 240 = .ok (.ireturn, 1) := by decide +kernel
theorem d_Lw_law_241 : decode mm_Lw_law.2.1 241 = .ok (.goto 420, 3) := by decide +kernel
theorem d_Lw_law_244 : decode mm_Lw_law.2.1 244 = .ok (.aload_n 1, 1) := by decide +kernel
theorem d_Lw_law_245 : decode mm_Lw_law.2.1 245 = .ok (.invokevirtual 69, 3) := by decide +kernel
theorem d_Lw_law_248 : decode mm_Lw_law.2.1 248 = .ok (.aload_n 2, 1) := by decide +kernel
theorem d_Lw_law_249 : decode mm_Lw_law.2.1 249 = .ok (.invokevirtual 72, 3) := by decide +kernel
theorem d_Lw_law_252 : decode mm_Lw_law.2.1 252 = .ok (.if_icmp .eq 409, 3) := by decide +kernel
theorem d_Lw_law_255 : decode mm_Lw_law.2.1 255 = .ok (.iconst 0, 1) := by decide +kernel
theorem d_Lw_law_256 : decode mm_Lw_law.2.1 256 = .ok (.ireturn, 1) := by decide +kernel
theorem d_Lw_law_257 : decode mm_Lw_law.2.1 257 = .ok (.aload_n 1, 1) := by decide +kernel
theorem d_Lw_law_258 : decode mm_Lw_law.2.1 258 = .ok (.invokevirtual 73, 3) := by decide +kernel
theorem d_Lw_law_261 : decode mm_Lw_law.2.1 261 = .ok (.aload_n 2, 1) := by decide +kernel
theorem d_Lw_law_262 : decode mm_Lw_law.2.1 262 = .ok (.invokevirtual 76, 3) := by decide +kernel
theorem d_Lw_law_265 : decode mm_Lw_law.2.1 265 = .ok (.if_icmp .eq 396, 3) := by decide +kernel
theorem d_Lw_law_268 : decode mm_Lw_law.2.1 268 = .ok (.iconst 0, 1) := by decide +kernel
theorem d_Lw_law_269 : decode mm_Lw_law.2.1 269 = .ok (.ireturn, 1) := by decide +kernel
theorem d_Lw_law_270 : decode mm_Lw_law.2.1 270 = .ok (.aload_n 1, 1) := by decide +kernel
theorem d_Lw_law_271 : decode mm_Lw_law.2.1 271 = .ok (.aload_n 3, 1) := by decide +kernel
theorem d_Lw_law_272 : decode mm_Lw_law.2.1 272 = .ok (.invokestatic 77, 3) := by decide +kernel
theorem d_Lw_law_275 : decode mm_Lw_law.2.1 275 = .ok (.istore 5, 2) := by decide +kernel
theorem d_Lw_law_277 : decode mm_Lw_law.2.1 277 = .ok (.aload_n 2, 1) := by decide +kernel
theorem d_Lw_law_278 : decode mm_Lw_law.2.1 278 = .ok (.invokevirtual 80, 3) := by decide +kernel
theorem d_Lw_law_281 : decode mm_Lw_law.2.1 281 = .ok (.istore 6, 2) := by decide +kernel
theorem d_Lw_law_283 : decode mm_Lw_law.2.1 283 = .ok (.aload_n 2, 1) := by decide +kernel
theorem d_Lw_law_284 : decode mm_Lw_law.2.1 284 = .ok (.invokevirtual 62, 3) := by decide +kernel
theorem d_Lw_law_287 : decode mm_Lw_law.2.1 287 = .ok (.iload 5, 2) := by decide +kernel
theorem d_Lw_law_289 : decode mm_Lw_law.2.1 289 = .ok (.if_icmp .eq 5, 3) := by decide +kernel
theorem d_Lw_law_292 : decode mm_Lw_law.2.1 292 = .ok (.iconst 0, 1) := by decide +kernel
theorem d_Lw_law_293 : decode mm_Lw_law.2.1 293 = .ok (.ireturn, 1) := by decide +kernel
theorem d_Lw_law_294 : decode mm_Lw_law.2.1 294 = .ok (.iload 5, 2) := by decide +kernel
theorem d_Lw_law_296 : decode mm_Lw_law.2.1 296 = .ok (.ifCond .ne 22, 3) := by decide +kernel
theorem d_Lw_law_299 : decode mm_Lw_law.2.1 299 = .ok (.aload_n 3, 1) := by decide +kernel
theorem d_Lw_law_300 : decode mm_Lw_law.2.1 300 = .ok (.iconst 0, 1) := by decide +kernel
theorem d_Lw_law_301 : decode mm_Lw_law.2.1 301 = .ok (.laload, 1) := by decide +kernel
theorem d_Lw_law_302 : decode mm_Lw_law.2.1 302 = .ok (.iload 6, 2) := by decide +kernel
theorem d_Lw_law_304 : decode mm_Lw_law.2.1 304 = .ok (.ifCond .eq 7, 3) := by decide +kernel
theorem d_Lw_law_307 : decode mm_Lw_law.2.1 307 = .ok (.lconst 1, 1) := by decide +kernel
theorem d_Lw_law_308 : decode mm_Lw_law.2.1 308 = .ok (.goto 4, 3) := by decide +kernel
theorem d_Lw_law_311 : decode mm_Lw_law.2.1 311 = .ok (.lconst 0, 1) := by decide +kernel
theorem d_Lw_law_312 : decode mm_Lw_law.2.1 312 = .ok (.lcmp, 1) := by decide +kernel
theorem d_Lw_law_313 : decode mm_Lw_law.2.1 313 = .ok (.ifCond .eq 5, 3) := by decide +kernel
theorem d_Lw_law_316 : decode mm_Lw_law.2.1 316 = .ok (.iconst 0, 1) := by decide +kernel
theorem d_Lw_law_317 : decode mm_Lw_law.2.1 317 = .ok (.ireturn, 1) := by decide +kernel
theorem d_Lw_law_318 : decode mm_Lw_law.2.1 318 = .ok (.goto 343, 3) := by decide +kernel
theorem d_Lw_law_321 : decode mm_Lw_law.2.1 321 = .ok (.aload_n 1, 1) := by decide +kernel
theorem d_Lw_law_322 : decode mm_Lw_law.2.1 322 = .ok (.aload_n 3, 1) := by decide +kernel
theorem d_Lw_law_323 : decode mm_Lw_law.2.1 323 = .ok (.invokestatic 81, 3) := by decide +kernel
theorem d_Lw_law_326 : decode mm_Lw_law.2.1 326 = .ok (.istore 5, 2) := by decide +kernel
theorem d_Lw_law_328 : decode mm_Lw_law.2.1 328 = .ok (.aload_n 2, 1) := by decide +kernel
theorem d_Lw_law_329 : decode mm_Lw_law.2.1 329 = .ok (.invokevirtual 83, 3) := by decide +kernel
theorem d_Lw_law_332 : decode mm_Lw_law.2.1 332 = .ok (.istore 6, 2) := by decide +kernel
theorem d_Lw_law_334 : decode mm_Lw_law.2.1 334 = .ok (.aload_n 2, 1) := by decide +kernel
theorem d_Lw_law_335 : decode mm_Lw_law.2.1 335 = .ok (.invokevirtual 62, 3) := by decide +kernel
theorem d_Lw_law_338 : decode mm_Lw_law.2.1 338 = .ok (.iload 5, 2) := by decide +kernel
theorem d_Lw_law_340 : decode mm_Lw_law.2.1 340 = .ok (.if_icmp .eq 5, 3) := by decide +kernel
theorem d_Lw_law_343 : decode mm_Lw_law.2.1 343 = .ok (.iconst 0, 1) := by decide +kernel
theorem d_Lw_law_344 : decode mm_Lw_law.2.1 344 = .ok (.ireturn, 1) := by decide +kernel
theorem d_Lw_law_345 : decode mm_Lw_law.2.1 345 = .ok (.iload 5, 2) := by decide +kernel
theorem d_Lw_law_347 : decode mm_Lw_law.2.1 347 = .ok (.ifCond .ne 15, 3) := by decide +kernel
theorem d_Lw_law_350 : decode mm_Lw_law.2.1 350 = .ok (.aload_n 3, 1) := by decide +kernel
theorem d_Lw_law_351 : decode mm_Lw_law.2.1 351 = .ok (.iconst 0, 1) := by decide +kernel
theorem d_Lw_law_352 : decode mm_Lw_law.2.1 352 = .ok (.laload, 1) := by decide +kernel
theorem d_Lw_law_353 : decode mm_Lw_law.2.1 353 = .ok (.iload 6, 2) := by decide +kernel
theorem d_Lw_law_355 : decode mm_Lw_law.2.1 355 = .ok (.i2l, 1) := by decide +kernel
theorem d_Lw_law_356 : decode mm_Lw_law.2.1 356 = .ok (.lcmp, 1) := by decide +kernel
theorem d_Lw_law_357 : decode mm_Lw_law.2.1 357 = .ok (.ifCond .eq 5, 3) := by decide +kernel
theorem d_Lw_law_360 : decode mm_Lw_law.2.1 360 = .ok (.iconst 0, 1) := by decide +kernel
theorem d_Lw_law_361 : decode mm_Lw_law.2.1 361 = .ok (.ireturn, 1) := by decide +kernel
theorem d_Lw_law_362 : decode mm_Lw_law.2.1 362 = .ok (.goto 299, 3) := by decide +kernel
theorem d_Lw_law_365 : decode mm_Lw_law.2.1 365 = .ok (.aload_n 1, 1) := by decide +kernel
theorem d_Lw_law_366 : decode mm_Lw_law.2.1 366 = .ok (.invokevirtual 84, 3) := by decide +kernel
theorem d_Lw_law_369 : decode mm_Lw_law.2.1 369 = .ok (.aload_n 2, 1) := by decide +kernel
theorem d_Lw_law_370 : decode mm_Lw_law.2.1 370 = .ok (.invokevirtual 87, 3) := by decide +kernel
theorem d_Lw_law_373 : decode mm_Lw_law.2.1 373 = .ok (.if_icmp .eq 288, 3) := by decide +kernel
theorem d_Lw_law_376 : decode mm_Lw_law.2.1 376 = .ok (.iconst 0, 1) := by decide +kernel
theorem d_Lw_law_377 : decode mm_Lw_law.2.1 377 = .ok (.ireturn, 1) := by decide +kernel
theorem d_Lw_law_378 : decode mm_Lw_law.2.1 378 = .ok (.aload_n 1, 1) := by decide +kernel
theorem d_Lw_law_379 : decode mm_Lw_law.2.1 379 = .ok (.aload_n 3, 1) := by decide +kernel
theorem d_Lw_law_380 : decode mm_Lw_law.2.1 380 = .ok (.invokestatic 88, 3) := by decide +kernel
theorem d_Lw_law_383 : decode mm_Lw_law.2.1 383 = .ok (.istore 5, 2) := by decide +kernel
theorem d_Lw_law_385 : decode mm_Lw_law.2.1 385 = .ok (.aload_n 2, 1) := by decide +kernel
theorem d_Lw_law_386 : decode mm_Lw_law.2.1 386 = .ok (.invokevirtual 90, 3) := by decide +kernel
theorem d_Lw_law_389 : decode mm_Lw_law.2.1 389 = .ok (.lstore 6, 2) := by decide +kernel
theorem d_Lw_law_391 : decode mm_Lw_law.2.1 391 = .ok (.aload_n 2, 1) := by decide +kernel
theorem d_Lw_law_392 : decode mm_Lw_law.2.1 392 = .ok (.invokevirtual 62, 3) := by decide +kernel
theorem d_Lw_law_395 : decode mm_Lw_law.2.1 395 = .ok (.iload 5, 2) := by decide +kernel
theorem d_Lw_law_397 : decode mm_Lw_law.2.1 397 = .ok (.if_icmp .eq 5, 3) := by decide +kernel
theorem d_Lw_law_400 : decode mm_Lw_law.2.1 400 = .ok (.iconst 0, 1) := by decide +kernel
theorem d_Lw_law_401 : decode mm_Lw_law.2.1 401 = .ok (.ireturn, 1) := by decide +kernel
theorem d_Lw_law_402 : decode mm_Lw_law.2.1 402 = .ok (.iload 5, 2) := by decide +kernel
theorem d_Lw_law_404 : decode mm_Lw_law.2.1 404 = .ok (.ifCond .ne 14, 3) := by decide +kernel
theorem d_Lw_law_407 : decode mm_Lw_law.2.1 407 = .ok (.aload_n 3, 1) := by decide +kernel
theorem d_Lw_law_408 : decode mm_Lw_law.2.1 408 = .ok (.iconst 0, 1) := by decide +kernel
theorem d_Lw_law_409 : decode mm_Lw_law.2.1 409 = .ok (.laload, 1) := by decide +kernel
theorem d_Lw_law_410 : decode mm_Lw_law.2.1 410 = .ok (.lload 6, 2) := by decide +kernel
theorem d_Lw_law_412 : decode mm_Lw_law.2.1 412 = .ok (.lcmp, 1) := by decide +kernel
theorem d_Lw_law_413 : decode mm_Lw_law.2.1 413 = .ok (.ifCond .eq 5, 3) := by decide +kernel
theorem d_Lw_law_416 : decode mm_Lw_law.2.1 416 = .ok (.iconst 0, 1) := by decide +kernel
theorem d_Lw_law_417 : decode mm_Lw_law.2.1 417 = .ok (.ireturn, 1) := by decide +kernel
theorem d_Lw_law_418 : decode mm_Lw_law.2.1 418 = .ok (.goto 243, 3) := by decide +kernel
theorem d_Lw_law_421 : decode mm_Lw_law.2.1 421 = .ok (.aload_n 1, 1) := by decide +kernel
theorem d_Lw_law_422 : decode mm_Lw_law.2.1 422 = .ok (.aload_n 3, 1) := by decide +kernel
theorem d_Lw_law_423 : decode mm_Lw_law.2.1 423 = .ok (.invokestatic 91, 3) := by decide +kernel
theorem d_Lw_law_426 : decode mm_Lw_law.2.1 426 = .ok (.istore 5, 2) := by decide +kernel
theorem d_Lw_law_428 : decode mm_Lw_law.2.1 428 = .ok (.aload_n 2, 1) := by decide +kernel
theorem d_Lw_law_429 : decode mm_Lw_law.2.1 429 = .ok (.invokevirtual 93, 3) := by decide +kernel
theorem d_Lw_law_432 : decode mm_Lw_law.2.1 432 = .ok (.istore 6, 2) := by decide +kernel
theorem d_Lw_law_434 : decode mm_Lw_law.2.1 434 = .ok (.aload_n 2, 1) := by decide +kernel
theorem d_Lw_law_435 : decode mm_Lw_law.2.1 435 = .ok (.invokevirtual 62, 3) := by decide +kernel
theorem d_Lw_law_438 : decode mm_Lw_law.2.1 438 = .ok (.iload 5, 2) := by decide +kernel
theorem d_Lw_law_440 : decode mm_Lw_law.2.1 440 = .ok (.if_icmp .eq 5, 3) := by decide +kernel
theorem d_Lw_law_443 : decode mm_Lw_law.2.1 443 = .ok (.iconst 0, 1) := by decide +kernel
theorem d_Lw_law_444 : decode mm_Lw_law.2.1 444 = .ok (.ireturn, 1) := by decide +kernel
theorem d_Lw_law_445 : decode mm_Lw_law.2.1 445 = .ok (.iload 5, 2) := by decide +kernel
theorem d_Lw_law_447 : decode mm_Lw_law.2.1 447 = .ok (.ifCond .ne 15, 3) := by decide +kernel
theorem d_Lw_law_450 : decode mm_Lw_law.2.1 450 = .ok (.aload_n 3, 1) := by decide +kernel
theorem d_Lw_law_451 : decode mm_Lw_law.2.1 451 = .ok (.iconst 0, 1) := by decide +kernel
theorem d_Lw_law_452 : decode mm_Lw_law.2.1 452 = .ok (.laload, 1) := by decide +kernel
theorem d_Lw_law_453 : decode mm_Lw_law.2.1 453 = .ok (.iload 6, 2) := by decide +kernel
theorem d_Lw_law_455 : decode mm_Lw_law.2.1 455 = .ok (.i2l, 1) := by decide +kernel
theorem d_Lw_law_456 : decode mm_Lw_law.2.1 456 = .ok (.lcmp, 1) := by decide +kernel
theorem d_Lw_law_457 : decode mm_Lw_law.2.1 457 = .ok (.ifCond .eq 5, 3) := by decide +kernel
theorem d_Lw_law_460 : decode mm_Lw_law.2.1 460 = .ok (.iconst 0, 1) := by decide +kernel
theorem d_Lw_law_461 : decode mm_Lw_law.2.1 461 = .ok (.ireturn, 1) := by decide +kernel
theorem d_Lw_law_462 : decode mm_Lw_law.2.1 462 = .ok (.goto 199, 3) := by decide +kernel
theorem d_Lw_law_465 : decode mm_Lw_law.2.1 465 = .ok (.aload_n 1, 1) := by decide +kernel
theorem d_Lw_law_466 : decode mm_Lw_law.2.1 466 = .ok (.aload_n 0, 1) := by decide +kernel
theorem d_Lw_law_467 : decode mm_Lw_law.2.1 467 = .ok (.iload 4, 2) := by decide +kernel
theorem d_Lw_law_469 : decode mm_Lw_law.2.1 469 = .ok (.iconst 1, 1) := by decide +kernel
theorem d_Lw_law_470 : decode mm_Lw_law.2.1 470 = .ok (.iadd, 1) := by decide +kernel
theorem d_Lw_law_471 : decode mm_Lw_law.2.1 471 = .ok (.iaload, 1) := by decide +kernel
theorem d_Lw_law_472 : decode mm_Lw_law.2.1 472 = .ok (.ifCond .eq 7, 3) := by decide +kernel
theorem d_Lw_law_475 : decode mm_Lw_law.2.1 475 = .ok (.iconst 1, 1) := by decide +kernel
theorem d_Lw_law_476 : decode mm_Lw_law.2.1 476 = .ok (.goto 4, 3) := by decide +kernel
theorem d_Lw_law_479 : decode mm_Lw_law.2.1 479 = .ok (.iconst 0, 1) := by decide +kernel
theorem d_Lw_law_480 : decode mm_Lw_law.2.1 480 = .ok (.aload_n 3, 1) := by decide +kernel
theorem d_Lw_law_481 : decode mm_Lw_law.2.1 481 = .ok (.invokestatic 94, 3) := by decide +kernel
theorem d_Lw_law_484 : decode mm_Lw_law.2.1 484 = .ok (.istore 5, 2) := by decide +kernel
theorem d_Lw_law_486 : decode mm_Lw_law.2.1 486 = .ok (.aload_n 2, 1) := by decide +kernel
theorem d_Lw_law_487 : decode mm_Lw_law.2.1 487 = .ok (.aload_n 0, 1) := by decide +kernel
theorem d_Lw_law_488 : decode mm_Lw_law.2.1 488 = .ok (.iload 4, 2) := by decide +kernel
theorem d_Lw_law_490 : decode mm_Lw_law.2.1 490 = .ok (.iconst 1, 1) := by decide +kernel
theorem d_Lw_law_491 : decode mm_Lw_law.2.1 491 = .ok (.iadd, 1) := by decide +kernel
theorem d_Lw_law_492 : decode mm_Lw_law.2.1 492 = .ok (.iaload, 1) := by decide +kernel
theorem d_Lw_law_493 : decode mm_Lw_law.2.1 493 = .ok (.ifCond .eq 7, 3) := by decide +kernel
theorem d_Lw_law_496 : decode mm_Lw_law.2.1 496 = .ok (.iconst 1, 1) := by decide +kernel
theorem d_Lw_law_497 : decode mm_Lw_law.2.1 497 = .ok (.goto 4, 3) := by decide +kernel
theorem d_Lw_law_500 : decode mm_Lw_law.2.1 500 = .ok (.iconst 0, 1) := by decide +kernel
theorem d_Lw_law_501 : decode mm_Lw_law.2.1 501 = .ok (.invokevirtual 97, 3) := by decide +kernel
theorem d_Lw_law_504 : decode mm_Lw_law.2.1 504 = .ok (.istore 6, 2) := by decide +kernel
theorem d_Lw_law_506 : decode mm_Lw_law.2.1 506 = .ok (.aload_n 2, 1) := by decide +kernel
theorem d_Lw_law_507 : decode mm_Lw_law.2.1 507 = .ok (.invokevirtual 62, 3) := by decide +kernel
theorem d_Lw_law_510 : decode mm_Lw_law.2.1 510 = .ok (.iload 5, 2) := by decide +kernel
theorem d_Lw_law_512 : decode mm_Lw_law.2.1 512 = .ok (.if_icmp .eq 5, 3) := by decide +kernel
theorem d_Lw_law_515 : decode mm_Lw_law.2.1 515 = .ok (.iconst 0, 1) := by decide +kernel
theorem d_Lw_law_516 : decode mm_Lw_law.2.1 516 = .ok (.ireturn, 1) := by decide +kernel
theorem d_Lw_law_517 : decode mm_Lw_law.2.1 517 = .ok (.iload 5, 2) := by decide +kernel
theorem d_Lw_law_519 : decode mm_Lw_law.2.1 519 = .ok (.ifCond .ne 15, 3) := by decide +kernel
theorem d_Lw_law_522 : decode mm_Lw_law.2.1 522 = .ok (.aload_n 3, 1) := by decide +kernel
theorem d_Lw_law_523 : decode mm_Lw_law.2.1 523 = .ok (.iconst 0, 1) := by decide +kernel
theorem d_Lw_law_524 : decode mm_Lw_law.2.1 524 = .ok (.laload, 1) := by decide +kernel
theorem d_Lw_law_525 : decode mm_Lw_law.2.1 525 = .ok (.iload 6, 2) := by decide +kernel
theorem d_Lw_law_527 : decode mm_Lw_law.2.1 527 = .ok (.i2l, 1) := by decide +kernel
theorem d_Lw_law_528 : decode mm_Lw_law.2.1 528 = .ok (.lcmp, 1) := by decide +kernel
theorem d_Lw_law_529 : decode mm_Lw_law.2.1 529 = .ok (.ifCond .eq 5, 3) := by decide +kernel
theorem d_Lw_law_532 : decode mm_Lw_law.2.1 532 = .ok (.iconst 0, 1) := by decide +kernel
theorem d_Lw_law_533 : decode mm_Lw_law.2.1 533 = .ok (.ireturn, 1) := by decide +kernel
theorem d_Lw_law_534 : decode mm_Lw_law.2.1 534 = .ok (.goto 127, 3) := by decide +kernel
theorem d_Lw_law_537 : decode mm_Lw_law.2.1 537 = .ok (.aload_n 1, 1) := by decide +kernel
theorem d_Lw_law_538 : decode mm_Lw_law.2.1 538 = .ok (.aload_n 0, 1) := by decide +kernel
theorem d_Lw_law_539 : decode mm_Lw_law.2.1 539 = .ok (.iload 4, 2) := by decide +kernel
theorem d_Lw_law_541 : decode mm_Lw_law.2.1 541 = .ok (.iconst 1, 1) := by decide +kernel
theorem d_Lw_law_542 : decode mm_Lw_law.2.1 542 = .ok (.iadd, 1) := by decide +kernel
theorem d_Lw_law_543 : decode mm_Lw_law.2.1 543 = .ok (.iaload, 1) := by decide +kernel
theorem d_Lw_law_544 : decode mm_Lw_law.2.1 544 = .ok (.aload_n 0, 1) := by decide +kernel
theorem d_Lw_law_545 : decode mm_Lw_law.2.1 545 = .ok (.iload 4, 2) := by decide +kernel
theorem d_Lw_law_547 : decode mm_Lw_law.2.1 547 = .ok (.iconst 2, 1) := by decide +kernel
theorem d_Lw_law_548 : decode mm_Lw_law.2.1 548 = .ok (.iadd, 1) := by decide +kernel
theorem d_Lw_law_549 : decode mm_Lw_law.2.1 549 = .ok (.iaload, 1) := by decide +kernel
theorem d_Lw_law_550 : decode mm_Lw_law.2.1 550 = .ok (.aload_n 3, 1) := by decide +kernel
theorem d_Lw_law_551 : decode mm_Lw_law.2.1 551 = .ok (.invokestatic 98, 3) := by decide +kernel
theorem d_Lw_law_554 : decode mm_Lw_law.2.1 554 = .ok (.istore 5, 2) := by decide +kernel
theorem d_Lw_law_556 : decode mm_Lw_law.2.1 556 = .ok (.aload_n 2, 1) := by decide +kernel
theorem d_Lw_law_557 : decode mm_Lw_law.2.1 557 = .ok (.aload_n 0, 1) := by decide +kernel
theorem d_Lw_law_558 : decode mm_Lw_law.2.1 558 = .ok (.iload 4, 2) := by decide +kernel
theorem d_Lw_law_560 : decode mm_Lw_law.2.1 560 = .ok (.iconst 1, 1) := by decide +kernel
theorem d_Lw_law_561 : decode mm_Lw_law.2.1 561 = .ok (.iadd, 1) := by decide +kernel
theorem d_Lw_law_562 : decode mm_Lw_law.2.1 562 = .ok (.iaload, 1) := by decide +kernel
theorem d_Lw_law_563 : decode mm_Lw_law.2.1 563 = .ok (.aload_n 0, 1) := by decide +kernel
theorem d_Lw_law_564 : decode mm_Lw_law.2.1 564 = .ok (.iload 4, 2) := by decide +kernel
theorem d_Lw_law_566 : decode mm_Lw_law.2.1 566 = .ok (.iconst 2, 1) := by decide +kernel
theorem d_Lw_law_567 : decode mm_Lw_law.2.1 567 = .ok (.iadd, 1) := by decide +kernel
theorem d_Lw_law_568 : decode mm_Lw_law.2.1 568 = .ok (.iaload, 1) := by decide +kernel
theorem d_Lw_law_569 : decode mm_Lw_law.2.1 569 = .ok (.invokevirtual 101, 3) := by decide +kernel
theorem d_Lw_law_572 : decode mm_Lw_law.2.1 572 = .ok (.istore 6, 2) := by decide +kernel
theorem d_Lw_law_574 : decode mm_Lw_law.2.1 574 = .ok (.aload_n 2, 1) := by decide +kernel
theorem d_Lw_law_575 : decode mm_Lw_law.2.1 575 = .ok (.invokevirtual 62, 3) := by decide +kernel
theorem d_Lw_law_578 : decode mm_Lw_law.2.1 578 = .ok (.iload 5, 2) := by decide +kernel
theorem d_Lw_law_580 : decode mm_Lw_law.2.1 580 = .ok (.if_icmp .eq 5, 3) := by decide +kernel
theorem d_Lw_law_583 : decode mm_Lw_law.2.1 583 = .ok (.iconst 0, 1) := by decide +kernel
theorem d_Lw_law_584 : decode mm_Lw_law.2.1 584 = .ok (.ireturn, 1) := by decide +kernel
theorem d_Lw_law_585 : decode mm_Lw_law.2.1 585 = .ok (.iload 5, 2) := by decide +kernel
theorem d_Lw_law_587 : decode mm_Lw_law.2.1 587 = .ok (.ifCond .ne 15, 3) := by decide +kernel
theorem d_Lw_law_590 : decode mm_Lw_law.2.1 590 = .ok (.aload_n 3, 1) := by decide +kernel
theorem d_Lw_law_591 : decode mm_Lw_law.2.1 591 = .ok (.iconst 0, 1) := by decide +kernel
theorem d_Lw_law_592 : decode mm_Lw_law.2.1 592 = .ok (.laload, 1) := by decide +kernel
theorem d_Lw_law_593 : decode mm_Lw_law.2.1 593 = .ok (.iload 6, 2) := by decide +kernel
theorem d_Lw_law_595 : decode mm_Lw_law.2.1 595 = .ok (.i2l, 1) := by decide +kernel
theorem d_Lw_law_596 : decode mm_Lw_law.2.1 596 = .ok (.lcmp, 1) := by decide +kernel
theorem d_Lw_law_597 : decode mm_Lw_law.2.1 597 = .ok (.ifCond .eq 5, 3) := by decide +kernel
theorem d_Lw_law_600 : decode mm_Lw_law.2.1 600 = .ok (.iconst 0, 1) := by decide +kernel
theorem d_Lw_law_601 : decode mm_Lw_law.2.1 601 = .ok (.ireturn, 1) := by decide +kernel
theorem d_Lw_law_602 : decode mm_Lw_law.2.1 602 = .ok (.goto 59, 3) := by decide +kernel
theorem d_Lw_law_605 : decode mm_Lw_law.2.1 605 = .ok (.aload_n 1, 1) := by decide +kernel
theorem d_Lw_law_606 : decode mm_Lw_law.2.1 606 = .ok (.aload_n 0, 1) := by decide +kernel
theorem d_Lw_law_607 : decode mm_Lw_law.2.1 607 = .ok (.iload 4, 2) := by decide +kernel
theorem d_Lw_law_609 : decode mm_Lw_law.2.1 609 = .ok (.iconst 1, 1) := by decide +kernel
theorem d_Lw_law_610 : decode mm_Lw_law.2.1 610 = .ok (.iadd, 1) := by decide +kernel
theorem d_Lw_law_611 : decode mm_Lw_law.2.1 611 = .ok (.iaload, 1) := by decide +kernel
theorem d_Lw_law_612 : decode mm_Lw_law.2.1 612 = .ok (.aload_n 3, 1) := by decide +kernel
theorem d_Lw_law_613 : decode mm_Lw_law.2.1 613 = .ok (.invokestatic 102, 3) := by decide +kernel
theorem d_Lw_law_616 : decode mm_Lw_law.2.1 616 = .ok (.istore 5, 2) := by decide +kernel
theorem d_Lw_law_618 : decode mm_Lw_law.2.1 618 = .ok (.aload_n 2, 1) := by decide +kernel
theorem d_Lw_law_619 : decode mm_Lw_law.2.1 619 = .ok (.aload_n 0, 1) := by decide +kernel
theorem d_Lw_law_620 : decode mm_Lw_law.2.1 620 = .ok (.iload 4, 2) := by decide +kernel
theorem d_Lw_law_622 : decode mm_Lw_law.2.1 622 = .ok (.iconst 1, 1) := by decide +kernel
theorem d_Lw_law_623 : decode mm_Lw_law.2.1 623 = .ok (.iadd, 1) := by decide +kernel
theorem d_Lw_law_624 : decode mm_Lw_law.2.1 624 = .ok (.iaload, 1) := by decide +kernel
theorem d_Lw_law_625 : decode mm_Lw_law.2.1 625 = .ok (.invokevirtual 105, 3) := by decide +kernel
theorem d_Lw_law_628 : decode mm_Lw_law.2.1 628 = .ok (.istore 6, 2) := by decide +kernel
theorem d_Lw_law_630 : decode mm_Lw_law.2.1 630 = .ok (.aload_n 2, 1) := by decide +kernel
theorem d_Lw_law_631 : decode mm_Lw_law.2.1 631 = .ok (.invokevirtual 62, 3) := by decide +kernel
theorem d_Lw_law_634 : decode mm_Lw_law.2.1 634 = .ok (.iload 5, 2) := by decide +kernel
theorem d_Lw_law_636 : decode mm_Lw_law.2.1 636 = .ok (.if_icmp .eq 5, 3) := by decide +kernel
theorem d_Lw_law_639 : decode mm_Lw_law.2.1 639 = .ok (.iconst 0, 1) := by decide +kernel
theorem d_Lw_law_640 : decode mm_Lw_law.2.1 640 = .ok (.ireturn, 1) := by decide +kernel
theorem d_Lw_law_641 : decode mm_Lw_law.2.1 641 = .ok (.iload 5, 2) := by decide +kernel
theorem d_Lw_law_643 : decode mm_Lw_law.2.1 643 = .ok (.ifCond .ne 15, 3) := by decide +kernel
theorem d_Lw_law_646 : decode mm_Lw_law.2.1 646 = .ok (.aload_n 3, 1) := by decide +kernel
theorem d_Lw_law_647 : decode mm_Lw_law.2.1 647 = .ok (.iconst 0, 1) := by decide +kernel
theorem d_Lw_law_648 : decode mm_Lw_law.2.1 648 = .ok (.laload, 1) := by decide +kernel
theorem d_Lw_law_649 : decode mm_Lw_law.2.1 649 = .ok (.iload 6, 2) := by decide +kernel
theorem d_Lw_law_651 : decode mm_Lw_law.2.1 651 = .ok (.i2l, 1) := by decide +kernel
theorem d_Lw_law_652 : decode mm_Lw_law.2.1 652 = .ok (.lcmp, 1) := by decide +kernel
theorem d_Lw_law_653 : decode mm_Lw_law.2.1 653 = .ok (.ifCond .eq 5, 3) := by decide +kernel
theorem d_Lw_law_656 : decode mm_Lw_law.2.1 656 = .ok (.iconst 0, 1) := by decide +kernel
theorem d_Lw_law_657 : decode mm_Lw_law.2.1 657 = .ok (.ireturn, 1) := by decide +kernel
theorem d_Lw_law_658 : decode mm_Lw_law.2.1 658 = .ok (.goto 3, 3) := by decide +kernel
theorem d_Lw_law_661 : decode mm_Lw_law.2.1 661 = .ok (.iinc 4 6, 3) := by decide +kernel
theorem d_Lw_law_664 : decode mm_Lw_law.2.1 664 = .ok (.goto (-641), 3) := by decide +kernel
theorem d_Lw_law_667 : decode mm_Lw_law.2.1 667 = .ok (.iconst 1, 1) := by decide +kernel
theorem d_Lw_law_668 : decode mm_Lw_law.2.1 668 = .ok (.ireturn, 1) := by decide +kernel
