theorem d_Md_define_463 : decode mm_Md_define.2.1 463 = .ok (.iinc 7 1, 3) := by decide +kernel
theorem d_Md_define_466 : decode mm_Md_define.2.1 466 = .ok (.goto (-91), 3) := by decide +kernel
theorem d_Md_define_469 : decode mm_Md_define.2.1 469 = .ok (.iconst (-1), 1) := by decide +kernel
theorem d_Md_define_470 : decode mm_Md_define.2.1 470 = .ok (.ireturn, 1) := by decide +kernel
theorem d_Md_next_0 : decode mm_Md_next.2.1 0 = .ok (.aload_n 0, 1) := by decide +kernel
theorem d_Md_next_1 : decode mm_Md_next.2.1 1 = .ok (.getfield 103, 3) := by decide +kernel
theorem d_Md_next_4 : decode mm_Md_next.2.1 4 = .ok (.aload_n 0, 1) := by decide +kernel
theorem d_Md_next_5 : decode mm_Md_next.2.1 5 = .ok (.getfield 100, 3) := by decide +kernel
theorem d_Md_next_8 : decode mm_Md_next.2.1 8 = .ok (.if_icmp .ge 30, 3) := by decide +kernel
theorem d_Md_next_11 : decode mm_Md_next.2.1 11 = .ok (.aload_n 0, 1) := by decide +kernel
theorem d_Md_next_12 : decode mm_Md_next.2.1 12 = .ok (.aload_n 0, 1) := by decide +kernel
theorem d_Md_next_13 : decode mm_Md_next.2.1 13 = .ok (.getfield 103, 3) := by decide +kernel
theorem d_Md_next_16 : decode mm_Md_next.2.1 16 = .ok (.invokevirtual 106, 3) := by decide +kernel
theorem d_Md_next_19 : decode mm_Md_next.2.1 19 = .ok (.invokestatic 110, 3) := by decide +kernel
theorem d_Md_next_22 : decode mm_Md_next.2.1 22 = .ok (.ifCond .eq 16, 3) := by decide +kernel
theorem d_Md_next_25 : decode mm_Md_next.2.1 25 = .ok (.aload_n 0, 1) := by decide +kernel
theorem d_Md_next_26 : decode mm_Md_next.2.1 26 = .ok (.dup, 1) := by decide +kernel
theorem d_Md_next_27 : decode mm_Md_next.2.1 27 = .ok (.getfield 103, 3) := by decide +kernel
theorem d_Md_next_30 : decode mm_Md_next.2.1 30 = .ok (.iconst 1, 1) := by decide +kernel
theorem d_Md_next_31 : decode mm_Md_next.2.1 31 = .ok (.iadd, 1) := by decide +kernel
theorem d_Md_next_32 : decode mm_Md_next.2.1 32 = .ok (.putfield 103, 3) := by decide +kernel
theorem d_Md_next_35 : decode mm_Md_next.2.1 35 = .ok (.goto (-35), 3) := by decide +kernel
theorem d_Md_next_38 : decode mm_Md_next.2.1 38 = .ok (.aload_n 0, 1) := by decide +kernel
theorem d_Md_next_39 : decode mm_Md_next.2.1 39 = .ok (.aload_n 0, 1) := by decide +kernel
theorem d_Md_next_40 : decode mm_Md_next.2.1 40 = .ok (.getfield 103, 3) := by decide +kernel
theorem d_Md_next_43 : decode mm_Md_next.2.1 43 = .ok (.putfield 114, 3) := by decide +kernel
theorem d_Md_next_46 : decode mm_Md_next.2.1 46 = .ok (.aload_n 0, 1) := by decide +kernel
theorem d_Md_next_47 : decode mm_Md_next.2.1 47 = .ok (.aload_n 0, 1) := by decide +kernel
theorem d_Md_next_48 : decode mm_Md_next.2.1 48 = .ok (.getfield 103, 3) := by decide +kernel
theorem d_Md_next_51 : decode mm_Md_next.2.1 51 = .ok (.invokevirtual 106, 3) := by decide +kernel
theorem d_Md_next_54 : decode mm_Md_next.2.1 54 = .ok (.istore_n 1, 1) := by decide +kernel
theorem d_Md_next_55 : decode mm_Md_next.2.1 55 = .ok (.aload_n 0, 1) := by decide +kernel
theorem d_Md_next_56 : decode mm_Md_next.2.1 56 = .ok (.getfield 103, 3) := by decide +kernel
theorem d_Md_next_59 : decode mm_Md_next.2.1 59 = .ok (.aload_n 0, 1) := by decide +kernel
theorem d_Md_next_60 : decode mm_Md_next.2.1 60 = .ok (.getfield 100, 3) := by decide +kernel
theorem d_Md_next_63 : decode mm_Md_next.2.1 63 = .ok (.if_icmp .lt 12, 3) := by decide +kernel
theorem d_Md_next_66 : decode mm_Md_next.2.1 66 = .ok (.aload_n 0, 1) := by decide +kernel
theorem d_Md_next_67 : decode mm_Md_next.2.1 67 = .ok (.bipush (-2), 2) := by decide +kernel
theorem d_Md_next_69 : decode mm_Md_next.2.1 69 = .ok (.putfield 117, 3) := by decide +kernel
theorem d_Md_next_72 : decode mm_Md_next.2.1 72 = .ok (.goto 325, 3) := by decide +kernel
theorem d_Md_next_75 : decode mm_Md_next.2.1 75 = .ok (.iload_n 1, 1) := by decide +kernel
theorem d_Md_next_76 : decode mm_Md_next.2.1 76 = .ok (.invokestatic 120, 3) := by decide +kernel
theorem d_Md_next_79 : decode mm_Md_next.2.1 79 = .ok (.ifCond .eq 105, 3) := by decide +kernel
theorem d_Md_next_82 : decode mm_Md_next.2.1 82 = .ok (.aload_n 0, 1) := by decide +kernel
theorem d_Md_next_83 : decode mm_Md_next.2.1 83 = .ok (.lconst 0, 1) := by decide +kernel
theorem d_Md_next_84 : decode mm_Md_next.2.1 84 = .ok (.putfield 123, 3) := by decide +kernel
theorem d_Md_next_87 : decode mm_Md_next.2.1 87 = .ok (.aload_n 0, 1) := by decide +kernel
theorem d_Md_next_88 : decode mm_Md_next.2.1 88 = .ok (.aload_n 0, 1) := by decide +kernel
theorem d_Md_next_89 : decode mm_Md_next.2.1 89 = .ok (.getfield 103, 3) := by decide +kernel
theorem d_Md_next_92 : decode mm_Md_next.2.1 92 = .ok (.invokevirtual 106, 3) := by decide +kernel
theorem d_Md_next_95 : decode mm_Md_next.2.1 95 = .ok (.invokestatic 120, 3) := by decide +kernel
theorem d_Md_next_98 : decode mm_Md_next.2.1 98 = .ok (.ifCond .eq 60, 3) := by decide +kernel
theorem d_Md_next_101 : decode mm_Md_next.2.1 101 = .ok (.aload_n 0, 1) := by decide +kernel
theorem d_Md_next_102 : decode mm_Md_next.2.1 102 = .ok (.aload_n 0, 1) := by decide +kernel
theorem d_Md_next_103 : decode mm_Md_next.2.1 103 = .ok (.getfield 103, 3) := by decide +kernel
theorem d_Md_next_106 : decode mm_Md_next.2.1 106 = .ok (.aload_n 0, 1) := by decide +kernel
theorem d_Md_next_107 : decode mm_Md_next.2.1 107 = .ok (.getfield 114, 3) := by decide +kernel
theorem d_Md_next_110 : decode mm_Md_next.2.1 110 = .ok (.isub, 1) := by decide +kernel
theorem d_Md_next_111 : decode mm_Md_next.2.1 111 = .ok (.bipush 9, 2) := by decide +kernel
theorem d_Md_next_113 : decode mm_Md_next.2.1 113 = .ok (.if_icmp .ge 28, 3) := by decide +kernel
theorem d_Md_next_116 : decode mm_Md_next.2.1 116 = .ok (.ldc2_w 127, 3) := by decide +kernel
theorem d_Md_next_119 : decode mm_Md_next.2.1 119 = .ok (.aload_n 0, 1) := by decide +kernel
theorem d_Md_next_120 : decode mm_Md_next.2.1 120 = .ok (.getfield 123, 3) := by decide +kernel
theorem d_Md_next_123 : decode mm_Md_next.2.1 123 = .ok (.lmul, 1) := by decide +kernel
theorem d_Md_next_124 : decode mm_Md_next.2.1 124 = .ok (.aload_n 0, 1) := by decide +kernel
theorem d_Md_next_125 : decode mm_Md_next.2.1 125 = .ok (.aload_n 0, 1) := by decide +kernel
theorem d_Md_next_126 : decode mm_Md_next.2.1 126 = .ok (.getfield 103, 3) := by decide +kernel
theorem d_Md_next_129 : decode mm_Md_next.2.1 129 = .ok (.invokevirtual 106, 3) := by decide +kernel
theorem d_Md_next_132 : decode mm_Md_next.2.1 132 = .ok (.i2l, 1) := by decide +kernel
theorem d_Md_next_133 : decode mm_Md_next.2.1 133 = .ok (.ladd, 1) := by decide +kernel
theorem d_Md_next_134 : decode mm_Md_next.2.1 134 = .ok (.ldc2_w 129, 3) := by decide +kernel
theorem d_Md_next_137 : decode mm_Md_next.2.1 137 = .ok (.lsub, 1) := by decide +kernel
theorem d_Md_next_138 : decode mm_Md_next.2.1 138 = .ok (.goto 4, 3) := by decide +kernel
theorem d_Md_next_141 : decode mm_Md_next.2.1 141 = .ok (.lconst 0, 1) := by decide +kernel
theorem d_Md_next_142 : decode mm_Md_next.2.1 142 = .ok (.putfield 123, 3) := by decide +kernel
theorem d_Md_next_145 : decode mm_Md_next.2.1 145 = .ok (.aload_n 0, 1) := by decide +kernel
theorem d_Md_next_146 : decode mm_Md_next.2.1 146 = .ok (.dup, 1) := by decide +kernel
theorem d_Md_next_147 : decode mm_Md_next.2.1 147 = .ok (.getfield 103, 3) := by decide +kernel
theorem d_Md_next_150 : decode mm_Md_next.2.1 150 = .ok (.iconst 1, 1) := by decide +kernel
theorem d_Md_next_151 : decode mm_Md_next.2.1 151 = .ok (.iadd, 1) := by decide +kernel
theorem d_Md_next_152 : decode mm_Md_next.2.1 152 = .ok (.putfield 103, 3) := by decide +kernel
theorem d_Md_next_155 : decode mm_Md_next.2.1 155 = .ok (.goto (-68), 3) := by decide +kernel
theorem d_Md_next_158 : decode mm_Md_next.2.1 158 = .ok (.aload_n 0, 1) := by decide +kernel
theorem d_Md_next_159 : decode mm_Md_next.2.1 159 = .ok (.aload_n 0, 1) := by decide +kernel
theorem d_Md_next_160 : decode mm_Md_next.2.1 160 = .ok (.getfield 103, 3) := by decide +kernel
theorem d_Md_next_163 : decode mm_Md_next.2.1 163 = .ok (.aload_n 0, 1) := by decide +kernel
theorem d_Md_next_164 : decode mm_Md_next.2.1 164 = .ok (.getfield 114, 3) := by decide +kernel
theorem d_Md_next_167 : decode mm_Md_next.2.1 167 = .ok (.isub, 1) := by decide +kernel
theorem d_Md_next_168 : decode mm_Md_next.2.1 168 = .ok (.bipush 9, 2) := by decide +kernel
theorem d_Md_next_170 : decode mm_Md_next.2.1 170 = .ok (.if_icmp .le 7, 3) := by decide +kernel
theorem d_Md_next_173 : decode mm_Md_next.2.1 173 = .ok (.iconst (-1), 1) := by decide +kernel
theorem d_Md_next_174 : decode mm_Md_next.2.1 174 = .ok (.goto 4, 3) := by decide +kernel
theorem d_Md_next_177 : decode mm_Md_next.2.1 177 = .ok (.iconst 0, 1) := by decide +kernel
theorem d_Md_next_178 : decode mm_Md_next.2.1 178 = .ok (.putfield 117, 3) := by decide +kernel
theorem d_Md_next_181 : decode mm_Md_next.2.1 181 = .ok (.goto 216, 3) := by decide +kernel
theorem d_Md_next_184 : decode mm_Md_next.2.1 184 = .ok (.iload_n 1, 1) := by decide +kernel
theorem d_Md_next_185 : decode mm_Md_next.2.1 185 = .ok (.invokestatic 131, 3) := by decide +kernel
theorem d_Md_next_188 : decode mm_Md_next.2.1 188 = .ok (.ifCond .eq 142, 3) := by decide +kernel
theorem d_Md_next_191 : decode mm_Md_next.2.1 191 = .ok (.aload_n 0, 1) := by decide +kernel
theorem d_Md_next_192 : decode mm_Md_next.2.1 192 = .ok (.lconst 0, 1) := by decide +kernel
theorem d_Md_next_193 : decode mm_Md_next.2.1 193 = .ok (.putfield 123, 3) := by decide +kernel
theorem d_Md_next_196 : decode mm_Md_next.2.1 196 = .ok (.aload_n 0, 1) := by decide +kernel
theorem d_Md_next_197 : decode mm_Md_next.2.1 197 = .ok (.aload_n 0, 1) := by decide +kernel
theorem d_Md_next_198 : decode mm_Md_next.2.1 198 = .ok (.getfield 103, 3) := by decide +kernel
theorem d_Md_next_201 : decode mm_Md_next.2.1 201 = .ok (.invokevirtual 106, 3) := by decide +kernel
theorem d_Md_next_204 : decode mm_Md_next.2.1 204 = .ok (.invokestatic 131, 3) := by decide +kernel
theorem d_Md_next_207 : decode mm_Md_next.2.1 207 = .ok (.ifCond .ne 17, 3) := by decide +kernel
theorem d_Md_next_210 : decode mm_Md_next.2.1 210 = .ok (.aload_n 0, 1) := by decide +kernel
theorem d_Md_next_211 : decode mm_Md_next.2.1 211 = .ok (.aload_n 0, 1) := by decide +kernel
theorem d_Md_next_212 : decode mm_Md_next.2.1 212 = .ok (.getfield 103, 3) := by decide +kernel
theorem d_Md_next_215 : decode mm_Md_next.2.1 215 = .ok (.invokevirtual 106, 3) := by decide +kernel
theorem d_Md_next_218 : decode mm_Md_next.2.1 218 = .ok (.invokestatic 120, 3) := by decide +kernel
theorem d_Md_next_221 : decode mm_Md_next.2.1 221 = .ok (.ifCond .eq 71, 3) := by decide +kernel
theorem d_Md_next_224 : decode mm_Md_next.2.1 224 = .ok (.aload_n 0, 1) := by decide +kernel
theorem d_Md_next_225 : decode mm_Md_next.2.1 225 = .ok (.aload_n 0, 1) := by decide +kernel
theorem d_Md_next_226 : decode mm_Md_next.2.1 226 = .ok (.getfield 103, 3) := by decide +kernel
theorem d_Md_next_229 : decode mm_Md_next.2.1 229 = .ok (.aload_n 0, 1) := by decide +kernel
theorem d_Md_next_230 : decode mm_Md_next.2.1 230 = .ok (.getfield 114, 3) := by decide +kernel
theorem d_Md_next_233 : decode mm_Md_next.2.1 233 = .ok (.isub, 1) := by decide +kernel
theorem d_Md_next_234 : decode mm_Md_next.2.1 234 = .ok (.bipush 8, 2) := by decide +kernel
theorem d_Md_next_236 : decode mm_Md_next.2.1 236 = .ok (.if_icmp .ge 36, 3) := by decide +kernel
theorem d_Md_next_239 : decode mm_Md_next.2.1 239 = .ok (.aload_n 0, 1) := by decide +kernel
theorem d_Md_next_240 : decode mm_Md_next.2.1 240 = .ok (.getfield 123, 3) := by decide +kernel
theorem d_Md_next_243 : decode mm_Md_next.2.1 243 = .ok (.aload_n 0, 1) := by decide +kernel
theorem d_Md_next_244 : decode mm_Md_next.2.1 244 = .ok (.aload_n 0, 1) := by decide +kernel
theorem d_Md_next_245 : decode mm_Md_next.2.1 245 = .ok (.getfield 103, 3) := by decide +kernel
theorem d_Md_next_248 : decode mm_Md_next.2.1 248 = .ok (.invokevirtual 106, 3) := by decide +kernel
theorem d_Md_next_251 : decode mm_Md_next.2.1 251 = .ok (.i2l, 1) := by decide +kernel
theorem d_Md_next_252 : decode mm_Md_next.2.1 252 = .ok (.bipush 56, 2) := by decide +kernel
theorem d_Md_next_254 : decode mm_Md_next.2.1 254 = .ok (.bipush 8, 2) := by decide +kernel
theorem d_Md_next_256 : decode mm_Md_next.2.1 256 = .ok (.aload_n 0, 1) := by decide +kernel
theorem d_Md_next_257 : decode mm_Md_next.2.1 257 = .ok (.getfield 103, 3) := by decide +kernel
theorem d_Md_next_260 : decode mm_Md_next.2.1 260 = .ok (.aload_n 0, 1) := by decide +kernel
theorem d_Md_next_261 : decode mm_Md_next.2.1 261 = .ok (.getfield 114, 3) := by decide +kernel
theorem d_Md_next_264 : decode mm_Md_next.2.1 264 = .ok (.isub, 1) := by decide +kernel
theorem d_Md_next_265 : decode mm_Md_next.2.1 265 = .ok (.imul, 1) := by decide +kernel
theorem d_Md_next_266 : decode mm_Md_next.2.1 266 = .ok (.isub, 1) := by decide +kernel
theorem d_Md_next_267 : decode mm_Md_next.2.1 267 = .ok (.lshl, 1) := by decide +kernel
theorem d_Md_next_268 : decode mm_Md_next.2.1 268 = .ok (.lor, 1) := by decide +kernel
theorem d_Md_next_269 : decode mm_Md_next.2.1 269 = .ok (.goto 7, 3) := by decide +kernel
theorem d_Md_next_272 : decode mm_Md_next.2.1 272 = .ok (.aload_n 0, 1) := by decide +kernel
theorem d_Md_next_273 : decode mm_Md_next.2.1 273 = .ok (.getfield 123, 3) := by decide +kernel
theorem d_Md_next_276 : decode mm_Md_next.2.1 276 = .ok (.putfield 123, 3) := by decide +kernel
theorem d_Md_next_279 : decode mm_Md_next.2.1 279 = .ok (.aload_n 0, 1) := by decide +kernel
theorem d_Md_next_280 : decode mm_Md_next.2.1 280 = .ok (.dup, 1) := by decide +kernel
theorem d_Md_next_281 : decode mm_Md_next.2.1 281 = .ok (.getfield 103, 3) := by decide +kernel
theorem d_Md_next_284 : decode mm_Md_next.2.1 284 = .ok (.iconst 1, 1) := by decide +kernel
theorem d_Md_next_285 : decode mm_Md_next.2.1 285 = .ok (.iadd, 1) := by decide +kernel
theorem d_Md_next_286 : decode mm_Md_next.2.1 286 = .ok (.putfield 103, 3) := by decide +kernel
theorem d_Md_next_289 : decode mm_Md_next.2.1 289 = .ok (.goto (-93), 3) := by decide +kernel
theorem d_Md_next_292 : decode mm_Md_next.2.1 292 = .ok (.aload_n 0, 1) := by decide +kernel
theorem d_Md_next_293 : decode mm_Md_next.2.1 293 = .ok (.aload_n 0, 1) := by decide +kernel
theorem d_Md_next_294 : decode mm_Md_next.2.1 294 = .ok (.getfield 103, 3) := by decide +kernel
theorem d_Md_next_297 : decode mm_Md_next.2.1 297 = .ok (.aload_n 0, 1) := by decide +kernel
theorem d_Md_next_298 : decode mm_Md_next.2.1 298 = .ok (.getfield 114, 3) := by decide +kernel
theorem d_Md_next_301 : decode mm_Md_next.2.1 301 = .ok (.isub, 1) := by decide +kernel
theorem d_Md_next_302 : decode mm_Md_next.2.1 302 = .ok (.bipush 8, 2) := by decide +kernel
theorem d_Md_next_304 : decode mm_Md_next.2.1 304 = .ok (.if_icmp .le 7, 3) := by decide +kernel
theorem d_Md_next_307 : decode mm_Md_next.2.1 307 = .ok (.iconst (-1), 1) := by decide +kernel
theorem d_Md_next_308 : decode mm_Md_next.2.1 308 = .ok (.goto 16, 3) := by decide +kernel
theorem d_Md_next_311 : decode mm_Md_next.2.1 311 = .ok (.aload_n 0, 1) := by decide +kernel
theorem d_Md_next_312 : decode mm_Md_next.2.1 312 = .ok (.invokevirtual 134, 3) := by decide +kernel
theorem d_Md_next_315 : decode mm_Md_next.2.1 315 = .ok (.ifCond .le 8, 3) := by decide +kernel
theorem d_Md_next_318 : decode mm_Md_next.2.1 318 = .ok (.bipush (-3), 2) := by decide +kernel
theorem d_Md_next_320 : decode mm_Md_next.2.1 320 = .ok (.goto 4, 3) := by decide +kernel
theorem d_Md_next_323 : decode mm_Md_next.2.1 323 = .ok (.iconst 1, 1) := by decide +kernel
theorem d_Md_next_324 : decode mm_Md_next.2.1 324 = .ok (.putfield 117, 3) := by decide +kernel
theorem d_Md_next_327 : decode mm_Md_next.2.1 327 = .ok (.goto 70, 3) := by decide +kernel
theorem d_Md_next_330 : decode mm_Md_next.2.1 330 = .ok (.aload_n 0, 1) := by decide +kernel
theorem d_Md_next_331 : decode mm_Md_next.2.1 331 = .ok (.dup, 1) := by decide +kernel
theorem d_Md_next_332 : decode mm_Md_next.2.1 332 = .ok (.getfield 103, 3) := by decide +kernel
theorem d_Md_next_335 : decode mm_Md_next.2.1 335 = .ok (.iconst 1, 1) := by decide +kernel
theorem d_Md_next_336 : decode mm_Md_next.2.1 336 = .ok (.iadd, 1) := by decide +kernel
theorem d_Md_next_337 : decode mm_Md_next.2.1 337 = .ok (.putfield 103, 3) := by decide +kernel
theorem d_Md_next_340 : decode mm_Md_next.2.1 340 = .ok (.aload_n 0, 1) := by decide +kernel
theorem d_Md_next_341 : decode mm_Md_next.2.1 341 = .ok (.iload_n 1, 1) := by decide +kernel
theorem d_Md_next_342 : decode mm_Md_next.2.1 342 = .ok (.bipush 61, 2) := by decide +kernel
theorem d_Md_next_344 : decode mm_Md_next.2.1 344 = .ok (.if_icmp .eq 45, 3) := by decide +kernel
theorem d_Md_next_347 : decode mm_Md_next.2.1 347 = .ok (.iload_n 1, 1) := by decide +kernel
theorem d_Md_next_348 : decode mm_Md_next.2.1 348 = .ok (.bipush 43, 2) := by decide +kernel
theorem d_Md_next_350 : decode mm_Md_next.2.1 350 = .ok (.if_icmp .eq 39, 3) := by decide +kernel
theorem d_Md_next_353 : decode mm_Md_next.2.1 353 = .ok (.iload_n 1, 1) := by decide +kernel
theorem d_Md_next_354 : decode mm_Md_next.2.1 354 = .ok (.bipush 45, 2) := by decide +kernel
theorem d_Md_next_356 : decode mm_Md_next.2.1 356 = .ok (.if_icmp .eq 33, 3) := by decide +kernel
theorem d_Md_next_359 : decode mm_Md_next.2.1 359 = .ok (.iload_n 1, 1) := by decide +kernel
theorem d_Md_next_360 : decode mm_Md_next.2.1 360 = .ok (.bipush 42, 2) := by decide +kernel
theorem d_Md_next_362 : decode mm_Md_next.2.1 362 = .ok (.if_icmp .eq 27, 3) := by decide +kernel
theorem d_Md_next_365 : decode mm_Md_next.2.1 365 = .ok (.iload_n 1, 1) := by decide +kernel
theorem d_Md_next_366 : decode mm_Md_next.2.1 366 = .ok (.bipush 47, 2) := by decide +kernel
theorem d_Md_next_368 : decode mm_Md_next.2.1 368 = .ok (.if_icmp .eq 21, 3) := by decide +kernel
theorem d_Md_next_371 : decode mm_Md_next.2.1 371 = .ok (.iload_n 1, 1) := by decide +kernel
theorem d_Md_next_372 : decode mm_Md_next.2.1 372 = .ok (.bipush 40, 2) := by decide +kernel
theorem d_Md_next_374 : decode mm_Md_next.2.1 374 = .ok (.if_icmp .eq 15, 3) := by decide +kernel
theorem d_Md_next_377 : decode mm_Md_next.2.1 377 = .ok (.iload_n 1, 1) := by decide +kernel
theorem d_Md_next_378 : decode mm_Md_next.2.1 378 = .ok (.bipush 41, 2) := by decide +kernel
theorem d_Md_next_380 : decode mm_Md_next.2.1 380 = .ok (.if_icmp .eq 9, 3) := by decide +kernel
theorem d_Md_next_383 : decode mm_Md_next.2.1 383 = .ok (.iload_n 1, 1) := by decide +kernel
theorem d_Md_next_384 : decode mm_Md_next.2.1 384 = .ok (.bipush 44, 2) := by decide +kernel
theorem d_Md_next_386 : decode mm_Md_next.2.1 386 = .ok (.if_icmp .ne 7, 3) := by decide +kernel
theorem d_Md_next_389 : decode mm_Md_next.2.1 389 = .ok (.iload_n 1, 1) := by decide +kernel
theorem d_Md_next_390 : decode mm_Md_next.2.1 390 = .ok (.goto 4, 3) := by decide +kernel
theorem d_Md_next_393 : decode mm_Md_next.2.1 393 = .ok (.iconst (-1), 1) := by decide +kernel
theorem d_Md_next_394 : decode mm_Md_next.2.1 394 = .ok (.putfield 117, 3) := by decide +kernel
theorem d_Md_next_397 : decode mm_Md_next.2.1 397 = .ok (.return_, 1) := by decide +kernel
theorem d_Md_at_0 : decode mm_Md_at.2.1 0 = .ok (.iload_n 1, 1) := by decide +kernel
theorem d_Md_at_1 : decode mm_Md_at.2.1 1 = .ok (.aload_n 0, 1) := by decide +kernel
theorem d_Md_at_2 : decode mm_Md_at.2.1 2 = .ok (.getfield 100, 3) := by decide +kernel
theorem d_Md_at_5 : decode mm_Md_at.2.1 5 = .ok (.if_icmp .ge 12, 3) := by decide +kernel
theorem d_Md_at_8 : decode mm_Md_at.2.1 8 = .ok (.aload_n 0, 1) := by decide +kernel
theorem d_Md_at_9 : decode mm_Md_at.2.1 9 = .ok (.getfield 7, 3) := by decide +kernel
theorem d_Md_at_12 : decode mm_Md_at.2.1 12 = .ok (.iload_n 1, 1) := by decide +kernel
theorem d_Md_at_13 : decode mm_Md_at.2.1 13 = .ok (.iaload, 1) := by decide +kernel
theorem d_Md_at_14 : decode mm_Md_at.2.1 14 = .ok (.goto 4, 3) := by decide +kernel
theorem d_Md_at_17 : decode mm_Md_at.2.1 17 = .ok (.iconst 0, 1) := by decide +kernel
theorem d_Md_at_18 : decode mm_Md_at.2.1 18 = .ok (.ireturn, 1) := by decide +kernel
theorem d_Md_isBlank_0 : decode mm_Md_isBlank.2.1 0 = .ok (.iload_n 0, 1) := by decide +kernel
theorem d_Md_isBlank_1 : decode mm_Md_isBlank.2.1 1 = .ok (.bipush 32, 2) := by decide +kernel
theorem d_Md_isBlank_3 : decode mm_Md_isBlank.2.1 3 = .ok (.if_icmp .eq 21, 3) := by decide +kernel
theorem d_Md_isBlank_6 : decode mm_Md_isBlank.2.1 6 = .ok (.iload_n 0, 1) := by decide +kernel
theorem d_Md_isBlank_7 : decode mm_Md_isBlank.2.1 7 = .ok (.bipush 9, 2) := by decide +kernel
theorem d_Md_isBlank_9 : decode mm_Md_isBlank.2.1 9 = .ok (.if_icmp .eq 15, 3) := by decide +kernel
theorem d_Md_isBlank_12 : decode mm_Md_isBlank.2.1 12 = .ok (.iload_n 0, 1) := by decide +kernel
theorem d_Md_isBlank_13 : decode mm_Md_isBlank.2.1 13 = .ok (.bipush 10, 2) := by decide +kernel
theorem d_Md_isBlank_15 : decode mm_Md_isBlank.2.1 15 = .ok (.if_icmp .eq 9, 3) := by decide +kernel
theorem d_Md_isBlank_18 : decode mm_Md_isBlank.2.1 18 = .ok (.iload_n 0, 1) := by decide +kernel
theorem d_Md_isBlank_19 : decode mm_Md_isBlank.2.1 19 = .ok (.bipush 13, 2) := by decide +kernel
theorem d_Md_isBlank_21 : decode mm_Md_isBlank.2.1 21 = .ok (.if_icmp .ne 7, 3) := by decide +kernel
theorem d_Md_isBlank_24 : decode mm_Md_isBlank.2.1 24 = .ok (.iconst 1, 1) := by decide +kernel
theorem d_Md_isBlank_25 : decode mm_Md_isBlank.2.1 25 = .ok (.goto 4, 3) := by decide +kernel
theorem d_Md_isBlank_28 : decode mm_Md_isBlank.2.1 28 = .ok (.iconst 0, 1) := by decide +kernel
theorem d_Md_isBlank_29 : decode mm_Md_isBlank.2.1 29 = .ok (.ireturn, 1) := by decide +kernel
theorem d_Md_isDigit_0 : decode mm_Md_isDigit.2.1 0 = .ok (.iload_n 0, 1) := by decide +kernel
theorem d_Md_isDigit_1 : decode mm_Md_isDigit.2.1 1 = .ok (.bipush 47, 2) := by decide +kernel
theorem d_Md_isDigit_3 : decode mm_Md_isDigit.2.1 3 = .ok (.if_icmp .le 13, 3) := by decide +kernel
theorem d_Md_isDigit_6 : decode mm_Md_isDigit.2.1 6 = .ok (.iload_n 0, 1) := by decide +kernel
theorem d_Md_isDigit_7 : decode mm_Md_isDigit.2.1 7 = .ok (.bipush 58, 2) := by decide +kernel
theorem d_Md_isDigit_9 : decode mm_Md_isDigit.2.1 9 = .ok (.if_icmp .ge 7, 3) := by decide +kernel
theorem d_Md_isDigit_12 : decode mm_Md_isDigit.2.1 12 = .ok (.iconst 1, 1) := by decide +kernel
theorem d_Md_isDigit_13 : decode mm_Md_isDigit.2.1 13 = .ok (.goto 4, 3) := by decide +kernel
theorem d_Md_isDigit_16 : decode mm_Md_isDigit.2.1 16 = .ok (.iconst 0, 1) := by decide +kernel
theorem d_Md_isDigit_17 : decode mm_Md_isDigit.2.1 17 = .ok (.ireturn, 1) := by decide +kernel
theorem d_Md_isLetter_0 : decode mm_Md_isLetter.2.1 0 = .ok (.iload_n 0, 1) := by decide +kernel
theorem d_Md_isLetter_1 : decode mm_Md_isLetter.2.1 1 = .ok (.bipush 64, 2) := by decide +kernel
theorem d_Md_isLetter_3 : decode mm_Md_isLetter.2.1 3 = .ok (.if_icmp .le 9, 3) := by decide +kernel
theorem d_Md_isLetter_6 : decode mm_Md_isLetter.2.1 6 = .ok (.iload_n 0, 1) := by decide +kernel
theorem d_Md_isLetter_7 : decode mm_Md_isLetter.2.1 7 = .ok (.bipush 91, 2) := by decide +kernel
theorem d_Md_isLetter_9 : decode mm_Md_isLetter.2.1 9 = .ok (.if_icmp .lt 15, 3) := by decide +kernel
theorem d_Md_isLetter_12 : decode mm_Md_isLetter.2.1 12 = .ok (.iload_n 0, 1) := by decide +kernel
theorem d_Md_isLetter_13 : decode mm_Md_isLetter.2.1 13 = .ok (.bipush 96, 2) := by decide +kernel
theorem d_Md_isLetter_15 : decode mm_Md_isLetter.2.1 15 = .ok (.if_icmp .le 13, 3) := by decide +kernel
theorem d_Md_isLetter_18 : decode mm_Md_isLetter.2.1 18 = .ok (.iload_n 0, 1) := by decide +kernel
theorem d_Md_isLetter_19 : decode mm_Md_isLetter.2.1 19 = .ok (.bipush 123, 2) := by decide +kernel
theorem d_Md_isLetter_21 : decode mm_Md_isLetter.2.1 21 = .ok (.if_icmp .ge 7, 3) := by decide +kernel
theorem d_Md_isLetter_24 : decode mm_Md_isLetter.2.1 24 = .ok (.iconst 1, 1) := by decide +kernel
theorem d_Md_isLetter_25 : decode mm_Md_isLetter.2.1 25 = .ok (.goto 4, 3) := by decide +kernel
theorem d_Md_isLetter_28 : decode mm_Md_isLetter.2.1 28 = .ok (.iconst 0, 1) := by decide +kernel
theorem d_Md_isLetter_29 : decode mm_Md_isLetter.2.1 29 = .ok (.ireturn, 1) := by decide +kernel
theorem d_Md_function_0 : decode mm_Md_function.2.1 0 = .ok (.aload_n 0, 1) := by decide +kernel
theorem d_Md_function_1 : decode mm_Md_function.2.1 1 = .ok (.getfield 123, 3) := by decide +kernel
theorem d_Md_function_4 : decode mm_Md_function.2.1 4 = .ok (.ldc2_w 138, 3) := by decide +kernel
theorem d_Md_function_7 : decode mm_Md_function.2.1 7 = .ok (.lcmp, 1) := by decide +kernel
theorem d_Md_function_8 : decode mm_Md_function.2.1 8 = .ok (.ifCond .ne 8, 3) := by decide +kernel
theorem d_Md_function_11 : decode mm_Md_function.2.1 11 = .ok (.bipush 7, 2) := by decide +kernel
theorem d_Md_function_13 : decode mm_Md_function.2.1 13 = .ok (.goto 36, 3) := by decide +kernel
theorem d_Md_function_16 : decode mm_Md_function.2.1 16 = .ok (.aload_n 0, 1) := by decide +kernel
theorem d_Md_function_17 : decode mm_Md_function.2.1 17 = .ok (.getfield 123, 3) := by decide +kernel
theorem d_Md_function_20 : decode mm_Md_function.2.1 20 = .ok (.ldc2_w 140, 3) := by decide +kernel
theorem d_Md_function_23 : decode mm_Md_function.2.1 23 = .ok (.lcmp, 1) := by decide +kernel
theorem d_Md_function_24 : decode mm_Md_function.2.1 24 = .ok (.ifCond .ne 8, 3) := by decide +kernel
theorem d_Md_function_27 : decode mm_Md_function.2.1 27 = .ok (.bipush 8, 2) := by decide +kernel
theorem d_Md_function_29 : decode mm_Md_function.2.1 29 = .ok (.goto 20, 3) := by decide +kernel
theorem d_Md_function_32 : decode mm_Md_function.2.1 32 = .ok (.aload_n 0, 1) := by decide +kernel
theorem d_Md_function_33 : decode mm_Md_function.2.1 33 = .ok (.getfield 123, 3) := by decide +kernel
theorem d_Md_function_36 : decode mm_Md_function.2.1 36 = .ok (.ldc2_w 142, 3) := by decide +kernel
theorem d_Md_function_39 : decode mm_Md_function.2.1 39 = .ok (.lcmp, 1) := by decide +kernel
theorem d_Md_function_40 : decode mm_Md_function.2.1 40 = .ok (.ifCond .ne 8, 3) := by decide +kernel
theorem d_Md_function_43 : decode mm_Md_function.2.1 43 = .ok (.bipush 9, 2) := by decide +kernel
theorem d_Md_function_45 : decode mm_Md_function.2.1 45 = .ok (.goto 4, 3) := by decide +kernel
theorem d_Md_function_48 : decode mm_Md_function.2.1 48 = .ok (.iconst 0, 1) := by decide +kernel
theorem d_Md_function_49 : decode mm_Md_function.2.1 49 = .ok (.ireturn, 1) := by decide +kernel
theorem d_Md_wrong_0 : decode mm_Md_wrong.2.1 0 = .ok (.aload_n 0, 1) := by decide +kernel
theorem d_Md_wrong_1 : decode mm_Md_wrong.2.1 1 = .ok (.aload_n 0, 1) := by decide +kernel
theorem d_Md_wrong_2 : decode mm_Md_wrong.2.1 2 = .ok (.getfield 117, 3) := by decide +kernel
theorem d_Md_wrong_5 : decode mm_Md_wrong.2.1 5 = .ok (.iconst (-1), 1) := by decide +kernel
theorem d_Md_wrong_6 : decode mm_Md_wrong.2.1 6 = .ok (.if_icmp .ne 7, 3) := by decide +kernel
theorem d_Md_wrong_9 : decode mm_Md_wrong.2.1 9 = .ok (.iconst 1, 1) := by decide +kernel
theorem d_Md_wrong_10 : decode mm_Md_wrong.2.1 10 = .ok (.goto 4, 3) := by decide +kernel
theorem d_Md_wrong_13 : decode mm_Md_wrong.2.1 13 = .ok (.iconst 2, 1) := by decide +kernel
theorem d_Md_wrong_14 : decode mm_Md_wrong.2.1 14 = .ok (.aload_n 0, 1) := by decide +kernel
theorem d_Md_wrong_15 : decode mm_Md_wrong.2.1 15 = .ok (.getfield 114, 3) := by decide +kernel
theorem d_Md_wrong_18 : decode mm_Md_wrong.2.1 18 = .ok (.invokevirtual 150, 3) := by decide +kernel
theorem d_Md_wrong_21 : decode mm_Md_wrong.2.1 21 = .ok (.return_, 1) := by decide +kernel
theorem d_Md_fail_0 : decode mm_Md_fail.2.1 0 = .ok (.aload_n 0, 1) := by decide +kernel
theorem d_Md_fail_1 : decode mm_Md_fail.2.1 1 = .ok (.getfield 144, 3) := by decide +kernel
theorem d_Md_fail_4 : decode mm_Md_fail.2.1 4 = .ok (.ifCond .ne 13, 3) := by decide +kernel
theorem d_Md_fail_7 : decode mm_Md_fail.2.1 7 = .ok (.aload_n 0, 1) := by decide +kernel
theorem d_Md_fail_8 : decode mm_Md_fail.2.1 8 = .ok (.iload_n 1, 1) := by decide +kernel
theorem d_Md_fail_9 : decode mm_Md_fail.2.1 9 = .ok (.putfield 144, 3) := by decide +kernel
theorem d_Md_fail_12 : decode mm_Md_fail.2.1 12 = .ok (.aload_n 0, 1) := by decide +kernel
theorem d_Md_fail_13 : decode mm_Md_fail.2.1 13 = .ok (.iload_n 2, 1) := by decide +kernel
theorem d_Md_fail_14 : decode mm_Md_fail.2.1 14 = .ok (.putfield 147, 3) := by decide +kernel
theorem d_Md_fail_17 : decode mm_Md_fail.2.1 17 = .ok (.return_, 1) := by decide +kernel
theorem d_Md_formula_0 : decode mm_Md_formula.2.1 0 = .ok (.aload_n 0, 1) := by decide +kernel
theorem d_Md_formula_1 : decode mm_Md_formula.2.1 1 = .ok (.iconst 0, 1) := by decide +kernel
theorem d_Md_formula_2 : decode mm_Md_formula.2.1 2 = .ok (.putfield 154, 3) := by decide +kernel
theorem d_Md_formula_5 : decode mm_Md_formula.2.1 5 = .ok (.aload_n 0, 1) := by decide +kernel
theorem d_Md_formula_6 : decode mm_Md_formula.2.1 6 = .ok (.iconst 0, 1) := by decide +kernel
theorem d_Md_formula_7 : decode mm_Md_formula.2.1 7 = .ok (.putfield 157, 3) := by decide +kernel
theorem d_Md_formula_10 : decode mm_Md_formula.2.1 10 = .ok (.aload_n 0, 1) := by decide +kernel
theorem d_Md_formula_11 : decode mm_Md_formula.2.1 11 = .ok (.iconst 0, 1) := by decide +kernel
theorem d_Md_formula_12 : decode mm_Md_formula.2.1 12 = .ok (.putfield 166, 3) := by decide +kernel
theorem d_Md_formula_15 : decode mm_Md_formula.2.1 15 = .ok (.aload_n 0, 1) := by decide +kernel
theorem d_Md_formula_16 : decode mm_Md_formula.2.1 16 = .ok (.iconst 0, 1) := by decide +kernel
theorem d_Md_formula_17 : decode mm_Md_formula.2.1 17 = .ok (.putfield 169, 3) := by decide +kernel
theorem d_Md_formula_20 : decode mm_Md_formula.2.1 20 = .ok (.iconst 1, 1) := by decide +kernel
theorem d_Md_formula_21 : decode mm_Md_formula.2.1 21 = .ok (.istore_n 1, 1) := by decide +kernel
theorem d_Md_formula_22 : decode mm_Md_formula.2.1 22 = .ok (.aload_n 0, 1) := by decide +kernel
theorem d_Md_formula_23 : decode mm_Md_formula.2.1 23 = .ok (.getfield 144, 3) := by decide +kernel
theorem d_Md_formula_26 : decode mm_Md_formula.2.1 26 = .ok (.ifCond .ne 51, 3) := by decide +kernel
theorem d_Md_formula_29 : decode mm_Md_formula.2.1 29 = .ok (.iload_n 1, 1) := by decide +kernel
theorem d_Md_formula_30 : decode mm_Md_formula.2.1 30 = .ok (.ifCond .ne 19, 3) := by decide +kernel
theorem d_Md_formula_33 : decode mm_Md_formula.2.1 33 = .ok (.aload_n 0, 1) := by decide +kernel
theorem d_Md_formula_34 : decode mm_Md_formula.2.1 34 = .ok (.getfield 117, 3) := by decide +kernel
theorem d_Md_formula_37 : decode mm_Md_formula.2.1 37 = .ok (.bipush (-2), 2) := by decide +kernel
theorem d_Md_formula_39 : decode mm_Md_formula.2.1 39 = .ok (.if_icmp .ne 10, 3) := by decide +kernel
theorem d_Md_formula_42 : decode mm_Md_formula.2.1 42 = .ok (.aload_n 0, 1) := by decide +kernel
theorem d_Md_formula_43 : decode mm_Md_formula.2.1 43 = .ok (.getfield 157, 3) := by decide +kernel
theorem d_Md_formula_46 : decode mm_Md_formula.2.1 46 = .ok (.ifCond .le 31, 3) := by decide +kernel
theorem d_Md_formula_49 : decode mm_Md_formula.2.1 49 = .ok (.iload_n 1, 1) := by decide +kernel
theorem d_Md_formula_50 : decode mm_Md_formula.2.1 50 = .ok (.ifCond .eq 19, 3) := by decide +kernel
theorem d_Md_formula_53 : decode mm_Md_formula.2.1 53 = .ok (.aload_n 0, 1) := by decide +kernel
theorem d_Md_formula_54 : decode mm_Md_formula.2.1 54 = .ok (.invokevirtual 198, 3) := by decide +kernel
theorem d_Md_formula_57 : decode mm_Md_formula.2.1 57 = .ok (.ifCond .ne 7, 3) := by decide +kernel
theorem d_Md_formula_60 : decode mm_Md_formula.2.1 60 = .ok (.iconst 1, 1) := by decide +kernel
theorem d_Md_formula_61 : decode mm_Md_formula.2.1 61 = .ok (.goto 4, 3) := by decide +kernel
theorem d_Md_formula_64 : decode mm_Md_formula.2.1 64 = .ok (.iconst 0, 1) := by decide +kernel
theorem d_Md_formula_65 : decode mm_Md_formula.2.1 65 = .ok (.istore_n 1, 1) := by decide +kernel
theorem d_Md_formula_66 : decode mm_Md_formula.2.1 66 = .ok (.goto (-44), 3) := by decide +kernel
theorem d_Md_formula_69 : decode mm_Md_formula.2.1 69 = .ok (.aload_n 0, 1) := by decide +kernel
theorem d_Md_formula_70 : decode mm_Md_formula.2.1 70 = .ok (.invokevirtual 202, 3) := by decide +kernel
theorem d_Md_formula_73 : decode mm_Md_formula.2.1 73 = .ok (.istore_n 1, 1) := by decide +kernel
theorem d_Md_formula_74 : decode mm_Md_formula.2.1 74 = .ok (.goto (-52), 3) := by decide +kernel
theorem d_Md_formula_77 : decode mm_Md_formula.2.1 77 = .ok (.return_, 1) := by decide +kernel
theorem d_Md_part_0 : decode mm_Md_part.2.1 0 = .ok (.aload_n 0, 1) := by decide +kernel
theorem d_Md_part_1 : decode mm_Md_part.2.1 1 = .ok (.getfield 117, 3) := by decide +kernel
theorem d_Md_part_4 : decode mm_Md_part.2.1 4 = .ok (.ifCond .eq 11, 3) := by decide +kernel
theorem d_Md_part_7 : decode mm_Md_part.2.1 7 = .ok (.aload_n 0, 1) := by decide +kernel
theorem d_Md_part_8 : decode mm_Md_part.2.1 8 = .ok (.getfield 117, 3) := by decide +kernel
theorem d_Md_part_11 : decode mm_Md_part.2.1 11 = .ok (.iconst 1, 1) := by decide +kernel
theorem d_Md_part_12 : decode mm_Md_part.2.1 12 = .ok (.if_icmp .ne 45, 3) := by decide +kernel
theorem d_Md_part_15 : decode mm_Md_part.2.1 15 = .ok (.aload_n 0, 1) := by decide +kernel
theorem d_Md_part_16 : decode mm_Md_part.2.1 16 = .ok (.getfield 84, 3) := by decide +kernel
theorem d_Md_part_19 : decode mm_Md_part.2.1 19 = .ok (.aload_n 0, 1) := by decide +kernel
theorem d_Md_part_20 : decode mm_Md_part.2.1 20 = .ok (.getfield 166, 3) := by decide +kernel
theorem d_Md_part_23 : decode mm_Md_part.2.1 23 = .ok (.aload_n 0, 1) := by decide +kernel
theorem d_Md_part_24 : decode mm_Md_part.2.1 24 = .ok (.aload_n 0, 1) := by decide +kernel
theorem d_Md_part_25 : decode mm_Md_part.2.1 25 = .ok (.getfield 117, 3) := by decide +kernel
theorem d_Md_part_28 : decode mm_Md_part.2.1 28 = .ok (.aload_n 0, 1) := by decide +kernel
theorem d_Md_part_29 : decode mm_Md_part.2.1 29 = .ok (.getfield 123, 3) := by decide +kernel
theorem d_Md_part_32 : decode mm_Md_part.2.1 32 = .ok (.invokevirtual 172, 3) := by decide +kernel
theorem d_Md_part_35 : decode mm_Md_part.2.1 35 = .ok (.iastore, 1) := by decide +kernel
theorem d_Md_part_36 : decode mm_Md_part.2.1 36 = .ok (.aload_n 0, 1) := by decide +kernel
theorem d_Md_part_37 : decode mm_Md_part.2.1 37 = .ok (.dup, 1) := by decide +kernel
theorem d_Md_part_38 : decode mm_Md_part.2.1 38 = .ok (.getfield 166, 3) := by decide +kernel
theorem d_Md_part_41 : decode mm_Md_part.2.1 41 = .ok (.iconst 1, 1) := by decide +kernel
theorem d_Md_part_42 : decode mm_Md_part.2.1 42 = .ok (.iadd, 1) := by decide +kernel
theorem d_Md_part_43 : decode mm_Md_part.2.1 43 = .ok (.putfield 166, 3) := by decide +kernel
theorem d_Md_part_46 : decode mm_Md_part.2.1 46 = .ok (.aload_n 0, 1) := by decide +kernel
theorem d_Md_part_47 : decode mm_Md_part.2.1 47 = .ok (.invokevirtual 176, 3) := by decide +kernel
theorem d_Md_part_50 : decode mm_Md_part.2.1 50 = .ok (.aload_n 0, 1) := by decide +kernel
theorem d_Md_part_51 : decode mm_Md_part.2.1 51 = .ok (.iconst 3, 1) := by decide +kernel
theorem d_Md_part_52 : decode mm_Md_part.2.1 52 = .ok (.invokevirtual 179, 3) := by decide +kernel
theorem d_Md_part_55 : decode mm_Md_part.2.1 55 = .ok (.iconst 1, 1) := by decide +kernel
theorem d_Md_part_56 : decode mm_Md_part.2.1 56 = .ok (.ireturn, 1) := by decide +kernel
theorem d_Md_part_57 : decode mm_Md_part.2.1 57 = .ok (.aload_n 0, 1) := by decide +kernel
theorem d_Md_part_58 : decode mm_Md_part.2.1 58 = .ok (.getfield 117, 3) := by decide +kernel
theorem d_Md_part_61 : decode mm_Md_part.2.1 61 = .ok (.bipush 45, 2) := by decide +kernel
theorem d_Md_part_63 : decode mm_Md_part.2.1 63 = .ok (.if_icmp .ne 27, 3) := by decide +kernel
theorem d_Md_part_66 : decode mm_Md_part.2.1 66 = .ok (.aload_n 0, 1) := by decide +kernel
theorem d_Md_part_67 : decode mm_Md_part.2.1 67 = .ok (.bipush 6, 2) := by decide +kernel
theorem d_Md_part_69 : decode mm_Md_part.2.1 69 = .ok (.lconst 0, 1) := by decide +kernel
theorem d_Md_part_70 : decode mm_Md_part.2.1 70 = .ok (.invokevirtual 172, 3) := by decide +kernel
theorem d_Md_part_73 : decode mm_Md_part.2.1 73 = .ok (.istore_n 1, 1) := by decide +kernel
theorem d_Md_part_74 : decode mm_Md_part.2.1 74 = .ok (.aload_n 0, 1) := by decide +kernel
theorem d_Md_part_75 : decode mm_Md_part.2.1 75 = .ok (.invokevirtual 183, 3) := by decide +kernel
theorem d_Md_part_78 : decode mm_Md_part.2.1 78 = .ok (.aload_n 0, 1) := by decide +kernel
theorem d_Md_part_79 : decode mm_Md_part.2.1 79 = .ok (.iload_n 1, 1) := by decide +kernel
theorem d_Md_part_80 : decode mm_Md_part.2.1 80 = .ok (.invokevirtual 186, 3) := by decide +kernel
theorem d_Md_part_83 : decode mm_Md_part.2.1 83 = .ok (.aload_n 0, 1) := by decide +kernel
theorem d_Md_part_84 : decode mm_Md_part.2.1 84 = .ok (.invokevirtual 176, 3) := by decide +kernel
theorem d_Md_part_87 : decode mm_Md_part.2.1 87 = .ok (.goto 93, 3) := by decide +kernel
theorem d_Md_part_90 : decode mm_Md_part.2.1 90 = .ok (.aload_n 0, 1) := by decide +kernel
theorem d_Md_part_91 : decode mm_Md_part.2.1 91 = .ok (.getfield 117, 3) := by decide +kernel
theorem d_Md_part_94 : decode mm_Md_part.2.1 94 = .ok (.bipush 40, 2) := by decide +kernel
theorem d_Md_part_96 : decode mm_Md_part.2.1 96 = .ok (.if_icmp .ne 19, 3) := by decide +kernel
theorem d_Md_part_99 : decode mm_Md_part.2.1 99 = .ok (.aload_n 0, 1) := by decide +kernel
theorem d_Md_part_100 : decode mm_Md_part.2.1 100 = .ok (.invokevirtual 183, 3) := by decide +kernel
theorem d_Md_part_103 : decode mm_Md_part.2.1 103 = .ok (.aload_n 0, 1) := by decide +kernel
theorem d_Md_part_104 : decode mm_Md_part.2.1 104 = .ok (.iconst (-1), 1) := by decide +kernel
theorem d_Md_part_105 : decode mm_Md_part.2.1 105 = .ok (.invokevirtual 186, 3) := by decide +kernel
theorem d_Md_part_108 : decode mm_Md_part.2.1 108 = .ok (.aload_n 0, 1) := by decide +kernel
theorem d_Md_part_109 : decode mm_Md_part.2.1 109 = .ok (.invokevirtual 176, 3) := by decide +kernel
theorem d_Md_part_112 : decode mm_Md_part.2.1 112 = .ok (.goto 68, 3) := by decide +kernel
theorem d_Md_part_115 : decode mm_Md_part.2.1 115 = .ok (.aload_n 0, 1) := by decide +kernel
theorem d_Md_part_116 : decode mm_Md_part.2.1 116 = .ok (.getfield 117, 3) := by decide +kernel
theorem d_Md_part_119 : decode mm_Md_part.2.1 119 = .ok (.bipush (-3), 2) := by decide +kernel
theorem d_Md_part_121 : decode mm_Md_part.2.1 121 = .ok (.if_icmp .ne 55, 3) := by decide +kernel
theorem d_Md_part_124 : decode mm_Md_part.2.1 124 = .ok (.aload_n 0, 1) := by decide +kernel
theorem d_Md_part_125 : decode mm_Md_part.2.1 125 = .ok (.aload_n 0, 1) := by decide +kernel
theorem d_Md_part_126 : decode mm_Md_part.2.1 126 = .ok (.invokevirtual 134, 3) := by decide +kernel
theorem d_Md_part_129 : decode mm_Md_part.2.1 129 = .ok (.lconst 0, 1) := by decide +kernel
theorem d_Md_part_130 : decode mm_Md_part.2.1 130 = .ok (.invokevirtual 172, 3) := by decide +kernel
theorem d_Md_part_133 : decode mm_Md_part.2.1 133 = .ok (.istore_n 1, 1) := by decide +kernel
theorem d_Md_part_134 : decode mm_Md_part.2.1 134 = .ok (.aload_n 0, 1) := by decide +kernel
theorem d_Md_part_135 : decode mm_Md_part.2.1 135 = .ok (.invokevirtual 176, 3) := by decide +kernel
theorem d_Md_part_138 : decode mm_Md_part.2.1 138 = .ok (.aload_n 0, 1) := by decide +kernel
theorem d_Md_part_139 : decode mm_Md_part.2.1 139 = .ok (.getfield 117, 3) := by decide +kernel
theorem d_Md_part_142 : decode mm_Md_part.2.1 142 = .ok (.bipush 40, 2) := by decide +kernel
theorem d_Md_part_144 : decode mm_Md_part.2.1 144 = .ok (.if_icmp .eq 9, 3) := by decide +kernel
theorem d_Md_part_147 : decode mm_Md_part.2.1 147 = .ok (.aload_n 0, 1) := by decide +kernel
theorem d_Md_part_148 : decode mm_Md_part.2.1 148 = .ok (.invokevirtual 189, 3) := by decide +kernel
theorem d_Md_part_151 : decode mm_Md_part.2.1 151 = .ok (.iconst 0, 1) := by decide +kernel
theorem d_Md_part_152 : decode mm_Md_part.2.1 152 = .ok (.ireturn, 1) := by decide +kernel
theorem d_Md_part_153 : decode mm_Md_part.2.1 153 = .ok (.aload_n 0, 1) := by decide +kernel
theorem d_Md_part_154 : decode mm_Md_part.2.1 154 = .ok (.getfield 144, 3) := by decide +kernel
theorem d_Md_part_157 : decode mm_Md_part.2.1 157 = .ok (.ifCond .ne 7, 3) := by decide +kernel
theorem d_Md_part_160 : decode mm_Md_part.2.1 160 = .ok (.aload_n 0, 1) := by decide +kernel
theorem d_Md_part_161 : decode mm_Md_part.2.1 161 = .ok (.invokevirtual 183, 3) := by decide +kernel
theorem d_Md_part_164 : decode mm_Md_part.2.1 164 = .ok (.aload_n 0, 1) := by decide +kernel
theorem d_Md_part_165 : decode mm_Md_part.2.1 165 = .ok (.iload_n 1, 1) := by decide +kernel
theorem d_Md_part_166 : decode mm_Md_part.2.1 166 = .ok (.invokevirtual 186, 3) := by decide +kernel
theorem d_Md_part_169 : decode mm_Md_part.2.1 169 = .ok (.aload_n 0, 1) := by decide +kernel
theorem d_Md_part_170 : decode mm_Md_part.2.1 170 = .ok (.invokevirtual 176, 3) := by decide +kernel
theorem d_Md_part_173 : decode mm_Md_part.2.1 173 = .ok (.goto 7, 3) := by decide +kernel
theorem d_Md_part_176 : decode mm_Md_part.2.1 176 = .ok (.aload_n 0, 1) := by decide +kernel
theorem d_Md_part_177 : decode mm_Md_part.2.1 177 = .ok (.invokevirtual 189, 3) := by decide +kernel
theorem d_Md_part_180 : decode mm_Md_part.2.1 180 = .ok (.iconst 0, 1) := by decide +kernel
theorem d_Md_part_181 : decode mm_Md_part.2.1 181 = .ok (.ireturn, 1) := by decide +kernel
theorem d_Md_newNode_0 : decode mm_Md_newNode.2.1 0 = .ok (.aload_n 0, 1) := by decide +kernel
theorem d_Md_newNode_1 : decode mm_Md_newNode.2.1 1 = .ok (.getfield 154, 3) := by decide +kernel
theorem d_Md_newNode_4 : decode mm_Md_newNode.2.1 4 = .ok (.bipush 40, 2) := by decide +kernel
theorem d_Md_newNode_6 : decode mm_Md_newNode.2.1 6 = .ok (.if_icmp .ne 14, 3) := by decide +kernel
theorem d_Md_newNode_9 : decode mm_Md_newNode.2.1 9 = .ok (.aload_n 0, 1) := by decide +kernel
theorem d_Md_newNode_10 : decode mm_Md_newNode.2.1 10 = .ok (.iconst 3, 1) := by decide +kernel
theorem d_Md_newNode_11 : decode mm_Md_newNode.2.1 11 = .ok (.aload_n 0, 1) := by decide +kernel
theorem d_Md_newNode_12 : decode mm_Md_newNode.2.1 12 = .ok (.getfield 114, 3) := by decide +kernel
theorem d_Md_newNode_15 : decode mm_Md_newNode.2.1 15 = .ok (.invokevirtual 150, 3) := by decide +kernel
theorem d_Md_newNode_18 : decode mm_Md_newNode.2.1 18 = .ok (.iconst 0, 1) := by decide +kernel
theorem d_Md_newNode_19 : decode mm_Md_newNode.2.1 19 = .ok (.ireturn, 1) := by decide +kernel
theorem d_Md_newNode_20 : decode mm_Md_newNode.2.1 20 = .ok (.aload_n 0, 1) := by decide +kernel
theorem d_Md_newNode_21 : decode mm_Md_newNode.2.1 21 = .ok (.getfield 60, 3) := by decide +kernel
theorem d_Md_newNode_24 : decode mm_Md_newNode.2.1 24 = .ok (.aload_n 0, 1) := by decide +kernel
theorem d_Md_newNode_25 : decode mm_Md_newNode.2.1 25 = .ok (.getfield 154, 3) := by decide +kernel
theorem d_Md_newNode_28 : decode mm_Md_newNode.2.1 28 = .ok (.iload_n 1, 1) := by decide +kernel
theorem d_Md_newNode_29 : decode mm_Md_newNode.2.1 29 = .ok (.iastore, 1) := by decide +kernel
theorem d_Md_newNode_30 : decode mm_Md_newNode.2.1 30 = .ok (.aload_n 0, 1) := by decide +kernel
theorem d_Md_newNode_31 : decode mm_Md_newNode.2.1 31 = .ok (.getfield 63, 3) := by decide +kernel
theorem d_Md_newNode_34 : decode mm_Md_newNode.2.1 34 = .ok (.aload_n 0, 1) := by decide +kernel
theorem d_Md_newNode_35 : decode mm_Md_newNode.2.1 35 = .ok (.getfield 154, 3) := by decide +kernel
theorem d_Md_newNode_38 : decode mm_Md_newNode.2.1 38 = .ok (.iconst (-1), 1) := by decide +kernel
theorem d_Md_newNode_39 : decode mm_Md_newNode.2.1 39 = .ok (.iastore, 1) := by decide +kernel
theorem d_Md_newNode_40 : decode mm_Md_newNode.2.1 40 = .ok (.aload_n 0, 1) := by decide +kernel
theorem d_Md_newNode_41 : decode mm_Md_newNode.2.1 41 = .ok (.getfield 66, 3) := by decide +kernel
theorem d_Md_newNode_44 : decode mm_Md_newNode.2.1 44 = .ok (.aload_n 0, 1) := by decide +kernel
theorem d_Md_newNode_45 : decode mm_Md_newNode.2.1 45 = .ok (.getfield 154, 3) := by decide +kernel
theorem d_Md_newNode_48 : decode mm_Md_newNode.2.1 48 = .ok (.iconst (-1), 1) := by decide +kernel
theorem d_Md_newNode_49 : decode mm_Md_newNode.2.1 49 = .ok (.iastore, 1) := by decide +kernel
theorem d_Md_newNode_50 : decode mm_Md_newNode.2.1 50 = .ok (.aload_n 0, 1) := by decide +kernel
theorem d_Md_newNode_51 : decode mm_Md_newNode.2.1 51 = .ok (.getfield 69, 3) := by decide +kernel
theorem d_Md_newNode_54 : decode mm_Md_newNode.2.1 54 = .ok (.aload_n 0, 1) := by decide +kernel
theorem d_Md_newNode_55 : decode mm_Md_newNode.2.1 55 = .ok (.getfield 154, 3) := by decide +kernel
theorem d_Md_newNode_58 : decode mm_Md_newNode.2.1 58 = .ok (.iconst (-1), 1) := by decide +kernel
theorem d_Md_newNode_59 : decode mm_Md_newNode.2.1 59 = .ok (.iastore, 1) := by decide +kernel
theorem d_Md_newNode_60 : decode mm_Md_newNode.2.1 60 = .ok (.aload_n 0, 1) := by decide +kernel
theorem d_Md_newNode_61 : decode mm_Md_newNode.2.1 61 = .ok (.getfield 72, 3) := by decide +kernel
theorem d_Md_newNode_64 : decode mm_Md_newNode.2.1 64 = .ok (.aload_n 0, 1) := by decide +kernel
theorem d_Md_newNode_65 : decode mm_Md_newNode.2.1 65 = .ok (.getfield 154, 3) := by decide +kernel
theorem d_Md_newNode_68 : decode mm_Md_newNode.2.1 68 = .ok (.lload_n 2, 1) := by decide +kernel
theorem d_Md_newNode_69 : decode mm_Md_newNode.2.1 69 = .ok (.lastore, 1) := by decide +kernel
theorem d_Md_newNode_70 : decode mm_Md_newNode.2.1 70 = .ok (.aload_n 0, 1) := by decide +kernel
theorem d_Md_newNode_71 : decode mm_Md_newNode.2.1 71 = .ok (.getfield 75, 3) := by decide +kernel
theorem d_Md_newNode_74 : decode mm_Md_newNode.2.1 74 = .ok (.aload_n 0, 1) := by decide +kernel
theorem d_Md_newNode_75 : decode mm_Md_newNode.2.1 75 = .ok (.getfield 154, 3) := by decide +kernel
theorem d_Md_newNode_78 : decode mm_Md_newNode.2.1 78 = .ok (.aload_n 0, 1) := by decide +kernel
theorem d_Md_newNode_79 : decode mm_Md_newNode.2.1 79 = .ok (.getfield 114, 3) := by decide +kernel
theorem d_Md_newNode_82 : decode mm_Md_newNode.2.1 82 = .ok (.iastore, 1) := by decide +kernel
theorem d_Md_newNode_83 : decode mm_Md_newNode.2.1 83 = .ok (.aload_n 0, 1) := by decide +kernel
theorem d_Md_newNode_84 : decode mm_Md_newNode.2.1 84 = .ok (.dup, 1) := by decide +kernel
theorem d_Md_newNode_85 : decode mm_Md_newNode.2.1 85 = .ok (.getfield 154, 3) := by decide +kernel
theorem d_Md_newNode_88 : decode mm_Md_newNode.2.1 88 = .ok (.iconst 1, 1) := by decide +kernel
theorem d_Md_newNode_89 : decode mm_Md_newNode.2.1 89 = .ok (.iadd, 1) := by decide +kernel
theorem d_Md_newNode_90 : decode mm_Md_newNode.2.1 90 = .ok (.putfield 154, 3) := by decide +kernel
theorem d_Md_newNode_93 : decode mm_Md_newNode.2.1 93 = .ok (.aload_n 0, 1) := by decide +kernel
theorem d_Md_newNode_94 : decode mm_Md_newNode.2.1 94 = .ok (.getfield 154, 3) := by decide +kernel
theorem d_Md_newNode_97 : decode mm_Md_newNode.2.1 97 = .ok (.iconst 1, 1) := by decide +kernel
theorem d_Md_newNode_98 : decode mm_Md_newNode.2.1 98 = .ok (.isub, 1) := by decide +kernel
theorem d_Md_newNode_99 : decode mm_Md_newNode.2.1 99 = .ok (.ireturn, 1) := by decide +kernel
theorem d_Md_settle_0 : decode mm_Md_settle.2.1 0 = .ok (.aload_n 0, 1) := by decide +kernel
theorem d_Md_settle_1 : decode mm_Md_settle.2.1 1 = .ok (.getfield 157, 3) := by decide +kernel
theorem d_Md_settle_4 : decode mm_Md_settle.2.1 4 = .ok (.ifCond .le 166, 3) := by decide +kernel
theorem d_Md_settle_7 : decode mm_Md_settle.2.1 7 = .ok (.aload_n 0, 1) := by decide +kernel
theorem d_Md_settle_8 : decode mm_Md_settle.2.1 8 = .ok (.aload_n 0, 1) := by decide +kernel
theorem d_Md_settle_9 : decode mm_Md_settle.2.1 9 = .ok (.getfield 78, 3) := by decide +kernel
theorem d_Md_settle_12 : decode mm_Md_settle.2.1 12 = .ok (.aload_n 0, 1) := by decide +kernel
theorem d_Md_settle_13 : decode mm_Md_settle.2.1 13 = .ok (.getfield 157, 3) := by decide +kernel
theorem d_Md_settle_16 : decode mm_Md_settle.2.1 16 = .ok (.iconst 1, 1) := by decide +kernel
theorem d_Md_settle_17 : decode mm_Md_settle.2.1 17 = .ok (.isub, 1) := by decide +kernel
theorem d_Md_settle_18 : decode mm_Md_settle.2.1 18 = .ok (.iaload, 1) := by decide +kernel
theorem d_Md_settle_19 : decode mm_Md_settle.2.1 19 = .ok (.invokevirtual 160, 3) := by decide +kernel
theorem d_Md_settle_22 : decode mm_Md_settle.2.1 22 = .ok (.ifCond .eq 148, 3) := by decide +kernel
theorem d_Md_settle_25 : decode mm_Md_settle.2.1 25 = .ok (.aload_n 0, 1) := by decide +kernel
theorem d_Md_settle_26 : decode mm_Md_settle.2.1 26 = .ok (.getfield 60, 3) := by decide +kernel
theorem d_Md_settle_29 : decode mm_Md_settle.2.1 29 = .ok (.aload_n 0, 1) := by decide +kernel
theorem d_Md_settle_30 : decode mm_Md_settle.2.1 30 = .ok (.getfield 78, 3) := by decide +kernel
theorem d_Md_settle_33 : decode mm_Md_settle.2.1 33 = .ok (.aload_n 0, 1) := by decide +kernel
theorem d_Md_settle_34 : decode mm_Md_settle.2.1 34 = .ok (.getfield 157, 3) := by decide +kernel
theorem d_Md_settle_37 : decode mm_Md_settle.2.1 37 = .ok (.iconst 1, 1) := by decide +kernel
theorem d_Md_settle_38 : decode mm_Md_settle.2.1 38 = .ok (.isub, 1) := by decide +kernel
theorem d_Md_settle_39 : decode mm_Md_settle.2.1 39 = .ok (.iaload, 1) := by decide +kernel
theorem d_Md_settle_40 : decode mm_Md_settle.2.1 40 = .ok (.iaload, 1) := by decide +kernel
theorem d_Md_settle_41 : decode mm_Md_settle.2.1 41 = .ok (.invokestatic 163, 3) := by decide +kernel
theorem d_Md_settle_44 : decode mm_Md_settle.2.1 44 = .ok (.iload_n 1, 1) := by decide +kernel
theorem d_Md_settle_45 : decode mm_Md_settle.2.1 45 = .ok (.if_icmp .lt 125, 3) := by decide +kernel
theorem d_Md_settle_48 : decode mm_Md_settle.2.1 48 = .ok (.aload_n 0, 1) := by decide +kernel
theorem d_Md_settle_49 : decode mm_Md_settle.2.1 49 = .ok (.getfield 78, 3) := by decide +kernel
theorem d_Md_settle_52 : decode mm_Md_settle.2.1 52 = .ok (.aload_n 0, 1) := by decide +kernel
theorem d_Md_settle_53 : decode mm_Md_settle.2.1 53 = .ok (.getfield 157, 3) := by decide +kernel
theorem d_Md_settle_56 : decode mm_Md_settle.2.1 56 = .ok (.iconst 1, 1) := by decide +kernel
theorem d_Md_settle_57 : decode mm_Md_settle.2.1 57 = .ok (.isub, 1) := by decide +kernel
theorem d_Md_settle_58 : decode mm_Md_settle.2.1 58 = .ok (.iaload, 1) := by decide +kernel
theorem d_Md_settle_59 : decode mm_Md_settle.2.1 59 = .ok (.istore_n 2, 1) := by decide +kernel
theorem d_Md_settle_60 : decode mm_Md_settle.2.1 60 = .ok (.aload_n 0, 1) := by decide +kernel
theorem d_Md_settle_61 : decode mm_Md_settle.2.1 61 = .ok (.dup, 1) := by decide +kernel
theorem d_Md_settle_62 : decode mm_Md_settle.2.1 62 = .ok (.getfield 157, 3) := by decide +kernel
theorem d_Md_settle_65 : decode mm_Md_settle.2.1 65 = .ok (.iconst 1, 1) := by decide +kernel
theorem d_Md_settle_66 : decode mm_Md_settle.2.1 66 = .ok (.isub, 1) := by decide +kernel
theorem d_Md_settle_67 : decode mm_Md_settle.2.1 67 = .ok (.putfield 157, 3) := by decide +kernel
theorem d_Md_settle_70 : decode mm_Md_settle.2.1 70 = .ok (.aload_n 0, 1) := by decide +kernel
theorem d_Md_settle_71 : decode mm_Md_settle.2.1 71 = .ok (.getfield 60, 3) := by decide +kernel
theorem d_Md_settle_74 : decode mm_Md_settle.2.1 74 = .ok (.iload_n 2, 1) := by decide +kernel
theorem d_Md_settle_75 : decode mm_Md_settle.2.1 75 = .ok (.iaload, 1) := by decide +kernel
theorem d_Md_settle_76 : decode mm_Md_settle.2.1 76 = .ok (.bipush 6, 2) := by decide +kernel
theorem d_Md_settle_78 : decode mm_Md_settle.2.1 78 = .ok (.if_icmp .ne 33, 3) := by decide +kernel
theorem d_Md_settle_81 : decode mm_Md_settle.2.1 81 = .ok (.aload_n 0, 1) := by decide +kernel
theorem d_Md_settle_82 : decode mm_Md_settle.2.1 82 = .ok (.getfield 63, 3) := by decide +kernel
theorem d_Md_settle_85 : decode mm_Md_settle.2.1 85 = .ok (.iload_n 2, 1) := by decide +kernel
theorem d_Md_settle_86 : decode mm_Md_settle.2.1 86 = .ok (.aload_n 0, 1) := by decide +kernel
theorem d_Md_settle_87 : decode mm_Md_settle.2.1 87 = .ok (.getfield 84, 3) := by decide +kernel
theorem d_Md_settle_90 : decode mm_Md_settle.2.1 90 = .ok (.aload_n 0, 1) := by decide +kernel
theorem d_Md_settle_91 : decode mm_Md_settle.2.1 91 = .ok (.getfield 166, 3) := by decide +kernel
theorem d_Md_settle_94 : decode mm_Md_settle.2.1 94 = .ok (.iconst 1, 1) := by decide +kernel
theorem d_Md_settle_95 : decode mm_Md_settle.2.1 95 = .ok (.isub, 1) := by decide +kernel
theorem d_Md_settle_96 : decode mm_Md_settle.2.1 96 = .ok (.iaload, 1) := by decide +kernel
theorem d_Md_settle_97 : decode mm_Md_settle.2.1 97 = .ok (.iastore, 1) := by decide +kernel
theorem d_Md_settle_98 : decode mm_Md_settle.2.1 98 = .ok (.aload_n 0, 1) := by decide +kernel
theorem d_Md_settle_99 : decode mm_Md_settle.2.1 99 = .ok (.dup, 1) := by decide +kernel
theorem d_Md_settle_100 : decode mm_Md_settle.2.1 100 = .ok (.getfield 169, 3) := by decide +kernel
theorem d_Md_settle_103 : decode mm_Md_settle.2.1 103 = .ok (.iconst 1, 1) := by decide +kernel
theorem d_Md_settle_104 : decode mm_Md_settle.2.1 104 = .ok (.isub, 1) := by decide +kernel
theorem d_Md_settle_105 : decode mm_Md_settle.2.1 105 = .ok (.putfield 169, 3) := by decide +kernel
theorem d_Md_settle_108 : decode mm_Md_settle.2.1 108 = .ok (.goto 47, 3) := by decide +kernel
theorem d_Md_settle_111 : decode mm_Md_settle.2.1 111 = .ok (.aload_n 0, 1) := by decide +kernel
theorem d_Md_settle_112 : decode mm_Md_settle.2.1 112 = .ok (.getfield 66, 3) := by decide +kernel
theorem d_Md_settle_115 : decode mm_Md_settle.2.1 115 = .ok (.iload_n 2, 1) := by decide +kernel
theorem d_Md_settle_116 : decode mm_Md_settle.2.1 116 = .ok (.aload_n 0, 1) := by decide +kernel
theorem d_Md_settle_117 : decode mm_Md_settle.2.1 117 = .ok (.getfield 84, 3) := by decide +kernel
theorem d_Md_settle_120 : decode mm_Md_settle.2.1 120 = .ok (.aload_n 0, 1) := by decide +kernel
theorem d_Md_settle_121 : decode mm_Md_settle.2.1 121 = .ok (.getfield 166, 3) := by decide +kernel
theorem d_Md_settle_124 : decode mm_Md_settle.2.1 124 = .ok (.iconst 1, 1) := by decide +kernel
theorem d_Md_settle_125 : decode mm_Md_settle.2.1 125 = .ok (.isub, 1) := by decide +kernel
theorem d_Md_settle_126 : decode mm_Md_settle.2.1 126 = .ok (.iaload, 1) := by decide +kernel
theorem d_Md_settle_127 : decode mm_Md_settle.2.1 127 = .ok (.iastore, 1) := by decide +kernel
theorem d_Md_settle_128 : decode mm_Md_settle.2.1 128 = .ok (.aload_n 0, 1) := by decide +kernel
theorem d_Md_settle_129 : decode mm_Md_settle.2.1 129 = .ok (.dup, 1) := by decide +kernel
theorem d_Md_settle_130 : decode mm_Md_settle.2.1 130 = .ok (.getfield 166, 3) := by decide +kernel
theorem d_Md_settle_133 : decode mm_Md_settle.2.1 133 = .ok (.iconst 1, 1) := by decide +kernel
theorem d_Md_settle_134 : decode mm_Md_settle.2.1 134 = .ok (.isub, 1) := by decide +kernel
theorem d_Md_settle_135 : decode mm_Md_settle.2.1 135 = .ok (.putfield 166, 3) := by decide +kernel
theorem d_Md_settle_138 : decode mm_Md_settle.2.1 138 = .ok (.aload_n 0, 1) := by decide +kernel
theorem d_Md_settle_139 : decode mm_Md_settle.2.1 139 = .ok (.getfield 63, 3) := by decide +kernel
theorem d_Md_settle_142 : decode mm_Md_settle.2.1 142 = .ok (.iload_n 2, 1) := by decide +kernel
theorem d_Md_settle_143 : decode mm_Md_settle.2.1 143 = .ok (.aload_n 0, 1) := by decide +kernel
theorem d_Md_settle_144 : decode mm_Md_settle.2.1 144 = .ok (.getfield 84, 3) := by decide +kernel
theorem d_Md_settle_147 : decode mm_Md_settle.2.1 147 = .ok (.aload_n 0, 1) := by decide +kernel
theorem d_Md_settle_148 : decode mm_Md_settle.2.1 148 = .ok (.getfield 166, 3) := by decide +kernel
theorem d_Md_settle_151 : decode mm_Md_settle.2.1 151 = .ok (.iconst 1, 1) := by decide +kernel
theorem d_Md_settle_152 : decode mm_Md_settle.2.1 152 = .ok (.isub, 1) := by decide +kernel
theorem d_Md_settle_153 : decode mm_Md_settle.2.1 153 = .ok (.iaload, 1) := by decide +kernel
theorem d_Md_settle_154 : decode mm_Md_settle.2.1 154 = .ok (.iastore, 1) := by decide +kernel
theorem d_Md_settle_155 : decode mm_Md_settle.2.1 155 = .ok (.aload_n 0, 1) := by decide +kernel
theorem d_Md_settle_156 : decode mm_Md_settle.2.1 156 = .ok (.getfield 84, 3) := by decide +kernel
theorem d_Md_settle_159 : decode mm_Md_settle.2.1 159 = .ok (.aload_n 0, 1) := by decide +kernel
theorem d_Md_settle_160 : decode mm_Md_settle.2.1 160 = .ok (.getfield 166, 3) := by decide +kernel
theorem d_Md_settle_163 : decode mm_Md_settle.2.1 163 = .ok (.iconst 1, 1) := by decide +kernel
theorem d_Md_settle_164 : decode mm_Md_settle.2.1 164 = .ok (.isub, 1) := by decide +kernel
theorem d_Md_settle_165 : decode mm_Md_settle.2.1 165 = .ok (.iload_n 2, 1) := by decide +kernel
theorem d_Md_settle_166 : decode mm_Md_settle.2.1 166 = .ok (.iastore, 1) := by decide +kernel
theorem d_Md_settle_167 : decode mm_Md_settle.2.1 167 = .ok (.goto (-167), 3) := by decide +kernel
theorem d_Md_settle_170 : decode mm_Md_settle.2.1 170 = .ok (.return_, 1) := by decide +kernel
theorem d_Md_isOperator_0 : decode mm_Md_isOperator.2.1 0 = .ok (.iload_n 1, 1) := by decide +kernel
theorem d_Md_isOperator_1 : decode mm_Md_isOperator.2.1 1 = .ok (.ifCond .lt 28, 3) := by decide +kernel
theorem d_Md_isOperator_4 : decode mm_Md_isOperator.2.1 4 = .ok (.aload_n 0, 1) := by decide +kernel
theorem d_Md_isOperator_5 : decode mm_Md_isOperator.2.1 5 = .ok (.getfield 60, 3) := by decide +kernel
theorem d_Md_isOperator_8 : decode mm_Md_isOperator.2.1 8 = .ok (.iload_n 1, 1) := by decide +kernel
theorem d_Md_isOperator_9 : decode mm_Md_isOperator.2.1 9 = .ok (.iaload, 1) := by decide +kernel
theorem d_Md_isOperator_10 : decode mm_Md_isOperator.2.1 10 = .ok (.iconst 2, 1) := by decide +kernel
theorem d_Md_isOperator_11 : decode mm_Md_isOperator.2.1 11 = .ok (.if_icmp .lt 18, 3) := by decide +kernel
theorem d_Md_isOperator_14 : decode mm_Md_isOperator.2.1 14 = .ok (.aload_n 0, 1) := by decide +kernel
theorem d_Md_isOperator_15 : decode mm_Md_isOperator.2.1 15 = .ok (.getfield 60, 3) := by decide +kernel
theorem d_Md_isOperator_18 : decode mm_Md_isOperator.2.1 18 = .ok (.iload_n 1, 1) := by decide +kernel
theorem d_Md_isOperator_19 : decode mm_Md_isOperator.2.1 19 = .ok (.iaload, 1) := by decide +kernel
theorem d_Md_isOperator_20 : decode mm_Md_isOperator.2.1 20 = .ok (.bipush 6, 2) := by decide +kernel
theorem d_Md_isOperator_22 : decode mm_Md_isOperator.2.1 22 = .ok (.if_icmp .gt 7, 3) := by decide +kernel
theorem d_Md_isOperator_25 : decode mm_Md_isOperator.2.1 25 = .ok (.iconst 1, 1) := by decide +kernel
theorem d_Md_isOperator_26 : decode mm_Md_isOperator.2.1 26 = .ok (.goto 4, 3) := by decide +kernel
theorem d_Md_isOperator_29 : decode mm_Md_isOperator.2.1 29 = .ok (.iconst 0, 1) := by decide +kernel
theorem d_Md_isOperator_30 : decode mm_Md_isOperator.2.1 30 = .ok (.ireturn, 1) := by decide +kernel
theorem d_Md_strength_0 : decode mm_Md_strength.2.1 0 = .ok (.iload_n 0, 1) := by decide +kernel
theorem d_Md_strength_1 : decode mm_Md_strength.2.1 1 = .ok (.bipush 6, 2) := by decide +kernel
theorem d_Md_strength_3 : decode mm_Md_strength.2.1 3 = .ok (.if_icmp .ne 7, 3) := by decide +kernel
theorem d_Md_strength_6 : decode mm_Md_strength.2.1 6 = .ok (.iconst 3, 1) := by decide +kernel
theorem d_Md_strength_7 : decode mm_Md_strength.2.1 7 = .ok (.goto 18, 3) := by decide +kernel
theorem d_Md_strength_10 : decode mm_Md_strength.2.1 10 = .ok (.iload_n 0, 1) := by decide +kernel
theorem d_Md_strength_11 : decode mm_Md_strength.2.1 11 = .ok (.iconst 4, 1) := by decide +kernel
theorem d_Md_strength_12 : decode mm_Md_strength.2.1 12 = .ok (.if_icmp .eq 8, 3) := by decide +kernel
theorem d_Md_strength_15 : decode mm_Md_strength.2.1 15 = .ok (.iload_n 0, 1) := by decide +kernel
theorem d_Md_strength_16 : decode mm_Md_strength.2.1 16 = .ok (.iconst 5, 1) := by decide +kernel
theorem d_Md_strength_17 : decode mm_Md_strength.2.1 17 = .ok (.if_icmp .ne 7, 3) := by decide +kernel
theorem d_Md_strength_20 : decode mm_Md_strength.2.1 20 = .ok (.iconst 2, 1) := by decide +kernel
theorem d_Md_strength_21 : decode mm_Md_strength.2.1 21 = .ok (.goto 4, 3) := by decide +kernel
theorem d_Md_strength_24 : decode mm_Md_strength.2.1 24 = .ok (.iconst 1, 1) := by decide +kernel
theorem d_Md_strength_25 : decode mm_Md_strength.2.1 25 = .ok (.ireturn, 1) := by decide +kernel
theorem d_Md_deeper_0 : decode mm_Md_deeper.2.1 0 = .ok (.aload_n 0, 1) := by decide +kernel
theorem d_Md_deeper_1 : decode mm_Md_deeper.2.1 1 = .ok (.getfield 169, 3) := by decide +kernel
theorem d_Md_deeper_4 : decode mm_Md_deeper.2.1 4 = .ok (.bipush 20, 2) := by decide +kernel
theorem d_Md_deeper_6 : decode mm_Md_deeper.2.1 6 = .ok (.if_icmp .ne 12, 3) := by decide +kernel
theorem d_Md_deeper_9 : decode mm_Md_deeper.2.1 9 = .ok (.aload_n 0, 1) := by decide +kernel
theorem d_Md_deeper_10 : decode mm_Md_deeper.2.1 10 = .ok (.iconst 3, 1) := by decide +kernel
theorem d_Md_deeper_11 : decode mm_Md_deeper.2.1 11 = .ok (.aload_n 0, 1) := by decide +kernel
theorem d_Md_deeper_12 : decode mm_Md_deeper.2.1 12 = .ok (.getfield 114, 3) := by decide +kernel
theorem d_Md_deeper_15 : decode mm_Md_deeper.2.1 15 = .ok (.invokevirtual 150, 3) := by decide +kernel
theorem d_Md_deeper_18 : decode mm_Md_deeper.2.1 18 = .ok (.aload_n 0, 1) := by decide +kernel
theorem d_Md_deeper_19 : decode mm_Md_deeper.2.1 19 = .ok (.dup, 1) := by decide +kernel
theorem d_Md_deeper_20 : decode mm_Md_deeper.2.1 20 = .ok (.getfield 169, 3) := by decide +kernel
theorem d_Md_deeper_23 : decode mm_Md_deeper.2.1 23 = .ok (.iconst 1, 1) := by decide +kernel
theorem d_Md_deeper_24 : decode mm_Md_deeper.2.1 24 = .ok (.iadd, 1) := by decide +kernel
theorem d_Md_deeper_25 : decode mm_Md_deeper.2.1 25 = .ok (.putfield 169, 3) := by decide +kernel
theorem d_Md_deeper_28 : decode mm_Md_deeper.2.1 28 = .ok (.return_, 1) := by decide +kernel
theorem d_Md_await_0 : decode mm_Md_await.2.1 0 = .ok (.aload_n 0, 1) := by decide +kernel
theorem d_Md_await_1 : decode mm_Md_await.2.1 1 = .ok (.getfield 78, 3) := by decide +kernel
theorem d_Md_await_4 : decode mm_Md_await.2.1 4 = .ok (.aload_n 0, 1) := by decide +kernel
theorem d_Md_await_5 : decode mm_Md_await.2.1 5 = .ok (.getfield 157, 3) := by decide +kernel
theorem d_Md_await_8 : decode mm_Md_await.2.1 8 = .ok (.iload_n 1, 1) := by decide +kernel
theorem d_Md_await_9 : decode mm_Md_await.2.1 9 = .ok (.iastore, 1) := by decide +kernel
theorem d_Md_await_10 : decode mm_Md_await.2.1 10 = .ok (.aload_n 0, 1) := by decide +kernel
theorem d_Md_await_11 : decode mm_Md_await.2.1 11 = .ok (.getfield 81, 3) := by decide +kernel
theorem d_Md_await_14 : decode mm_Md_await.2.1 14 = .ok (.aload_n 0, 1) := by decide +kernel
theorem d_Md_await_15 : decode mm_Md_await.2.1 15 = .ok (.getfield 157, 3) := by decide +kernel
theorem d_Md_await_18 : decode mm_Md_await.2.1 18 = .ok (.iconst 0, 1) := by decide +kernel
theorem d_Md_await_19 : decode mm_Md_await.2.1 19 = .ok (.iastore, 1) := by decide +kernel
theorem d_Md_await_20 : decode mm_Md_await.2.1 20 = .ok (.aload_n 0, 1) := by decide +kernel
theorem d_Md_await_21 : decode mm_Md_await.2.1 21 = .ok (.dup, 1) := by decide +kernel
theorem d_Md_await_22 : decode mm_Md_await.2.1 22 = .ok (.getfield 157, 3) := by decide +kernel
theorem d_Md_await_25 : decode mm_Md_await.2.1 25 = .ok (.iconst 1, 1) := by decide +kernel
theorem d_Md_await_26 : decode mm_Md_await.2.1 26 = .ok (.iadd, 1) := by decide +kernel
theorem d_Md_await_27 : decode mm_Md_await.2.1 27 = .ok (.putfield 157, 3) := by decide +kernel
theorem d_Md_await_30 : decode mm_Md_await.2.1 30 = .ok (.return_, 1) := by decide +kernel
theorem d_Md_behind_0 : decode mm_Md_behind.2.1 0 = .ok (.aload_n 0, 1) := by decide +kernel
theorem d_Md_behind_1 : decode mm_Md_behind.2.1 1 = .ok (.getfield 117, 3) := by decide +kernel
theorem d_Md_behind_4 : decode mm_Md_behind.2.1 4 = .ok (.bipush 43, 2) := by decide +kernel
theorem d_Md_behind_6 : decode mm_Md_behind.2.1 6 = .ok (.if_icmp .eq 30, 3) := by decide +kernel
theorem d_Md_behind_9 : decode mm_Md_behind.2.1 9 = .ok (.aload_n 0, 1) := by decide +kernel
theorem d_Md_behind_10 : decode mm_Md_behind.2.1 10 = .ok (.getfield 117, 3) := by decide +kernel
theorem d_Md_behind_13 : decode mm_Md_behind.2.1 13 = .ok (.bipush 45, 2) := by decide +kernel
theorem d_Md_behind_15 : decode mm_Md_behind.2.1 15 = .ok (.if_icmp .eq 21, 3) := by decide +kernel
theorem d_Md_behind_18 : decode mm_Md_behind.2.1 18 = .ok (.aload_n 0, 1) := by decide +kernel
theorem d_Md_behind_19 : decode mm_Md_behind.2.1 19 = .ok (.getfield 117, 3) := by decide +kernel
theorem d_Md_behind_22 : decode mm_Md_behind.2.1 22 = .ok (.bipush 42, 2) := by decide +kernel
theorem d_Md_behind_24 : decode mm_Md_behind.2.1 24 = .ok (.if_icmp .eq 12, 3) := by decide +kernel
theorem d_Md_behind_27 : decode mm_Md_behind.2.1 27 = .ok (.aload_n 0, 1) := by decide +kernel
theorem d_Md_behind_28 : decode mm_Md_behind.2.1 28 = .ok (.getfield 117, 3) := by decide +kernel
theorem d_Md_behind_31 : decode mm_Md_behind.2.1 31 = .ok (.bipush 47, 2) := by decide +kernel
theorem d_Md_behind_33 : decode mm_Md_behind.2.1 33 = .ok (.if_icmp .ne 7, 3) := by decide +kernel
theorem d_Md_behind_36 : decode mm_Md_behind.2.1 36 = .ok (.iconst 1, 1) := by decide +kernel
theorem d_Md_behind_37 : decode mm_Md_behind.2.1 37 = .ok (.goto 4, 3) := by decide +kernel
theorem d_Md_behind_40 : decode mm_Md_behind.2.1 40 = .ok (.iconst 0, 1) := by decide +kernel
theorem d_Md_behind_41 : decode mm_Md_behind.2.1 41 = .ok (.istore_n 1, 1) := by decide +kernel
theorem d_Md_behind_42 : decode mm_Md_behind.2.1 42 = .ok (.iload_n 1, 1) := by decide +kernel
theorem d_Md_behind_43 : decode mm_Md_behind.2.1 43 = .ok (.ifCond .eq 68, 3) := by decide +kernel
theorem d_Md_behind_46 : decode mm_Md_behind.2.1 46 = .ok (.aload_n 0, 1) := by decide +kernel
theorem d_Md_behind_47 : decode mm_Md_behind.2.1 47 = .ok (.getfield 117, 3) := by decide +kernel
theorem d_Md_behind_50 : decode mm_Md_behind.2.1 50 = .ok (.bipush 43, 2) := by decide +kernel
theorem d_Md_behind_52 : decode mm_Md_behind.2.1 52 = .ok (.if_icmp .ne 7, 3) := by decide +kernel
theorem d_Md_behind_55 : decode mm_Md_behind.2.1 55 = .ok (.iconst 2, 1) := by decide +kernel
theorem d_Md_behind_56 : decode mm_Md_behind.2.1 56 = .ok (.goto 30, 3) := by decide +kernel
theorem d_Md_behind_59 : decode mm_Md_behind.2.1 59 = .ok (.aload_n 0, 1) := by decide +kernel
theorem d_Md_behind_60 : decode mm_Md_behind.2.1 60 = .ok (.getfield 117, 3) := by decide +kernel
theorem d_Md_behind_63 : decode mm_Md_behind.2.1 63 = .ok (.bipush 45, 2) := by decide +kernel
theorem d_Md_behind_65 : decode mm_Md_behind.2.1 65 = .ok (.if_icmp .ne 7, 3) := by decide +kernel
theorem d_Md_behind_68 : decode mm_Md_behind.2.1 68 = .ok (.iconst 3, 1) := by decide +kernel
theorem d_Md_behind_69 : decode mm_Md_behind.2.1 69 = .ok (.goto 17, 3) := by decide +kernel
theorem d_Md_behind_72 : decode mm_Md_behind.2.1 72 = .ok (.aload_n 0, 1) := by decide +kernel
theorem d_Md_behind_73 : decode mm_Md_behind.2.1 73 = .ok (.getfield 117, 3) := by decide +kernel
theorem d_Md_behind_76 : decode mm_Md_behind.2.1 76 = .ok (.bipush 42, 2) := by decide +kernel
theorem d_Md_behind_78 : decode mm_Md_behind.2.1 78 = .ok (.if_icmp .ne 7, 3) := by decide +kernel
theorem d_Md_behind_81 : decode mm_Md_behind.2.1 81 = .ok (.iconst 4, 1) := by decide +kernel
theorem d_Md_behind_82 : decode mm_Md_behind.2.1 82 = .ok (.goto 4, 3) := by decide +kernel
theorem d_Md_behind_85 : decode mm_Md_behind.2.1 85 = .ok (.iconst 5, 1) := by decide +kernel
theorem d_Md_behind_86 : decode mm_Md_behind.2.1 86 = .ok (.istore_n 2, 1) := by decide +kernel
theorem d_Md_behind_87 : decode mm_Md_behind.2.1 87 = .ok (.aload_n 0, 1) := by decide +kernel
theorem d_Md_behind_88 : decode mm_Md_behind.2.1 88 = .ok (.iload_n 2, 1) := by decide +kernel
theorem d_Md_behind_89 : decode mm_Md_behind.2.1 89 = .ok (.invokestatic 163, 3) := by decide +kernel
theorem d_Md_behind_92 : decode mm_Md_behind.2.1 92 = .ok (.invokevirtual 179, 3) := by decide +kernel
theorem d_Md_behind_95 : decode mm_Md_behind.2.1 95 = .ok (.aload_n 0, 1) := by decide +kernel
theorem d_Md_behind_96 : decode mm_Md_behind.2.1 96 = .ok (.aload_n 0, 1) := by decide +kernel
theorem d_Md_behind_97 : decode mm_Md_behind.2.1 97 = .ok (.iload_n 2, 1) := by decide +kernel
theorem d_Md_behind_98 : decode mm_Md_behind.2.1 98 = .ok (.lconst 0, 1) := by decide +kernel
theorem d_Md_behind_99 : decode mm_Md_behind.2.1 99 = .ok (.invokevirtual 172, 3) := by decide +kernel
theorem d_Md_behind_102 : decode mm_Md_behind.2.1 102 = .ok (.invokevirtual 186, 3) := by decide +kernel
theorem d_Md_behind_105 : decode mm_Md_behind.2.1 105 = .ok (.aload_n 0, 1) := by decide +kernel
theorem d_Md_behind_106 : decode mm_Md_behind.2.1 106 = .ok (.invokevirtual 176, 3) := by decide +kernel
theorem d_Md_behind_109 : decode mm_Md_behind.2.1 109 = .ok (.iconst 1, 1) := by decide +kernel
theorem d_Md_behind_110 : decode mm_Md_behind.2.1 110 = .ok (.ireturn, 1) := by decide +kernel
theorem d_Md_behind_111 : decode mm_Md_behind.2.1 111 = .ok (.aload_n 0, 1) := by decide +kernel
theorem d_Md_behind_112 : decode mm_Md_behind.2.1 112 = .ok (.getfield 117, 3) := by decide +kernel
theorem d_Md_behind_115 : decode mm_Md_behind.2.1 115 = .ok (.bipush (-2), 2) := by decide +kernel
theorem d_Md_behind_117 : decode mm_Md_behind.2.1 117 = .ok (.if_icmp .ne 21, 3) := by decide +kernel
theorem d_Md_behind_120 : decode mm_Md_behind.2.1 120 = .ok (.aload_n 0, 1) := by decide +kernel
theorem d_Md_behind_121 : decode mm_Md_behind.2.1 121 = .ok (.iconst 1, 1) := by decide +kernel
theorem d_Md_behind_122 : decode mm_Md_behind.2.1 122 = .ok (.invokevirtual 179, 3) := by decide +kernel
theorem d_Md_behind_125 : decode mm_Md_behind.2.1 125 = .ok (.aload_n 0, 1) := by decide +kernel
theorem d_Md_behind_126 : decode mm_Md_behind.2.1 126 = .ok (.getfield 157, 3) := by decide +kernel
theorem d_Md_behind_129 : decode mm_Md_behind.2.1 129 = .ok (.ifCond .le 7, 3) := by decide +kernel
theorem d_Md_behind_132 : decode mm_Md_behind.2.1 132 = .ok (.aload_n 0, 1) := by decide +kernel
theorem d_Md_behind_133 : decode mm_Md_behind.2.1 133 = .ok (.invokevirtual 189, 3) := by decide +kernel
theorem d_Md_behind_136 : decode mm_Md_behind.2.1 136 = .ok (.iconst 0, 1) := by decide +kernel
theorem d_Md_behind_137 : decode mm_Md_behind.2.1 137 = .ok (.ireturn, 1) := by decide +kernel
theorem d_Md_behind_138 : decode mm_Md_behind.2.1 138 = .ok (.aload_n 0, 1) := by decide +kernel
theorem d_Md_behind_139 : decode mm_Md_behind.2.1 139 = .ok (.getfield 117, 3) := by decide +kernel
theorem d_Md_behind_142 : decode mm_Md_behind.2.1 142 = .ok (.bipush 41, 2) := by decide +kernel
theorem d_Md_behind_144 : decode mm_Md_behind.2.1 144 = .ok (.if_icmp .eq 18, 3) := by decide +kernel
theorem d_Md_behind_147 : decode mm_Md_behind.2.1 147 = .ok (.aload_n 0, 1) := by decide +kernel
theorem d_Md_behind_148 : decode mm_Md_behind.2.1 148 = .ok (.getfield 117, 3) := by decide +kernel
theorem d_Md_behind_151 : decode mm_Md_behind.2.1 151 = .ok (.bipush 44, 2) := by decide +kernel
theorem d_Md_behind_153 : decode mm_Md_behind.2.1 153 = .ok (.if_icmp .eq 9, 3) := by decide +kernel
theorem d_Md_behind_156 : decode mm_Md_behind.2.1 156 = .ok (.aload_n 0, 1) := by decide +kernel
theorem d_Md_behind_157 : decode mm_Md_behind.2.1 157 = .ok (.invokevirtual 189, 3) := by decide +kernel
theorem d_Md_behind_160 : decode mm_Md_behind.2.1 160 = .ok (.iconst 0, 1) := by decide +kernel
theorem d_Md_behind_161 : decode mm_Md_behind.2.1 161 = .ok (.ireturn, 1) := by decide +kernel
theorem d_Md_behind_162 : decode mm_Md_behind.2.1 162 = .ok (.aload_n 0, 1) := by decide +kernel
theorem d_Md_behind_163 : decode mm_Md_behind.2.1 163 = .ok (.iconst 1, 1) := by decide +kernel
theorem d_Md_behind_164 : decode mm_Md_behind.2.1 164 = .ok (.invokevirtual 179, 3) := by decide +kernel
theorem d_Md_behind_167 : decode mm_Md_behind.2.1 167 = .ok (.aload_n 0, 1) := by decide +kernel
theorem d_Md_behind_168 : decode mm_Md_behind.2.1 168 = .ok (.getfield 157, 3) := by decide +kernel
theorem d_Md_behind_171 : decode mm_Md_behind.2.1 171 = .ok (.ifCond .le 17, 3) := by decide +kernel
theorem d_Md_behind_174 : decode mm_Md_behind.2.1 174 = .ok (.aload_n 0, 1) := by decide +kernel
theorem d_Md_behind_175 : decode mm_Md_behind.2.1 175 = .ok (.getfield 78, 3) := by decide +kernel
theorem d_Md_behind_178 : decode mm_Md_behind.2.1 178 = .ok (.aload_n 0, 1) := by decide +kernel
theorem d_Md_behind_179 : decode mm_Md_behind.2.1 179 = .ok (.getfield 157, 3) := by decide +kernel
theorem d_Md_behind_182 : decode mm_Md_behind.2.1 182 = .ok (.iconst 1, 1) := by decide +kernel
theorem d_Md_behind_183 : decode mm_Md_behind.2.1 183 = .ok (.isub, 1) := by decide +kernel
theorem d_Md_behind_184 : decode mm_Md_behind.2.1 184 = .ok (.iaload, 1) := by decide +kernel
theorem d_Md_behind_185 : decode mm_Md_behind.2.1 185 = .ok (.goto 5, 3) := by decide +kernel
theorem d_Md_behind_188 : decode mm_Md_behind.2.1 188 = .ok (.bipush (-2), 2) := by decide +kernel
theorem d_Md_behind_190 : decode mm_Md_behind.2.1 190 = .ok (.istore_n 2, 1) := by decide +kernel
theorem d_Md_behind_191 : decode mm_Md_behind.2.1 191 = .ok (.aload_n 0, 1) := by decide +kernel
theorem d_Md_behind_192 : decode mm_Md_behind.2.1 192 = .ok (.getfield 117, 3) := by decide +kernel
theorem d_Md_behind_195 : decode mm_Md_behind.2.1 195 = .ok (.bipush 44, 2) := by decide +kernel
theorem d_Md_behind_197 : decode mm_Md_behind.2.1 197 = .ok (.if_icmp .ne 49, 3) := by decide +kernel
theorem d_Md_behind_200 : decode mm_Md_behind.2.1 200 = .ok (.iload_n 2, 1) := by decide +kernel
theorem d_Md_behind_201 : decode mm_Md_behind.2.1 201 = .ok (.ifCond .lt 28, 3) := by decide +kernel
theorem d_Md_behind_204 : decode mm_Md_behind.2.1 204 = .ok (.aload_n 0, 1) := by decide +kernel
theorem d_Md_behind_205 : decode mm_Md_behind.2.1 205 = .ok (.getfield 81, 3) := by decide +kernel
theorem d_Md_behind_208 : decode mm_Md_behind.2.1 208 = .ok (.aload_n 0, 1) := by decide +kernel
theorem d_Md_behind_209 : decode mm_Md_behind.2.1 209 = .ok (.getfield 157, 3) := by decide +kernel
theorem d_Md_behind_212 : decode mm_Md_behind.2.1 212 = .ok (.iconst 1, 1) := by decide +kernel
theorem d_Md_behind_213 : decode mm_Md_behind.2.1 213 = .ok (.isub, 1) := by decide +kernel
theorem d_Md_behind_214 : decode mm_Md_behind.2.1 214 = .ok (.iaload, 1) := by decide +kernel
theorem d_Md_behind_215 : decode mm_Md_behind.2.1 215 = .ok (.iconst 1, 1) := by decide +kernel
theorem d_Md_behind_216 : decode mm_Md_behind.2.1 216 = .ok (.iadd, 1) := by decide +kernel
theorem d_Md_behind_217 : decode mm_Md_behind.2.1 217 = .ok (.aload_n 0, 1) := by decide +kernel
theorem d_Md_behind_218 : decode mm_Md_behind.2.1 218 = .ok (.getfield 60, 3) := by decide +kernel
theorem d_Md_behind_221 : decode mm_Md_behind.2.1 221 = .ok (.iload_n 2, 1) := by decide +kernel
theorem d_Md_behind_222 : decode mm_Md_behind.2.1 222 = .ok (.iaload, 1) := by decide +kernel
theorem d_Md_behind_223 : decode mm_Md_behind.2.1 223 = .ok (.invokestatic 192, 3) := by decide +kernel
theorem d_Md_behind_226 : decode mm_Md_behind.2.1 226 = .ok (.if_icmp .ne 9, 3) := by decide +kernel
theorem d_Md_behind_229 : decode mm_Md_behind.2.1 229 = .ok (.aload_n 0, 1) := by decide +kernel
theorem d_Md_behind_230 : decode mm_Md_behind.2.1 230 = .ok (.invokevirtual 189, 3) := by decide +kernel
theorem d_Md_behind_233 : decode mm_Md_behind.2.1 233 = .ok (.iconst 0, 1) := by decide +kernel
theorem d_Md_behind_234 : decode mm_Md_behind.2.1 234 = .ok (.ireturn, 1) := by decide +kernel
theorem d_Md_behind_235 : decode mm_Md_behind.2.1 235 = .ok (.aload_n 0, 1) := by decide +kernel
theorem d_Md_behind_236 : decode mm_Md_behind.2.1 236 = .ok (.iload_n 2, 1) := by decide +kernel
theorem d_Md_behind_237 : decode mm_Md_behind.2.1 237 = .ok (.invokevirtual 195, 3) := by decide +kernel
theorem d_Md_behind_240 : decode mm_Md_behind.2.1 240 = .ok (.aload_n 0, 1) := by decide +kernel
theorem d_Md_behind_241 : decode mm_Md_behind.2.1 241 = .ok (.invokevirtual 176, 3) := by decide +kernel
theorem d_Md_behind_244 : decode mm_Md_behind.2.1 244 = .ok (.iconst 1, 1) := by decide +kernel
theorem d_Md_behind_245 : decode mm_Md_behind.2.1 245 = .ok (.ireturn, 1) := by decide +kernel
theorem d_Md_behind_246 : decode mm_Md_behind.2.1 246 = .ok (.iload_n 2, 1) := by decide +kernel
theorem d_Md_behind_247 : decode mm_Md_behind.2.1 247 = .ok (.bipush (-2), 2) := by decide +kernel
theorem d_Md_behind_249 : decode mm_Md_behind.2.1 249 = .ok (.if_icmp .eq 32, 3) := by decide +kernel
theorem d_Md_behind_252 : decode mm_Md_behind.2.1 252 = .ok (.iload_n 2, 1) := by decide +kernel
theorem d_Md_behind_253 : decode mm_Md_behind.2.1 253 = .ok (.ifCond .lt 34, 3) := by decide +kernel
theorem d_Md_behind_256 : decode mm_Md_behind.2.1 256 = .ok (.aload_n 0, 1) := by decide +kernel
theorem d_Md_behind_257 : decode mm_Md_behind.2.1 257 = .ok (.getfield 81, 3) := by decide +kernel
theorem d_Md_behind_260 : decode mm_Md_behind.2.1 260 = .ok (.aload_n 0, 1) := by decide +kernel
theorem d_Md_behind_261 : decode mm_Md_behind.2.1 261 = .ok (.getfield 157, 3) := by decide +kernel
theorem d_Md_behind_264 : decode mm_Md_behind.2.1 264 = .ok (.iconst 1, 1) := by decide +kernel
theorem d_Md_behind_265 : decode mm_Md_behind.2.1 265 = .ok (.isub, 1) := by decide +kernel
theorem d_Md_behind_266 : decode mm_Md_behind.2.1 266 = .ok (.iaload, 1) := by decide +kernel
theorem d_Md_behind_267 : decode mm_Md_behind.2.1 267 = .ok (.iconst 1, 1) := by decide +kernel
theorem d_Md_behind_268 : decode mm_Md_behind.2.1 268 = .ok (.iadd, 1) := by decide +kernel
theorem d_Md_behind_269 : decode mm_Md_behind.2.1 269 = .ok (.aload_n 0, 1) := by decide +kernel
theorem d_Md_behind_270 : decode mm_Md_behind.2.1 270 = .ok (.getfield 60, 3) := by decide +kernel
theorem d_Md_behind_273 : decode mm_Md_behind.2.1 273 = .ok (.iload_n 2, 1) := by decide +kernel
theorem d_Md_behind_274 : decode mm_Md_behind.2.1 274 = .ok (.iaload, 1) := by decide +kernel
theorem d_Md_behind_275 : decode mm_Md_behind.2.1 275 = .ok (.invokestatic 192, 3) := by decide +kernel
theorem d_Md_behind_278 : decode mm_Md_behind.2.1 278 = .ok (.if_icmp .ge 9, 3) := by decide +kernel
theorem d_Md_behind_281 : decode mm_Md_behind.2.1 281 = .ok (.aload_n 0, 1) := by decide +kernel
theorem d_Md_behind_282 : decode mm_Md_behind.2.1 282 = .ok (.invokevirtual 189, 3) := by decide +kernel
theorem d_Md_behind_285 : decode mm_Md_behind.2.1 285 = .ok (.iconst 0, 1) := by decide +kernel
theorem d_Md_behind_286 : decode mm_Md_behind.2.1 286 = .ok (.ireturn, 1) := by decide +kernel
theorem d_Md_behind_287 : decode mm_Md_behind.2.1 287 = .ok (.iload_n 2, 1) := by decide +kernel
theorem d_Md_behind_288 : decode mm_Md_behind.2.1 288 = .ok (.ifCond .lt 28, 3) := by decide +kernel
theorem d_Md_behind_291 : decode mm_Md_behind.2.1 291 = .ok (.aload_n 0, 1) := by decide +kernel
theorem d_Md_behind_292 : decode mm_Md_behind.2.1 292 = .ok (.iload_n 2, 1) := by decide +kernel
theorem d_Md_behind_293 : decode mm_Md_behind.2.1 293 = .ok (.invokevirtual 195, 3) := by decide +kernel
theorem d_Md_behind_296 : decode mm_Md_behind.2.1 296 = .ok (.aload_n 0, 1) := by decide +kernel
theorem d_Md_behind_297 : decode mm_Md_behind.2.1 297 = .ok (.getfield 84, 3) := by decide +kernel
theorem d_Md_behind_300 : decode mm_Md_behind.2.1 300 = .ok (.aload_n 0, 1) := by decide +kernel
theorem d_Md_behind_301 : decode mm_Md_behind.2.1 301 = .ok (.getfield 166, 3) := by decide +kernel
theorem d_Md_behind_304 : decode mm_Md_behind.2.1 304 = .ok (.iload_n 2, 1) := by decide +kernel
theorem d_Md_behind_305 : decode mm_Md_behind.2.1 305 = .ok (.iastore, 1) := by decide +kernel
theorem d_Md_behind_306 : decode mm_Md_behind.2.1 306 = .ok (.aload_n 0, 1) := by decide +kernel
theorem d_Md_behind_307 : decode mm_Md_behind.2.1 307 = .ok (.dup, 1) := by decide +kernel
theorem d_Md_behind_308 : decode mm_Md_behind.2.1 308 = .ok (.getfield 166, 3) := by decide +kernel
theorem d_Md_behind_311 : decode mm_Md_behind.2.1 311 = .ok (.iconst 1, 1) := by decide +kernel
theorem d_Md_behind_312 : decode mm_Md_behind.2.1 312 = .ok (.iadd, 1) := by decide +kernel
theorem d_Md_behind_313 : decode mm_Md_behind.2.1 313 = .ok (.putfield 166, 3) := by decide +kernel
theorem d_Md_behind_316 : decode mm_Md_behind.2.1 316 = .ok (.aload_n 0, 1) := by decide +kernel
theorem d_Md_behind_317 : decode mm_Md_behind.2.1 317 = .ok (.dup, 1) := by decide +kernel
theorem d_Md_behind_318 : decode mm_Md_behind.2.1 318 = .ok (.getfield 157, 3) := by decide +kernel
theorem d_Md_behind_321 : decode mm_Md_behind.2.1 321 = .ok (.iconst 1, 1) := by decide +kernel
theorem d_Md_behind_322 : decode mm_Md_behind.2.1 322 = .ok (.isub, 1) := by decide +kernel
theorem d_Md_behind_323 : decode mm_Md_behind.2.1 323 = .ok (.putfield 157, 3) := by decide +kernel
theorem d_Md_behind_326 : decode mm_Md_behind.2.1 326 = .ok (.aload_n 0, 1) := by decide +kernel
theorem d_Md_behind_327 : decode mm_Md_behind.2.1 327 = .ok (.dup, 1) := by decide +kernel
theorem d_Md_behind_328 : decode mm_Md_behind.2.1 328 = .ok (.getfield 169, 3) := by decide +kernel
theorem d_Md_behind_331 : decode mm_Md_behind.2.1 331 = .ok (.iconst 1, 1) := by decide +kernel
theorem d_Md_behind_332 : decode mm_Md_behind.2.1 332 = .ok (.isub, 1) := by decide +kernel
theorem d_Md_behind_333 : decode mm_Md_behind.2.1 333 = .ok (.putfield 169, 3) := by decide +kernel
theorem d_Md_behind_336 : decode mm_Md_behind.2.1 336 = .ok (.aload_n 0, 1) := by decide +kernel
theorem d_Md_behind_337 : decode mm_Md_behind.2.1 337 = .ok (.invokevirtual 176, 3) := by decide +kernel
theorem d_Md_behind_340 : decode mm_Md_behind.2.1 340 = .ok (.aload_n 0, 1) := by decide +kernel
theorem d_Md_behind_341 : decode mm_Md_behind.2.1 341 = .ok (.iconst 3, 1) := by decide +kernel
theorem d_Md_behind_342 : decode mm_Md_behind.2.1 342 = .ok (.invokevirtual 179, 3) := by decide +kernel
theorem d_Md_behind_345 : decode mm_Md_behind.2.1 345 = .ok (.iconst 0, 1) := by decide +kernel
theorem d_Md_behind_346 : decode mm_Md_behind.2.1 346 = .ok (.ireturn, 1) := by decide +kernel
theorem d_Md_wants_0 : decode mm_Md_wants.2.1 0 = .ok (.iload_n 0, 1) := by decide +kernel
theorem d_Md_wants_1 : decode mm_Md_wants.2.1 1 = .ok (.bipush 9, 2) := by decide +kernel
theorem d_Md_wants_3 : decode mm_Md_wants.2.1 3 = .ok (.if_icmp .ne 7, 3) := by decide +kernel
theorem d_Md_wants_6 : decode mm_Md_wants.2.1 6 = .ok (.iconst 3, 1) := by decide +kernel
theorem d_Md_wants_7 : decode mm_Md_wants.2.1 7 = .ok (.goto 4, 3) := by decide +kernel
theorem d_Md_wants_10 : decode mm_Md_wants.2.1 10 = .ok (.iconst 2, 1) := by decide +kernel
theorem d_Md_wants_11 : decode mm_Md_wants.2.1 11 = .ok (.ireturn, 1) := by decide +kernel
theorem d_Md_give_0 : decode mm_Md_give.2.1 0 = .ok (.aload_n 0, 1) := by decide +kernel
theorem d_Md_give_1 : decode mm_Md_give.2.1 1 = .ok (.getfield 81, 3) := by decide +kernel
theorem d_Md_give_4 : decode mm_Md_give.2.1 4 = .ok (.aload_n 0, 1) := by decide +kernel
theorem d_Md_give_5 : decode mm_Md_give.2.1 5 = .ok (.getfield 157, 3) := by decide +kernel
theorem d_Md_give_8 : decode mm_Md_give.2.1 8 = .ok (.iconst 1, 1) := by decide +kernel
theorem d_Md_give_9 : decode mm_Md_give.2.1 9 = .ok (.isub, 1) := by decide +kernel
theorem d_Md_give_10 : decode mm_Md_give.2.1 10 = .ok (.iaload, 1) := by decide +kernel
theorem d_Md_give_11 : decode mm_Md_give.2.1 11 = .ok (.istore_n 2, 1) := by decide +kernel
theorem d_Md_give_12 : decode mm_Md_give.2.1 12 = .ok (.aload_n 0, 1) := by decide +kernel
theorem d_Md_give_13 : decode mm_Md_give.2.1 13 = .ok (.getfield 81, 3) := by decide +kernel
theorem d_Md_give_16 : decode mm_Md_give.2.1 16 = .ok (.aload_n 0, 1) := by decide +kernel
theorem d_Md_give_17 : decode mm_Md_give.2.1 17 = .ok (.getfield 157, 3) := by decide +kernel
theorem d_Md_give_20 : decode mm_Md_give.2.1 20 = .ok (.iconst 1, 1) := by decide +kernel
theorem d_Md_give_21 : decode mm_Md_give.2.1 21 = .ok (.isub, 1) := by decide +kernel
theorem d_Md_give_22 : decode mm_Md_give.2.1 22 = .ok (.dup2, 1) := by decide +kernel
theorem d_Md_give_23 : decode mm_Md_give.2.1 23 = .ok (.iaload, 1) := by decide +kernel
theorem d_Md_give_24 : decode mm_Md_give.2.1 24 = .ok (.iconst 1, 1) := by decide +kernel
theorem d_Md_give_25 : decode mm_Md_give.2.1 25 = .ok (.iadd, 1) := by decide +kernel
theorem d_Md_give_26 : decode mm_Md_give.2.1 26 = .ok (.iastore, 1) := by decide +kernel
theorem d_Md_give_27 : decode mm_Md_give.2.1 27 = .ok (.aload_n 0, 1) := by decide +kernel
theorem d_Md_give_28 : decode mm_Md_give.2.1 28 = .ok (.dup, 1) := by decide +kernel
theorem d_Md_give_29 : decode mm_Md_give.2.1 29 = .ok (.getfield 166, 3) := by decide +kernel
theorem d_Md_give_32 : decode mm_Md_give.2.1 32 = .ok (.iconst 1, 1) := by decide +kernel
theorem d_Md_give_33 : decode mm_Md_give.2.1 33 = .ok (.isub, 1) := by decide +kernel
theorem d_Md_give_34 : decode mm_Md_give.2.1 34 = .ok (.putfield 166, 3) := by decide +kernel
theorem d_Md_give_37 : decode mm_Md_give.2.1 37 = .ok (.iload_n 2, 1) := by decide +kernel
theorem d_Md_give_38 : decode mm_Md_give.2.1 38 = .ok (.ifCond .ne 21, 3) := by decide +kernel
theorem d_Md_give_41 : decode mm_Md_give.2.1 41 = .ok (.aload_n 0, 1) := by decide +kernel
theorem d_Md_give_42 : decode mm_Md_give.2.1 42 = .ok (.getfield 63, 3) := by decide +kernel
theorem d_Md_give_45 : decode mm_Md_give.2.1 45 = .ok (.iload_n 1, 1) := by decide +kernel
theorem d_Md_give_46 : decode mm_Md_give.2.1 46 = .ok (.aload_n 0, 1) := by decide +kernel
theorem d_Md_give_47 : decode mm_Md_give.2.1 47 = .ok (.getfield 84, 3) := by decide +kernel
theorem d_Md_give_50 : decode mm_Md_give.2.1 50 = .ok (.aload_n 0, 1) := by decide +kernel
theorem d_Md_give_51 : decode mm_Md_give.2.1 51 = .ok (.getfield 166, 3) := by decide +kernel
theorem d_Md_give_54 : decode mm_Md_give.2.1 54 = .ok (.iaload, 1) := by decide +kernel
theorem d_Md_give_55 : decode mm_Md_give.2.1 55 = .ok (.iastore, 1) := by decide +kernel
theorem d_Md_give_56 : decode mm_Md_give.2.1 56 = .ok (.goto 41, 3) := by decide +kernel
theorem d_Md_give_59 : decode mm_Md_give.2.1 59 = .ok (.iload_n 2, 1) := by decide +kernel
theorem d_Md_give_60 : decode mm_Md_give.2.1 60 = .ok (.iconst 1, 1) := by decide +kernel
theorem d_Md_give_61 : decode mm_Md_give.2.1 61 = .ok (.if_icmp .ne 21, 3) := by decide +kernel
theorem d_Md_give_64 : decode mm_Md_give.2.1 64 = .ok (.aload_n 0, 1) := by decide +kernel
theorem d_Md_give_65 : decode mm_Md_give.2.1 65 = .ok (.getfield 66, 3) := by decide +kernel
theorem d_Md_give_68 : decode mm_Md_give.2.1 68 = .ok (.iload_n 1, 1) := by decide +kernel
theorem d_Md_give_69 : decode mm_Md_give.2.1 69 = .ok (.aload_n 0, 1) := by decide +kernel
theorem d_Md_give_70 : decode mm_Md_give.2.1 70 = .ok (.getfield 84, 3) := by decide +kernel
theorem d_Md_give_73 : decode mm_Md_give.2.1 73 = .ok (.aload_n 0, 1) := by decide +kernel
theorem d_Md_give_74 : decode mm_Md_give.2.1 74 = .ok (.getfield 166, 3) := by decide +kernel
theorem d_Md_give_77 : decode mm_Md_give.2.1 77 = .ok (.iaload, 1) := by decide +kernel
theorem d_Md_give_78 : decode mm_Md_give.2.1 78 = .ok (.iastore, 1) := by decide +kernel
theorem d_Md_give_79 : decode mm_Md_give.2.1 79 = .ok (.goto 18, 3) := by decide +kernel
theorem d_Md_give_82 : decode mm_Md_give.2.1 82 = .ok (.aload_n 0, 1) := by decide +kernel
theorem d_Md_give_83 : decode mm_Md_give.2.1 83 = .ok (.getfield 69, 3) := by decide +kernel
theorem d_Md_give_86 : decode mm_Md_give.2.1 86 = .ok (.iload_n 1, 1) := by decide +kernel
theorem d_Md_give_87 : decode mm_Md_give.2.1 87 = .ok (.aload_n 0, 1) := by decide +kernel
theorem d_Md_give_88 : decode mm_Md_give.2.1 88 = .ok (.getfield 84, 3) := by decide +kernel
theorem d_Md_give_91 : decode mm_Md_give.2.1 91 = .ok (.aload_n 0, 1) := by decide +kernel
theorem d_Md_give_92 : decode mm_Md_give.2.1 92 = .ok (.getfield 166, 3) := by decide +kernel
theorem d_Md_give_95 : decode mm_Md_give.2.1 95 = .ok (.iaload, 1) := by decide +kernel
theorem d_Md_give_96 : decode mm_Md_give.2.1 96 = .ok (.iastore, 1) := by decide +kernel
theorem d_Md_give_97 : decode mm_Md_give.2.1 97 = .ok (.return_, 1) := by decide +kernel
theorem d_Md_cellOf_0 : decode mm_Md_cellOf.2.1 0 = .ok (.iconst 0, 1) := by decide +kernel
theorem d_Md_cellOf_1 : decode mm_Md_cellOf.2.1 1 = .ok (.istore_n 3, 1) := by decide +kernel
theorem d_Md_cellOf_2 : decode mm_Md_cellOf.2.1 2 = .ok (.iload_n 3, 1) := by decide +kernel
theorem d_Md_cellOf_3 : decode mm_Md_cellOf.2.1 3 = .ok (.bipush 64, 2) := by decide +kernel
theorem d_Md_cellOf_5 : decode mm_Md_cellOf.2.1 5 = .ok (.if_icmp .ge 31, 3) := by decide +kernel
theorem d_Md_cellOf_8 : decode mm_Md_cellOf.2.1 8 = .ok (.aload_n 0, 1) := by decide +kernel
theorem d_Md_cellOf_9 : decode mm_Md_cellOf.2.1 9 = .ok (.getfield 13, 3) := by decide +kernel
theorem d_Md_cellOf_12 : decode mm_Md_cellOf.2.1 12 = .ok (.iload_n 3, 1) := by decide +kernel
theorem d_Md_cellOf_13 : decode mm_Md_cellOf.2.1 13 = .ok (.baload, 1) := by decide +kernel
theorem d_Md_cellOf_14 : decode mm_Md_cellOf.2.1 14 = .ok (.ifCond .eq 16, 3) := by decide +kernel
theorem d_Md_cellOf_17 : decode mm_Md_cellOf.2.1 17 = .ok (.aload_n 0, 1) := by decide +kernel
theorem d_Md_cellOf_18 : decode mm_Md_cellOf.2.1 18 = .ok (.getfield 17, 3) := by decide +kernel
theorem d_Md_cellOf_21 : decode mm_Md_cellOf.2.1 21 = .ok (.iload_n 3, 1) := by decide +kernel
theorem d_Md_cellOf_22 : decode mm_Md_cellOf.2.1 22 = .ok (.laload, 1) := by decide +kernel
theorem d_Md_cellOf_23 : decode mm_Md_cellOf.2.1 23 = .ok (.lload_n 1, 1) := by decide +kernel
theorem d_Md_cellOf_24 : decode mm_Md_cellOf.2.1 24 = .ok (.lcmp, 1) := by decide +kernel
theorem d_Md_cellOf_25 : decode mm_Md_cellOf.2.1 25 = .ok (.ifCond .ne 5, 3) := by decide +kernel
theorem d_Md_cellOf_28 : decode mm_Md_cellOf.2.1 28 = .ok (.iload_n 3, 1) := by decide +kernel
theorem d_Md_cellOf_29 : decode mm_Md_cellOf.2.1 29 = .ok (.ireturn, 1) := by decide +kernel
theorem d_Md_cellOf_30 : decode mm_Md_cellOf.2.1 30 = .ok (.iinc 3 1, 3) := by decide +kernel
theorem d_Md_cellOf_33 : decode mm_Md_cellOf.2.1 33 = .ok (.goto (-31), 3) := by decide +kernel
theorem d_Md_cellOf_36 : decode mm_Md_cellOf.2.1 36 = .ok (.iconst (-1), 1) := by decide +kernel
theorem d_Md_cellOf_37 : decode mm_Md_cellOf.2.1 37 = .ok (.ireturn, 1) := by decide +kernel
theorem d_Md_cellCount_0 : decode mm_Md_cellCount.2.1 0 = .ok (.iconst 0, 1) := by decide +kernel
theorem d_Md_cellCount_1 : decode mm_Md_cellCount.2.1 1 = .ok (.istore_n 1, 1) := by decide +kernel
theorem d_Md_cellCount_2 : decode mm_Md_cellCount.2.1 2 = .ok (.iconst 0, 1) := by decide +kernel
theorem d_Md_cellCount_3 : decode mm_Md_cellCount.2.1 3 = .ok (.istore_n 2, 1) := by decide +kernel
theorem d_Md_cellCount_4 : decode mm_Md_cellCount.2.1 4 = .ok (.iload_n 2, 1) := by decide +kernel
theorem d_Md_cellCount_5 : decode mm_Md_cellCount.2.1 5 = .ok (.bipush 64, 2) := by decide +kernel
theorem d_Md_cellCount_7 : decode mm_Md_cellCount.2.1 7 = .ok (.if_icmp .ge 26, 3) := by decide +kernel
theorem d_Md_cellCount_10 : decode mm_Md_cellCount.2.1 10 = .ok (.aload_n 0, 1) := by decide +kernel
theorem d_Md_cellCount_11 : decode mm_Md_cellCount.2.1 11 = .ok (.getfield 13, 3) := by decide +kernel
theorem d_Md_cellCount_14 : decode mm_Md_cellCount.2.1 14 = .ok (.iload_n 2, 1) := by decide +kernel
theorem d_Md_cellCount_15 : decode mm_Md_cellCount.2.1 15 = .ok (.baload, 1) := by decide +kernel
theorem d_Md_cellCount_16 : decode mm_Md_cellCount.2.1 16 = .ok (.ifCond .eq 9, 3) := by decide +kernel
theorem d_Md_cellCount_19 : decode mm_Md_cellCount.2.1 19 = .ok (.iload_n 1, 1) := by decide +kernel
theorem d_Md_cellCount_20 : decode mm_Md_cellCount.2.1 20 = .ok (.iconst 1, 1) := by decide +kernel
theorem d_Md_cellCount_21 : decode mm_Md_cellCount.2.1 21 = .ok (.iadd, 1) := by decide +kernel
theorem d_Md_cellCount_22 : decode mm_Md_cellCount.2.1 22 = .ok (.goto 4, 3) := by decide +kernel
theorem d_Md_cellCount_25 : decode mm_Md_cellCount.2.1 25 = .ok (.iload_n 1, 1) := by decide +kernel
theorem d_Md_cellCount_26 : decode mm_Md_cellCount.2.1 26 = .ok (.istore_n 1, 1) := by decide +kernel
theorem d_Md_cellCount_27 : decode mm_Md_cellCount.2.1 27 = .ok (.iinc 2 1, 3) := by decide +kernel
theorem d_Md_cellCount_30 : decode mm_Md_cellCount.2.1 30 = .ok (.goto (-26), 3) := by decide +kernel
theorem d_Md_cellCount_33 : decode mm_Md_cellCount.2.1 33 = .ok (.iload_n 1, 1) := by decide +kernel
theorem d_Md_cellCount_34 : decode mm_Md_cellCount.2.1 34 = .ok (.ireturn, 1) := by decide +kernel
theorem d_Md_readersOf_0 : decode mm_Md_readersOf.2.1 0 = .ok (.lconst 0, 1) := by decide +kernel
theorem d_Md_readersOf_1 : decode mm_Md_readersOf.2.1 1 = .ok (.lstore_n 3, 1) := by decide +kernel
theorem d_Md_readersOf_2 : decode mm_Md_readersOf.2.1 2 = .ok (.ldc2_w 205, 3) := by decide +kernel
theorem d_Md_readersOf_5 : decode mm_Md_readersOf.2.1 5 = .ok (.lstore 5, 2) := by decide +kernel
theorem d_Md_readersOf_7 : decode mm_Md_readersOf.2.1 7 = .ok (.lload_n 3, 1) := by decide +kernel
theorem d_Md_readersOf_8 : decode mm_Md_readersOf.2.1 8 = .ok (.lload 5, 2) := by decide +kernel
theorem d_Md_readersOf_10 : decode mm_Md_readersOf.2.1 10 = .ok (.lcmp, 1) := by decide +kernel
theorem d_Md_readersOf_11 : decode mm_Md_readersOf.2.1 11 = .ok (.ifCond .eq 133, 3) := by decide +kernel
theorem d_Md_readersOf_14 : decode mm_Md_readersOf.2.1 14 = .ok (.lload_n 3, 1) := by decide +kernel
theorem d_Md_readersOf_15 : decode mm_Md_readersOf.2.1 15 = .ok (.lstore 5, 2) := by decide +kernel
theorem d_Md_readersOf_17 : decode mm_Md_readersOf.2.1 17 = .ok (.iconst 0, 1) := by decide +kernel
theorem d_Md_readersOf_18 : decode mm_Md_readersOf.2.1 18 = .ok (.istore 7, 2) := by decide +kernel
theorem d_Md_readersOf_20 : decode mm_Md_readersOf.2.1 20 = .ok (.iload 7, 2) := by decide +kernel
theorem d_Md_readersOf_22 : decode mm_Md_readersOf.2.1 22 = .ok (.bipush 64, 2) := by decide +kernel
theorem d_Md_readersOf_24 : decode mm_Md_readersOf.2.1 24 = .ok (.if_icmp .ge 117, 3) := by decide +kernel
theorem d_Md_readersOf_27 : decode mm_Md_readersOf.2.1 27 = .ok (.aload_n 0, 1) := by decide +kernel
theorem d_Md_readersOf_28 : decode mm_Md_readersOf.2.1 28 = .ok (.getfield 13, 3) := by decide +kernel
theorem d_Md_readersOf_31 : decode mm_Md_readersOf.2.1 31 = .ok (.iload 7, 2) := by decide +kernel
theorem d_Md_readersOf_33 : decode mm_Md_readersOf.2.1 33 = .ok (.baload, 1) := by decide +kernel
theorem d_Md_readersOf_34 : decode mm_Md_readersOf.2.1 34 = .ok (.ifCond .eq 17, 3) := by decide +kernel
theorem d_Md_readersOf_37 : decode mm_Md_readersOf.2.1 37 = .ok (.aload_n 0, 1) := by decide +kernel
theorem d_Md_readersOf_38 : decode mm_Md_readersOf.2.1 38 = .ok (.iload 7, 2) := by decide +kernel
theorem d_Md_readersOf_40 : decode mm_Md_readersOf.2.1 40 = .ok (.lload_n 1, 1) := by decide +kernel
theorem d_Md_readersOf_41 : decode mm_Md_readersOf.2.1 41 = .ok (.invokevirtual 207, 3) := by decide +kernel
theorem d_Md_readersOf_44 : decode mm_Md_readersOf.2.1 44 = .ok (.ifCond .eq 7, 3) := by decide +kernel
theorem d_Md_readersOf_47 : decode mm_Md_readersOf.2.1 47 = .ok (.iconst 1, 1) := by decide +kernel
theorem d_Md_readersOf_48 : decode mm_Md_readersOf.2.1 48 = .ok (.goto 4, 3) := by decide +kernel
theorem d_Md_readersOf_51 : decode mm_Md_readersOf.2.1 51 = .ok (.iconst 0, 1) := by decide +kernel
theorem d_Md_readersOf_52 : decode mm_Md_readersOf.2.1 52 = .ok (.istore 8, 2) := by decide +kernel
theorem d_Md_readersOf_54 : decode mm_Md_readersOf.2.1 54 = .ok (.iconst 0, 1) := by decide +kernel
theorem d_Md_readersOf_55 : decode mm_Md_readersOf.2.1 55 = .ok (.istore 9, 2) := by decide +kernel
theorem d_Md_readersOf_57 : decode mm_Md_readersOf.2.1 57 = .ok (.iload 9, 2) := by decide +kernel
theorem d_Md_readersOf_59 : decode mm_Md_readersOf.2.1 59 = .ok (.bipush 64, 2) := by decide +kernel
theorem d_Md_readersOf_61 : decode mm_Md_readersOf.2.1 61 = .ok (.if_icmp .ge 58, 3) := by decide +kernel
theorem d_Md_readersOf_64 : decode mm_Md_readersOf.2.1 64 = .ok (.iload 8, 2) := by decide +kernel
theorem d_Md_readersOf_66 : decode mm_Md_readersOf.2.1 66 = .ok (.ifCond .ne 40, 3) := by decide +kernel
theorem d_Md_readersOf_69 : decode mm_Md_readersOf.2.1 69 = .ok (.aload_n 0, 1) := by decide +kernel
theorem d_Md_readersOf_70 : decode mm_Md_readersOf.2.1 70 = .ok (.getfield 13, 3) := by decide +kernel
theorem d_Md_readersOf_73 : decode mm_Md_readersOf.2.1 73 = .ok (.iload 7, 2) := by decide +kernel
theorem d_Md_readersOf_75 : decode mm_Md_readersOf.2.1 75 = .ok (.baload, 1) := by decide +kernel
theorem d_Md_readersOf_76 : decode mm_Md_readersOf.2.1 76 = .ok (.ifCond .eq 34, 3) := by decide +kernel
theorem d_Md_readersOf_79 : decode mm_Md_readersOf.2.1 79 = .ok (.lload_n 3, 1) := by decide +kernel
theorem d_Md_readersOf_80 : decode mm_Md_readersOf.2.1 80 = .ok (.iload 9, 2) := by decide +kernel
theorem d_Md_readersOf_82 : decode mm_Md_readersOf.2.1 82 = .ok (.lshr, 1) := by decide +kernel
theorem d_Md_readersOf_83 : decode mm_Md_readersOf.2.1 83 = .ok (.lconst 1, 1) := by decide +kernel
theorem d_Md_readersOf_84 : decode mm_Md_readersOf.2.1 84 = .ok (.land, 1) := by decide +kernel
theorem d_Md_readersOf_85 : decode mm_Md_readersOf.2.1 85 = .ok (.lconst 1, 1) := by decide +kernel
theorem d_Md_readersOf_86 : decode mm_Md_readersOf.2.1 86 = .ok (.lcmp, 1) := by decide +kernel
theorem d_Md_readersOf_87 : decode mm_Md_readersOf.2.1 87 = .ok (.ifCond .ne 23, 3) := by decide +kernel
theorem d_Md_readersOf_90 : decode mm_Md_readersOf.2.1 90 = .ok (.aload_n 0, 1) := by decide +kernel
theorem d_Md_readersOf_91 : decode mm_Md_readersOf.2.1 91 = .ok (.iload 7, 2) := by decide +kernel
theorem d_Md_readersOf_93 : decode mm_Md_readersOf.2.1 93 = .ok (.aload_n 0, 1) := by decide +kernel
theorem d_Md_readersOf_94 : decode mm_Md_readersOf.2.1 94 = .ok (.getfield 17, 3) := by decide +kernel
theorem d_Md_readersOf_97 : decode mm_Md_readersOf.2.1 97 = .ok (.iload 9, 2) := by decide +kernel
theorem d_Md_readersOf_99 : decode mm_Md_readersOf.2.1 99 = .ok (.laload, 1) := by decide +kernel
theorem d_Md_readersOf_100 : decode mm_Md_readersOf.2.1 100 = .ok (.invokevirtual 207, 3) := by decide +kernel
theorem d_Md_readersOf_103 : decode mm_Md_readersOf.2.1 103 = .ok (.ifCond .eq 7, 3) := by decide +kernel
theorem d_Md_readersOf_106 : decode mm_Md_readersOf.2.1 106 = .ok (.iconst 1, 1) := by decide +kernel
theorem d_Md_readersOf_107 : decode mm_Md_readersOf.2.1 107 = .ok (.goto 4, 3) := by decide +kernel
theorem d_Md_readersOf_110 : decode mm_Md_readersOf.2.1 110 = .ok (.iconst 0, 1) := by decide +kernel
theorem d_Md_readersOf_111 : decode mm_Md_readersOf.2.1 111 = .ok (.istore 8, 2) := by decide +kernel
theorem d_Md_readersOf_113 : decode mm_Md_readersOf.2.1 113 = .ok (.iinc 9 1, 3) := by decide +kernel
theorem d_Md_readersOf_116 : decode mm_Md_readersOf.2.1 116 = .ok (.goto (-59), 3) := by decide +kernel
theorem d_Md_readersOf_119 : decode mm_Md_readersOf.2.1 119 = .ok (.iload 8, 2) := by decide +kernel
theorem d_Md_readersOf_121 : decode mm_Md_readersOf.2.1 121 = .ok (.ifCond .eq 12, 3) := by decide +kernel
theorem d_Md_readersOf_124 : decode mm_Md_readersOf.2.1 124 = .ok (.lload_n 3, 1) := by decide +kernel
theorem d_Md_readersOf_125 : decode mm_Md_readersOf.2.1 125 = .ok (.lconst 1, 1) := by decide +kernel
theorem d_Md_readersOf_126 : decode mm_Md_readersOf.2.1 126 = .ok (.iload 7, 2) := by decide +kernel
theorem d_Md_readersOf_128 : decode mm_Md_readersOf.2.1 128 = .ok (.lshl, 1) := by decide +kernel
theorem d_Md_readersOf_129 : decode mm_Md_readersOf.2.1 129 = .ok (.lor, 1) := by decide +kernel
theorem d_Md_readersOf_130 : decode mm_Md_readersOf.2.1 130 = .ok (.goto 4, 3) := by decide +kernel
theorem d_Md_readersOf_133 : decode mm_Md_readersOf.2.1 133 = .ok (.lload_n 3, 1) := by decide +kernel
theorem d_Md_readersOf_134 : decode mm_Md_readersOf.2.1 134 = .ok (.lstore_n 3, 1) := by decide +kernel
theorem d_Md_readersOf_135 : decode mm_Md_readersOf.2.1 135 = .ok (.iinc 7 1, 3) := by decide +kernel
theorem d_Md_readersOf_138 : decode mm_Md_readersOf.2.1 138 = .ok (.goto (-118), 3) := by decide +kernel
theorem d_Md_readersOf_141 : decode mm_Md_readersOf.2.1 141 = .ok (.goto (-134), 3) := by decide +kernel
theorem d_Md_readersOf_144 : decode mm_Md_readersOf.2.1 144 = .ok (.lload_n 3, 1) := by decide +kernel
theorem d_Md_readersOf_145 : decode mm_Md_readersOf.2.1 145 = .ok (.lreturn, 1) := by decide +kernel
theorem d_Md_reads_0 : decode mm_Md_reads.2.1 0 = .ok (.bipush 40, 2) := by decide +kernel
theorem d_Md_reads_2 : decode mm_Md_reads.2.1 2 = .ok (.iload_n 1, 1) := by decide +kernel
theorem d_Md_reads_3 : decode mm_Md_reads.2.1 3 = .ok (.imul, 1) := by decide +kernel
theorem d_Md_reads_4 : decode mm_Md_reads.2.1 4 = .ok (.istore 4, 2) := by decide +kernel
theorem d_Md_reads_6 : decode mm_Md_reads.2.1 6 = .ok (.iload 4, 2) := by decide +kernel
theorem d_Md_reads_8 : decode mm_Md_reads.2.1 8 = .ok (.bipush 40, 2) := by decide +kernel
theorem d_Md_reads_10 : decode mm_Md_reads.2.1 10 = .ok (.iload_n 1, 1) := by decide +kernel
theorem d_Md_reads_11 : decode mm_Md_reads.2.1 11 = .ok (.imul, 1) := by decide +kernel
theorem d_Md_reads_12 : decode mm_Md_reads.2.1 12 = .ok (.aload_n 0, 1) := by decide +kernel
theorem d_Md_reads_13 : decode mm_Md_reads.2.1 13 = .ok (.getfield 33, 3) := by decide +kernel
theorem d_Md_reads_16 : decode mm_Md_reads.2.1 16 = .ok (.iload_n 1, 1) := by decide +kernel
theorem d_Md_reads_17 : decode mm_Md_reads.2.1 17 = .ok (.iaload, 1) := by decide +kernel
theorem d_Md_reads_18 : decode mm_Md_reads.2.1 18 = .ok (.iadd, 1) := by decide +kernel
theorem d_Md_reads_19 : decode mm_Md_reads.2.1 19 = .ok (.if_icmp .ge 34, 3) := by decide +kernel
theorem d_Md_reads_22 : decode mm_Md_reads.2.1 22 = .ok (.aload_n 0, 1) := by decide +kernel
theorem d_Md_reads_23 : decode mm_Md_reads.2.1 23 = .ok (.getfield 36, 3) := by decide +kernel
theorem d_Md_reads_26 : decode mm_Md_reads.2.1 26 = .ok (.iload 4, 2) := by decide +kernel
theorem d_Md_reads_28 : decode mm_Md_reads.2.1 28 = .ok (.iaload, 1) := by decide +kernel
theorem d_Md_reads_29 : decode mm_Md_reads.2.1 29 = .ok (.iconst 1, 1) := by decide +kernel
theorem d_Md_reads_30 : decode mm_Md_reads.2.1 30 = .ok (.if_icmp .ne 17, 3) := by decide +kernel
theorem d_Md_reads_33 : decode mm_Md_reads.2.1 33 = .ok (.aload_n 0, 1) := by decide +kernel
theorem d_Md_reads_34 : decode mm_Md_reads.2.1 34 = .ok (.getfield 48, 3) := by decide +kernel
theorem d_Md_reads_37 : decode mm_Md_reads.2.1 37 = .ok (.iload 4, 2) := by decide +kernel
theorem d_Md_reads_39 : decode mm_Md_reads.2.1 39 = .ok (.laload, 1) := by decide +kernel
theorem d_Md_reads_40 : decode mm_Md_reads.2.1 40 = .ok (.lload_n 2, 1) := by decide +kernel
theorem d_Md_reads_41 : decode mm_Md_reads.2.1 41 = .ok (.lcmp, 1) := by decide +kernel
theorem d_Md_reads_42 : decode mm_Md_reads.2.1 42 = .ok (.ifCond .ne 5, 3) := by decide +kernel
theorem d_Md_reads_45 : decode mm_Md_reads.2.1 45 = .ok (.iconst 1, 1) := by decide +kernel
theorem d_Md_reads_46 : decode mm_Md_reads.2.1 46 = .ok (.ireturn, 1) := by decide +kernel
theorem d_Md_reads_47 : decode mm_Md_reads.2.1 47 = .ok (.iinc 4 1, 3) := by decide +kernel
theorem d_Md_reads_50 : decode mm_Md_reads.2.1 50 = .ok (.goto (-44), 3) := by decide +kernel
theorem d_Md_reads_53 : decode mm_Md_reads.2.1 53 = .ok (.iconst 0, 1) := by decide +kernel
theorem d_Md_reads_54 : decode mm_Md_reads.2.1 54 = .ok (.ireturn, 1) := by decide +kernel
theorem d_Md_remove_0 : decode mm_Md_remove.2.1 0 = .ok (.aload_n 0, 1) := by decide +kernel
theorem d_Md_remove_1 : decode mm_Md_remove.2.1 1 = .ok (.aload_n 0, 1) := by decide +kernel
theorem d_Md_remove_2 : decode mm_Md_remove.2.1 2 = .ok (.invokevirtual 269, 3) := by decide +kernel
theorem d_Md_remove_5 : decode mm_Md_remove.2.1 5 = .ok (.ifCond .eq 7, 3) := by decide +kernel
theorem d_Md_remove_8 : decode mm_Md_remove.2.1 8 = .ok (.iconst 0, 1) := by decide +kernel
theorem d_Md_remove_9 : decode mm_Md_remove.2.1 9 = .ok (.goto 4, 3) := by decide +kernel
theorem d_Md_remove_12 : decode mm_Md_remove.2.1 12 = .ok (.iconst 1, 1) := by decide +kernel
theorem d_Md_remove_13 : decode mm_Md_remove.2.1 13 = .ok (.putfield 96, 3) := by decide +kernel
theorem d_Md_remove_16 : decode mm_Md_remove.2.1 16 = .ok (.aload_n 0, 1) := by decide +kernel
theorem d_Md_remove_17 : decode mm_Md_remove.2.1 17 = .ok (.getfield 96, 3) := by decide +kernel
theorem d_Md_remove_20 : decode mm_Md_remove.2.1 20 = .ok (.ifCond .le 5, 3) := by decide +kernel
theorem d_Md_remove_23 : decode mm_Md_remove.2.1 23 = .ok (.iconst 0, 1) := by decide +kernel
theorem d_Md_remove_24 : decode mm_Md_remove.2.1 24 = .ok (.ireturn, 1) := by decide +kernel
theorem d_Md_remove_25 : decode mm_Md_remove.2.1 25 = .ok (.aload_n 0, 1) := by decide +kernel
theorem d_Md_remove_26 : decode mm_Md_remove.2.1 26 = .ok (.iconst 0, 1) := by decide +kernel
theorem d_Md_remove_27 : decode mm_Md_remove.2.1 27 = .ok (.putfield 100, 3) := by decide +kernel
theorem d_Md_remove_30 : decode mm_Md_remove.2.1 30 = .ok (.aload_n 0, 1) := by decide +kernel
theorem d_Md_remove_31 : decode mm_Md_remove.2.1 31 = .ok (.aload_n 0, 1) := by decide +kernel
theorem d_Md_remove_32 : decode mm_Md_remove.2.1 32 = .ok (.getfield 123, 3) := by decide +kernel
theorem d_Md_remove_35 : decode mm_Md_remove.2.1 35 = .ok (.invokevirtual 214, 3) := by decide +kernel
theorem d_Md_remove_38 : decode mm_Md_remove.2.1 38 = .ok (.istore_n 1, 1) := by decide +kernel
theorem d_Md_remove_39 : decode mm_Md_remove.2.1 39 = .ok (.iload_n 1, 1) := by decide +kernel
theorem d_Md_remove_40 : decode mm_Md_remove.2.1 40 = .ok (.ifCond .lt 10, 3) := by decide +kernel
theorem d_Md_remove_43 : decode mm_Md_remove.2.1 43 = .ok (.aload_n 0, 1) := by decide +kernel
theorem d_Md_remove_44 : decode mm_Md_remove.2.1 44 = .ok (.getfield 13, 3) := by decide +kernel
theorem d_Md_remove_47 : decode mm_Md_remove.2.1 47 = .ok (.iload_n 1, 1) := by decide +kernel
theorem d_Md_remove_48 : decode mm_Md_remove.2.1 48 = .ok (.iconst 0, 1) := by decide +kernel
theorem d_Md_remove_49 : decode mm_Md_remove.2.1 49 = .ok (.bastore, 1) := by decide +kernel
theorem d_Md_remove_50 : decode mm_Md_remove.2.1 50 = .ok (.iload_n 1, 1) := by decide +kernel
theorem d_Md_remove_51 : decode mm_Md_remove.2.1 51 = .ok (.ifCond .lt 7, 3) := by decide +kernel
theorem d_Md_remove_54 : decode mm_Md_remove.2.1 54 = .ok (.iconst 1, 1) := by decide +kernel
theorem d_Md_remove_55 : decode mm_Md_remove.2.1 55 = .ok (.goto 4, 3) := by decide +kernel
theorem d_Md_remove_58 : decode mm_Md_remove.2.1 58 = .ok (.iconst 0, 1) := by decide +kernel
theorem d_Md_remove_59 : decode mm_Md_remove.2.1 59 = .ok (.ireturn, 1) := by decide +kernel
theorem d_Md_isName_0 : decode mm_Md_isName.2.1 0 = .ok (.aload_n 0, 1) := by decide +kernel
theorem d_Md_isName_1 : decode mm_Md_isName.2.1 1 = .ok (.iconst 0, 1) := by decide +kernel
theorem d_Md_isName_2 : decode mm_Md_isName.2.1 2 = .ok (.putfield 103, 3) := by decide +kernel
theorem d_Md_isName_5 : decode mm_Md_isName.2.1 5 = .ok (.aload_n 0, 1) := by decide +kernel
theorem d_Md_isName_6 : decode mm_Md_isName.2.1 6 = .ok (.invokevirtual 176, 3) := by decide +kernel
theorem d_Md_isName_9 : decode mm_Md_isName.2.1 9 = .ok (.aload_n 0, 1) := by decide +kernel
theorem d_Md_isName_10 : decode mm_Md_isName.2.1 10 = .ok (.getfield 123, 3) := by decide +kernel
theorem d_Md_isName_13 : decode mm_Md_isName.2.1 13 = .ok (.lstore_n 1, 1) := by decide +kernel
theorem d_Md_isName_14 : decode mm_Md_isName.2.1 14 = .ok (.aload_n 0, 1) := by decide +kernel
theorem d_Md_isName_15 : decode mm_Md_isName.2.1 15 = .ok (.getfield 117, 3) := by decide +kernel
theorem d_Md_isName_18 : decode mm_Md_isName.2.1 18 = .ok (.iconst 1, 1) := by decide +kernel
theorem d_Md_isName_19 : decode mm_Md_isName.2.1 19 = .ok (.if_icmp .ne 7, 3) := by decide +kernel
theorem d_Md_isName_22 : decode mm_Md_isName.2.1 22 = .ok (.iconst 1, 1) := by decide +kernel
theorem d_Md_isName_23 : decode mm_Md_isName.2.1 23 = .ok (.goto 4, 3) := by decide +kernel
theorem d_Md_isName_26 : decode mm_Md_isName.2.1 26 = .ok (.iconst 0, 1) := by decide +kernel
theorem d_Md_isName_27 : decode mm_Md_isName.2.1 27 = .ok (.istore_n 3, 1) := by decide +kernel
theorem d_Md_isName_28 : decode mm_Md_isName.2.1 28 = .ok (.aload_n 0, 1) := by decide +kernel
theorem d_Md_isName_29 : decode mm_Md_isName.2.1 29 = .ok (.invokevirtual 176, 3) := by decide +kernel
theorem d_Md_isName_32 : decode mm_Md_isName.2.1 32 = .ok (.iload_n 3, 1) := by decide +kernel
theorem d_Md_isName_33 : decode mm_Md_isName.2.1 33 = .ok (.ifCond .eq 16, 3) := by decide +kernel
theorem d_Md_isName_36 : decode mm_Md_isName.2.1 36 = .ok (.aload_n 0, 1) := by decide +kernel
theorem d_Md_isName_37 : decode mm_Md_isName.2.1 37 = .ok (.getfield 117, 3) := by decide +kernel
theorem d_Md_isName_40 : decode mm_Md_isName.2.1 40 = .ok (.bipush (-2), 2) := by decide +kernel
theorem d_Md_isName_42 : decode mm_Md_isName.2.1 42 = .ok (.if_icmp .ne 7, 3) := by decide +kernel
theorem d_Md_isName_45 : decode mm_Md_isName.2.1 45 = .ok (.iconst 1, 1) := by decide +kernel
theorem d_Md_isName_46 : decode mm_Md_isName.2.1 46 = .ok (.goto 4, 3) := by decide +kernel
theorem d_Md_isName_49 : decode mm_Md_isName.2.1 49 = .ok (.iconst 0, 1) := by decide +kernel
theorem d_Md_isName_50 : decode mm_Md_isName.2.1 50 = .ok (.istore_n 3, 1) := by decide +kernel
theorem d_Md_isName_51 : decode mm_Md_isName.2.1 51 = .ok (.aload_n 0, 1) := by decide +kernel
theorem d_Md_isName_52 : decode mm_Md_isName.2.1 52 = .ok (.lload_n 1, 1) := by decide +kernel
theorem d_Md_isName_53 : decode mm_Md_isName.2.1 53 = .ok (.putfield 123, 3) := by decide +kernel
theorem d_Md_isName_56 : decode mm_Md_isName.2.1 56 = .ok (.iload_n 3, 1) := by decide +kernel
theorem d_Md_isName_57 : decode mm_Md_isName.2.1 57 = .ok (.ireturn, 1) := by decide +kernel
theorem d_Md_build_0 : decode mm_Md_build.2.1 0 = .ok (.aload_n 0, 1) := by decide +kernel
theorem d_Md_build_1 : decode mm_Md_build.2.1 1 = .ok (.aload_n 0, 1) := by decide +kernel
theorem d_Md_build_2 : decode mm_Md_build.2.1 2 = .ok (.invokevirtual 269, 3) := by decide +kernel
theorem d_Md_build_5 : decode mm_Md_build.2.1 5 = .ok (.ifCond .eq 7, 3) := by decide +kernel
theorem d_Md_build_8 : decode mm_Md_build.2.1 8 = .ok (.iconst 0, 1) := by decide +kernel
theorem d_Md_build_9 : decode mm_Md_build.2.1 9 = .ok (.goto 4, 3) := by decide +kernel
theorem d_Md_build_12 : decode mm_Md_build.2.1 12 = .ok (.iconst 1, 1) := by decide +kernel
theorem d_Md_build_13 : decode mm_Md_build.2.1 13 = .ok (.putfield 96, 3) := by decide +kernel
theorem d_Md_build_16 : decode mm_Md_build.2.1 16 = .ok (.aload_n 0, 1) := by decide +kernel
theorem d_Md_build_17 : decode mm_Md_build.2.1 17 = .ok (.getfield 96, 3) := by decide +kernel
theorem d_Md_build_20 : decode mm_Md_build.2.1 20 = .ok (.ifCond .le 5, 3) := by decide +kernel
theorem d_Md_build_23 : decode mm_Md_build.2.1 23 = .ok (.iconst 0, 1) := by decide +kernel
theorem d_Md_build_24 : decode mm_Md_build.2.1 24 = .ok (.ireturn, 1) := by decide +kernel
theorem d_Md_build_25 : decode mm_Md_build.2.1 25 = .ok (.aload_n 0, 1) := by decide +kernel
theorem d_Md_build_26 : decode mm_Md_build.2.1 26 = .ok (.iconst 0, 1) := by decide +kernel
theorem d_Md_build_27 : decode mm_Md_build.2.1 27 = .ok (.putfield 100, 3) := by decide +kernel
theorem d_Md_build_30 : decode mm_Md_build.2.1 30 = .ok (.aload_n 0, 1) := by decide +kernel
theorem d_Md_build_31 : decode mm_Md_build.2.1 31 = .ok (.aload_n 0, 1) := by decide +kernel
theorem d_Md_build_32 : decode mm_Md_build.2.1 32 = .ok (.getfield 123, 3) := by decide +kernel
theorem d_Md_build_35 : decode mm_Md_build.2.1 35 = .ok (.invokevirtual 214, 3) := by decide +kernel
theorem d_Md_build_38 : decode mm_Md_build.2.1 38 = .ok (.istore_n 1, 1) := by decide +kernel
theorem d_Md_build_39 : decode mm_Md_build.2.1 39 = .ok (.aload_n 0, 1) := by decide +kernel
theorem d_Md_build_40 : decode mm_Md_build.2.1 40 = .ok (.iconst 0, 1) := by decide +kernel
theorem d_Md_build_41 : decode mm_Md_build.2.1 41 = .ok (.putfield 257, 3) := by decide +kernel
theorem d_Md_build_44 : decode mm_Md_build.2.1 44 = .ok (.iload_n 1, 1) := by decide +kernel
theorem d_Md_build_45 : decode mm_Md_build.2.1 45 = .ok (.ifCond .ge 7, 3) := by decide +kernel
theorem d_Md_build_48 : decode mm_Md_build.2.1 48 = .ok (.iconst (-1), 1) := by decide +kernel
theorem d_Md_build_49 : decode mm_Md_build.2.1 49 = .ok (.goto 12, 3) := by decide +kernel
theorem d_Md_build_52 : decode mm_Md_build.2.1 52 = .ok (.aload_n 0, 1) := by decide +kernel
theorem d_Md_build_53 : decode mm_Md_build.2.1 53 = .ok (.aload_n 0, 1) := by decide +kernel
theorem d_Md_build_54 : decode mm_Md_build.2.1 54 = .ok (.iload_n 1, 1) := by decide +kernel
theorem d_Md_build_55 : decode mm_Md_build.2.1 55 = .ok (.invokevirtual 272, 3) := by decide +kernel
theorem d_Md_build_58 : decode mm_Md_build.2.1 58 = .ok (.invokevirtual 275, 3) := by decide +kernel
theorem d_Md_build_61 : decode mm_Md_build.2.1 61 = .ok (.ireturn, 1) := by decide +kernel
theorem d_Md_below_0 : decode mm_Md_below.2.1 0 = .ok (.lconst 1, 1) := by decide +kernel
theorem d_Md_below_1 : decode mm_Md_below.2.1 1 = .ok (.iload_n 1, 1) := by decide +kernel
theorem d_Md_below_2 : decode mm_Md_below.2.1 2 = .ok (.lshl, 1) := by decide +kernel
theorem d_Md_below_3 : decode mm_Md_below.2.1 3 = .ok (.lstore_n 2, 1) := by decide +kernel
theorem d_Md_below_4 : decode mm_Md_below.2.1 4 = .ok (.lconst 0, 1) := by decide +kernel
theorem d_Md_below_5 : decode mm_Md_below.2.1 5 = .ok (.lstore 4, 2) := by decide +kernel
theorem d_Md_below_7 : decode mm_Md_below.2.1 7 = .ok (.lload_n 2, 1) := by decide +kernel
theorem d_Md_below_8 : decode mm_Md_below.2.1 8 = .ok (.lload 4, 2) := by decide +kernel
theorem d_Md_below_10 : decode mm_Md_below.2.1 10 = .ok (.lcmp, 1) := by decide +kernel
theorem d_Md_below_11 : decode mm_Md_below.2.1 11 = .ok (.ifCond .eq 89, 3) := by decide +kernel
theorem d_Md_below_14 : decode mm_Md_below.2.1 14 = .ok (.lload_n 2, 1) := by decide +kernel
theorem d_Md_below_15 : decode mm_Md_below.2.1 15 = .ok (.lstore 4, 2) := by decide +kernel
theorem d_Md_below_17 : decode mm_Md_below.2.1 17 = .ok (.iconst 0, 1) := by decide +kernel
theorem d_Md_below_18 : decode mm_Md_below.2.1 18 = .ok (.istore 6, 2) := by decide +kernel
theorem d_Md_below_20 : decode mm_Md_below.2.1 20 = .ok (.iload 6, 2) := by decide +kernel
theorem d_Md_below_22 : decode mm_Md_below.2.1 22 = .ok (.bipush 64, 2) := by decide +kernel
theorem d_Md_below_24 : decode mm_Md_below.2.1 24 = .ok (.if_icmp .ge 73, 3) := by decide +kernel
theorem d_Md_below_27 : decode mm_Md_below.2.1 27 = .ok (.iconst 0, 1) := by decide +kernel
theorem d_Md_below_28 : decode mm_Md_below.2.1 28 = .ok (.istore 7, 2) := by decide +kernel
theorem d_Md_below_30 : decode mm_Md_below.2.1 30 = .ok (.iload 7, 2) := by decide +kernel
theorem d_Md_below_32 : decode mm_Md_below.2.1 32 = .ok (.bipush 64, 2) := by decide +kernel
theorem d_Md_below_34 : decode mm_Md_below.2.1 34 = .ok (.if_icmp .ge 57, 3) := by decide +kernel
theorem d_Md_below_37 : decode mm_Md_below.2.1 37 = .ok (.aload_n 0, 1) := by decide +kernel
theorem d_Md_below_38 : decode mm_Md_below.2.1 38 = .ok (.getfield 13, 3) := by decide +kernel
theorem d_Md_below_41 : decode mm_Md_below.2.1 41 = .ok (.iload 7, 2) := by decide +kernel
theorem d_Md_below_43 : decode mm_Md_below.2.1 43 = .ok (.baload, 1) := by decide +kernel
theorem d_Md_below_44 : decode mm_Md_below.2.1 44 = .ok (.ifCond .eq 39, 3) := by decide +kernel
theorem d_Md_below_47 : decode mm_Md_below.2.1 47 = .ok (.lload_n 2, 1) := by decide +kernel
theorem d_Md_below_48 : decode mm_Md_below.2.1 48 = .ok (.iload 6, 2) := by decide +kernel
theorem d_Md_below_50 : decode mm_Md_below.2.1 50 = .ok (.lshr, 1) := by decide +kernel
theorem d_Md_below_51 : decode mm_Md_below.2.1 51 = .ok (.lconst 1, 1) := by decide +kernel
theorem d_Md_below_52 : decode mm_Md_below.2.1 52 = .ok (.land, 1) := by decide +kernel
theorem d_Md_below_53 : decode mm_Md_below.2.1 53 = .ok (.lconst 1, 1) := by decide +kernel
theorem d_Md_below_54 : decode mm_Md_below.2.1 54 = .ok (.lcmp, 1) := by decide +kernel
theorem d_Md_below_55 : decode mm_Md_below.2.1 55 = .ok (.ifCond .ne 28, 3) := by decide +kernel
theorem d_Md_below_58 : decode mm_Md_below.2.1 58 = .ok (.aload_n 0, 1) := by decide +kernel
theorem d_Md_below_59 : decode mm_Md_below.2.1 59 = .ok (.iload 6, 2) := by decide +kernel
theorem d_Md_below_61 : decode mm_Md_below.2.1 61 = .ok (.aload_n 0, 1) := by decide +kernel
theorem d_Md_below_62 : decode mm_Md_below.2.1 62 = .ok (.getfield 17, 3) := by decide +kernel
theorem d_Md_below_65 : decode mm_Md_below.2.1 65 = .ok (.iload 7, 2) := by decide +kernel
theorem d_Md_below_67 : decode mm_Md_below.2.1 67 = .ok (.laload, 1) := by decide +kernel
theorem d_Md_below_68 : decode mm_Md_below.2.1 68 = .ok (.invokevirtual 207, 3) := by decide +kernel
theorem d_Md_below_71 : decode mm_Md_below.2.1 71 = .ok (.ifCond .eq 12, 3) := by decide +kernel
theorem d_Md_below_74 : decode mm_Md_below.2.1 74 = .ok (.lload_n 2, 1) := by decide +kernel
theorem d_Md_below_75 : decode mm_Md_below.2.1 75 = .ok (.lconst 1, 1) := by decide +kernel
theorem d_Md_below_76 : decode mm_Md_below.2.1 76 = .ok (.iload 7, 2) := by decide +kernel
theorem d_Md_below_78 : decode mm_Md_below.2.1 78 = .ok (.lshl, 1) := by decide +kernel
theorem d_Md_below_79 : decode mm_Md_below.2.1 79 = .ok (.lor, 1) := by decide +kernel
theorem d_Md_below_80 : decode mm_Md_below.2.1 80 = .ok (.goto 4, 3) := by decide +kernel
theorem d_Md_below_83 : decode mm_Md_below.2.1 83 = .ok (.lload_n 2, 1) := by decide +kernel
theorem d_Md_below_84 : decode mm_Md_below.2.1 84 = .ok (.lstore_n 2, 1) := by decide +kernel
theorem d_Md_below_85 : decode mm_Md_below.2.1 85 = .ok (.iinc 7 1, 3) := by decide +kernel
theorem d_Md_below_88 : decode mm_Md_below.2.1 88 = .ok (.goto (-58), 3) := by decide +kernel
theorem d_Md_below_91 : decode mm_Md_below.2.1 91 = .ok (.iinc 6 1, 3) := by decide +kernel
theorem d_Md_below_94 : decode mm_Md_below.2.1 94 = .ok (.goto (-74), 3) := by decide +kernel
theorem d_Md_below_97 : decode mm_Md_below.2.1 97 = .ok (.goto (-90), 3) := by decide +kernel
theorem d_Md_below_100 : decode mm_Md_below.2.1 100 = .ok (.lload_n 2, 1) := by decide +kernel
theorem d_Md_below_101 : decode mm_Md_below.2.1 101 = .ok (.lreturn, 1) := by decide +kernel
theorem d_Md_buildSet_0 : decode mm_Md_buildSet.2.1 0 = .ok (.aload_n 0, 1) := by decide +kernel
theorem d_Md_buildSet_1 : decode mm_Md_buildSet.2.1 1 = .ok (.iconst 0, 1) := by decide +kernel
theorem d_Md_buildSet_2 : decode mm_Md_buildSet.2.1 2 = .ok (.putfield 257, 3) := by decide +kernel
theorem d_Md_buildSet_5 : decode mm_Md_buildSet.2.1 5 = .ok (.lload_n 1, 1) := by decide +kernel
theorem d_Md_buildSet_6 : decode mm_Md_buildSet.2.1 6 = .ok (.lstore_n 3, 1) := by decide +kernel
theorem d_Md_buildSet_7 : decode mm_Md_buildSet.2.1 7 = .ok (.lload_n 3, 1) := by decide +kernel
theorem d_Md_buildSet_8 : decode mm_Md_buildSet.2.1 8 = .ok (.lconst 0, 1) := by decide +kernel
theorem d_Md_buildSet_9 : decode mm_Md_buildSet.2.1 9 = .ok (.lcmp, 1) := by decide +kernel
theorem d_Md_buildSet_10 : decode mm_Md_buildSet.2.1 10 = .ok (.ifCond .eq 65, 3) := by decide +kernel
theorem d_Md_buildSet_13 : decode mm_Md_buildSet.2.1 13 = .ok (.iconst 0, 1) := by decide +kernel
theorem d_Md_buildSet_14 : decode mm_Md_buildSet.2.1 14 = .ok (.istore 5, 2) := by decide +kernel
theorem d_Md_buildSet_16 : decode mm_Md_buildSet.2.1 16 = .ok (.iload 5, 2) := by decide +kernel
theorem d_Md_buildSet_18 : decode mm_Md_buildSet.2.1 18 = .ok (.bipush 64, 2) := by decide +kernel
theorem d_Md_buildSet_20 : decode mm_Md_buildSet.2.1 20 = .ok (.if_icmp .ge 52, 3) := by decide +kernel
theorem d_Md_buildSet_23 : decode mm_Md_buildSet.2.1 23 = .ok (.lload_n 3, 1) := by decide +kernel
theorem d_Md_buildSet_24 : decode mm_Md_buildSet.2.1 24 = .ok (.iload 5, 2) := by decide +kernel
theorem d_Md_buildSet_26 : decode mm_Md_buildSet.2.1 26 = .ok (.lshr, 1) := by decide +kernel
theorem d_Md_buildSet_27 : decode mm_Md_buildSet.2.1 27 = .ok (.lconst 1, 1) := by decide +kernel
theorem d_Md_buildSet_28 : decode mm_Md_buildSet.2.1 28 = .ok (.land, 1) := by decide +kernel
theorem d_Md_buildSet_29 : decode mm_Md_buildSet.2.1 29 = .ok (.lconst 1, 1) := by decide +kernel
theorem d_Md_buildSet_30 : decode mm_Md_buildSet.2.1 30 = .ok (.lcmp, 1) := by decide +kernel
theorem d_Md_buildSet_31 : decode mm_Md_buildSet.2.1 31 = .ok (.ifCond .ne 35, 3) := by decide +kernel
theorem d_Md_buildSet_34 : decode mm_Md_buildSet.2.1 34 = .ok (.aload_n 0, 1) := by decide +kernel
theorem d_Md_buildSet_35 : decode mm_Md_buildSet.2.1 35 = .ok (.iload 5, 2) := by decide +kernel
theorem d_Md_buildSet_37 : decode mm_Md_buildSet.2.1 37 = .ok (.lload_n 3, 1) := by decide +kernel
theorem d_Md_buildSet_38 : decode mm_Md_buildSet.2.1 38 = .ok (.invokevirtual 260, 3) := by decide +kernel
theorem d_Md_buildSet_41 : decode mm_Md_buildSet.2.1 41 = .ok (.ifCond .eq 25, 3) := by decide +kernel
theorem d_Md_buildSet_44 : decode mm_Md_buildSet.2.1 44 = .ok (.lload_n 3, 1) := by decide +kernel
theorem d_Md_buildSet_45 : decode mm_Md_buildSet.2.1 45 = .ok (.lconst 1, 1) := by decide +kernel
theorem d_Md_buildSet_46 : decode mm_Md_buildSet.2.1 46 = .ok (.iload 5, 2) := by decide +kernel
theorem d_Md_buildSet_48 : decode mm_Md_buildSet.2.1 48 = .ok (.lshl, 1) := by decide +kernel
theorem d_Md_buildSet_49 : decode mm_Md_buildSet.2.1 49 = .ok (.lxor, 1) := by decide +kernel
theorem d_Md_buildSet_50 : decode mm_Md_buildSet.2.1 50 = .ok (.lstore_n 3, 1) := by decide +kernel
theorem d_Md_buildSet_51 : decode mm_Md_buildSet.2.1 51 = .ok (.aload_n 0, 1) := by decide +kernel
theorem d_Md_buildSet_52 : decode mm_Md_buildSet.2.1 52 = .ok (.iload 5, 2) := by decide +kernel
theorem d_Md_buildSet_54 : decode mm_Md_buildSet.2.1 54 = .ok (.invokevirtual 263, 3) := by decide +kernel
theorem d_Md_buildSet_57 : decode mm_Md_buildSet.2.1 57 = .ok (.ifCond .eq 9, 3) := by decide +kernel
theorem d_Md_buildSet_60 : decode mm_Md_buildSet.2.1 60 = .ok (.aload_n 0, 1) := by decide +kernel
theorem d_Md_buildSet_61 : decode mm_Md_buildSet.2.1 61 = .ok (.iload 5, 2) := by decide +kernel
theorem d_Md_buildSet_63 : decode mm_Md_buildSet.2.1 63 = .ok (.invokevirtual 266, 3) := by decide +kernel
theorem d_Md_buildSet_66 : decode mm_Md_buildSet.2.1 66 = .ok (.iinc 5 1, 3) := by decide +kernel
theorem d_Md_buildSet_69 : decode mm_Md_buildSet.2.1 69 = .ok (.goto (-53), 3) := by decide +kernel
theorem d_Md_buildSet_72 : decode mm_Md_buildSet.2.1 72 = .ok (.goto (-65), 3) := by decide +kernel
theorem d_Md_buildSet_75 : decode mm_Md_buildSet.2.1 75 = .ok (.aload_n 0, 1) := by decide +kernel
theorem d_Md_buildSet_76 : decode mm_Md_buildSet.2.1 76 = .ok (.getfield 257, 3) := by decide +kernel
theorem d_Md_buildSet_79 : decode mm_Md_buildSet.2.1 79 = .ok (.ireturn, 1) := by decide +kernel
theorem d_Md_isReady_0 : decode mm_Md_isReady.2.1 0 = .ok (.iconst 1, 1) := by decide +kernel
theorem d_Md_isReady_1 : decode mm_Md_isReady.2.1 1 = .ok (.istore 4, 2) := by decide +kernel
theorem d_Md_isReady_3 : decode mm_Md_isReady.2.1 3 = .ok (.iconst 0, 1) := by decide +kernel
theorem d_Md_isReady_4 : decode mm_Md_isReady.2.1 4 = .ok (.istore 5, 2) := by decide +kernel
theorem d_Md_isReady_6 : decode mm_Md_isReady.2.1 6 = .ok (.iload 5, 2) := by decide +kernel
theorem d_Md_isReady_8 : decode mm_Md_isReady.2.1 8 = .ok (.bipush 64, 2) := by decide +kernel
theorem d_Md_isReady_10 : decode mm_Md_isReady.2.1 10 = .ok (.if_icmp .ge 47, 3) := by decide +kernel
theorem d_Md_isReady_13 : decode mm_Md_isReady.2.1 13 = .ok (.iload 4, 2) := by decide +kernel
theorem d_Md_isReady_15 : decode mm_Md_isReady.2.1 15 = .ok (.ifCond .eq 33, 3) := by decide +kernel
theorem d_Md_isReady_18 : decode mm_Md_isReady.2.1 18 = .ok (.lload_n 2, 1) := by decide +kernel
theorem d_Md_isReady_19 : decode mm_Md_isReady.2.1 19 = .ok (.iload 5, 2) := by decide +kernel
theorem d_Md_isReady_21 : decode mm_Md_isReady.2.1 21 = .ok (.lshr, 1) := by decide +kernel
theorem d_Md_isReady_22 : decode mm_Md_isReady.2.1 22 = .ok (.lconst 1, 1) := by decide +kernel
theorem d_Md_isReady_23 : decode mm_Md_isReady.2.1 23 = .ok (.land, 1) := by decide +kernel
theorem d_Md_isReady_24 : decode mm_Md_isReady.2.1 24 = .ok (.lconst 0, 1) := by decide +kernel
theorem d_Md_isReady_25 : decode mm_Md_isReady.2.1 25 = .ok (.lcmp, 1) := by decide +kernel
theorem d_Md_isReady_26 : decode mm_Md_isReady.2.1 26 = .ok (.ifCond .eq 18, 3) := by decide +kernel
theorem d_Md_isReady_29 : decode mm_Md_isReady.2.1 29 = .ok (.aload_n 0, 1) := by decide +kernel
theorem d_Md_isReady_30 : decode mm_Md_isReady.2.1 30 = .ok (.iload_n 1, 1) := by decide +kernel
theorem d_Md_isReady_31 : decode mm_Md_isReady.2.1 31 = .ok (.aload_n 0, 1) := by decide +kernel
theorem d_Md_isReady_32 : decode mm_Md_isReady.2.1 32 = .ok (.getfield 17, 3) := by decide +kernel
theorem d_Md_isReady_35 : decode mm_Md_isReady.2.1 35 = .ok (.iload 5, 2) := by decide +kernel
theorem d_Md_isReady_37 : decode mm_Md_isReady.2.1 37 = .ok (.laload, 1) := by decide +kernel
theorem d_Md_isReady_38 : decode mm_Md_isReady.2.1 38 = .ok (.invokevirtual 207, 3) := by decide +kernel
theorem d_Md_isReady_41 : decode mm_Md_isReady.2.1 41 = .ok (.ifCond .ne 7, 3) := by decide +kernel
theorem d_Md_isReady_44 : decode mm_Md_isReady.2.1 44 = .ok (.iconst 1, 1) := by decide +kernel
theorem d_Md_isReady_45 : decode mm_Md_isReady.2.1 45 = .ok (.goto 4, 3) := by decide +kernel
theorem d_Md_isReady_48 : decode mm_Md_isReady.2.1 48 = .ok (.iconst 0, 1) := by decide +kernel
theorem d_Md_isReady_49 : decode mm_Md_isReady.2.1 49 = .ok (.istore 4, 2) := by decide +kernel
theorem d_Md_isReady_51 : decode mm_Md_isReady.2.1 51 = .ok (.iinc 5 1, 3) := by decide +kernel
theorem d_Md_isReady_54 : decode mm_Md_isReady.2.1 54 = .ok (.goto (-48), 3) := by decide +kernel
theorem d_Md_isReady_57 : decode mm_Md_isReady.2.1 57 = .ok (.iload 4, 2) := by decide +kernel
theorem d_Md_isReady_59 : decode mm_Md_isReady.2.1 59 = .ok (.ireturn, 1) := by decide +kernel
theorem d_Md_isStale_0 : decode mm_Md_isStale.2.1 0 = .ok (.aload_n 0, 1) := by decide +kernel
theorem d_Md_isStale_1 : decode mm_Md_isStale.2.1 1 = .ok (.getfield 27, 3) := by decide +kernel
theorem d_Md_isStale_4 : decode mm_Md_isStale.2.1 4 = .ok (.iload_n 1, 1) := by decide +kernel
theorem d_Md_isStale_5 : decode mm_Md_isStale.2.1 5 = .ok (.baload, 1) := by decide +kernel
theorem d_Md_isStale_6 : decode mm_Md_isStale.2.1 6 = .ok (.ifCond .ne 7, 3) := by decide +kernel
theorem d_Md_isStale_9 : decode mm_Md_isStale.2.1 9 = .ok (.iconst 1, 1) := by decide +kernel
theorem d_Md_isStale_10 : decode mm_Md_isStale.2.1 10 = .ok (.goto 4, 3) := by decide +kernel
theorem d_Md_isStale_13 : decode mm_Md_isStale.2.1 13 = .ok (.iconst 0, 1) := by decide +kernel
theorem d_Md_isStale_14 : decode mm_Md_isStale.2.1 14 = .ok (.istore_n 2, 1) := by decide +kernel
theorem d_Md_isStale_15 : decode mm_Md_isStale.2.1 15 = .ok (.bipush 40, 2) := by decide +kernel
theorem d_Md_isStale_17 : decode mm_Md_isStale.2.1 17 = .ok (.iload_n 1, 1) := by decide +kernel
theorem d_Md_isStale_18 : decode mm_Md_isStale.2.1 18 = .ok (.imul, 1) := by decide +kernel
theorem d_Md_isStale_19 : decode mm_Md_isStale.2.1 19 = .ok (.istore_n 3, 1) := by decide +kernel
theorem d_Md_isStale_20 : decode mm_Md_isStale.2.1 20 = .ok (.iload_n 3, 1) := by decide +kernel
theorem d_Md_isStale_21 : decode mm_Md_isStale.2.1 21 = .ok (.bipush 40, 2) := by decide +kernel
theorem d_Md_isStale_23 : decode mm_Md_isStale.2.1 23 = .ok (.iload_n 1, 1) := by decide +kernel
theorem d_Md_isStale_24 : decode mm_Md_isStale.2.1 24 = .ok (.imul, 1) := by decide +kernel
theorem d_Md_isStale_25 : decode mm_Md_isStale.2.1 25 = .ok (.aload_n 0, 1) := by decide +kernel
theorem d_Md_isStale_26 : decode mm_Md_isStale.2.1 26 = .ok (.getfield 33, 3) := by decide +kernel
theorem d_Md_isStale_29 : decode mm_Md_isStale.2.1 29 = .ok (.iload_n 1, 1) := by decide +kernel
theorem d_Md_isStale_30 : decode mm_Md_isStale.2.1 30 = .ok (.iaload, 1) := by decide +kernel
theorem d_Md_isStale_31 : decode mm_Md_isStale.2.1 31 = .ok (.iadd, 1) := by decide +kernel
theorem d_Md_isStale_32 : decode mm_Md_isStale.2.1 32 = .ok (.if_icmp .ge 68, 3) := by decide +kernel
theorem d_Md_isStale_35 : decode mm_Md_isStale.2.1 35 = .ok (.iload_n 2, 1) := by decide +kernel
theorem d_Md_isStale_36 : decode mm_Md_isStale.2.1 36 = .ok (.ifCond .ne 52, 3) := by decide +kernel
theorem d_Md_isStale_39 : decode mm_Md_isStale.2.1 39 = .ok (.aload_n 0, 1) := by decide +kernel
theorem d_Md_isStale_40 : decode mm_Md_isStale.2.1 40 = .ok (.getfield 36, 3) := by decide +kernel
theorem d_Md_isStale_43 : decode mm_Md_isStale.2.1 43 = .ok (.iload_n 3, 1) := by decide +kernel
theorem d_Md_isStale_44 : decode mm_Md_isStale.2.1 44 = .ok (.iaload, 1) := by decide +kernel
theorem d_Md_isStale_45 : decode mm_Md_isStale.2.1 45 = .ok (.iconst 1, 1) := by decide +kernel
theorem d_Md_isStale_46 : decode mm_Md_isStale.2.1 46 = .ok (.if_icmp .ne 46, 3) := by decide +kernel
theorem d_Md_isStale_49 : decode mm_Md_isStale.2.1 49 = .ok (.aload_n 0, 1) := by decide +kernel
theorem d_Md_isStale_50 : decode mm_Md_isStale.2.1 50 = .ok (.getfield 51, 3) := by decide +kernel
theorem d_Md_isStale_53 : decode mm_Md_isStale.2.1 53 = .ok (.iload_n 3, 1) := by decide +kernel
theorem d_Md_isStale_54 : decode mm_Md_isStale.2.1 54 = .ok (.iaload, 1) := by decide +kernel
theorem d_Md_isStale_55 : decode mm_Md_isStale.2.1 55 = .ok (.aload_n 0, 1) := by decide +kernel
theorem d_Md_isStale_56 : decode mm_Md_isStale.2.1 56 = .ok (.aload_n 0, 1) := by decide +kernel
theorem d_Md_isStale_57 : decode mm_Md_isStale.2.1 57 = .ok (.getfield 48, 3) := by decide +kernel
theorem d_Md_isStale_60 : decode mm_Md_isStale.2.1 60 = .ok (.iload_n 3, 1) := by decide +kernel
theorem d_Md_isStale_61 : decode mm_Md_isStale.2.1 61 = .ok (.laload, 1) := by decide +kernel
theorem d_Md_isStale_62 : decode mm_Md_isStale.2.1 62 = .ok (.invokevirtual 244, 3) := by decide +kernel
theorem d_Md_isStale_65 : decode mm_Md_isStale.2.1 65 = .ok (.if_icmp .ne 23, 3) := by decide +kernel
theorem d_Md_isStale_68 : decode mm_Md_isStale.2.1 68 = .ok (.aload_n 0, 1) := by decide +kernel
theorem d_Md_isStale_69 : decode mm_Md_isStale.2.1 69 = .ok (.getfield 54, 3) := by decide +kernel
theorem d_Md_isStale_72 : decode mm_Md_isStale.2.1 72 = .ok (.iload_n 3, 1) := by decide +kernel
theorem d_Md_isStale_73 : decode mm_Md_isStale.2.1 73 = .ok (.laload, 1) := by decide +kernel
theorem d_Md_isStale_74 : decode mm_Md_isStale.2.1 74 = .ok (.aload_n 0, 1) := by decide +kernel
theorem d_Md_isStale_75 : decode mm_Md_isStale.2.1 75 = .ok (.aload_n 0, 1) := by decide +kernel
theorem d_Md_isStale_76 : decode mm_Md_isStale.2.1 76 = .ok (.getfield 48, 3) := by decide +kernel
theorem d_Md_isStale_79 : decode mm_Md_isStale.2.1 79 = .ok (.iload_n 3, 1) := by decide +kernel
theorem d_Md_isStale_80 : decode mm_Md_isStale.2.1 80 = .ok (.laload, 1) := by decide +kernel
theorem d_Md_isStale_81 : decode mm_Md_isStale.2.1 81 = .ok (.invokevirtual 247, 3) := by decide +kernel
theorem d_Md_isStale_84 : decode mm_Md_isStale.2.1 84 = .ok (.lcmp, 1) := by decide +kernel
theorem d_Md_isStale_85 : decode mm_Md_isStale.2.1 85 = .ok (.ifCond .eq 7, 3) := by decide +kernel
theorem d_Md_isStale_88 : decode mm_Md_isStale.2.1 88 = .ok (.iconst 1, 1) := by decide +kernel
theorem d_Md_isStale_89 : decode mm_Md_isStale.2.1 89 = .ok (.goto 4, 3) := by decide +kernel
theorem d_Md_isStale_92 : decode mm_Md_isStale.2.1 92 = .ok (.iconst 0, 1) := by decide +kernel
theorem d_Md_isStale_93 : decode mm_Md_isStale.2.1 93 = .ok (.istore_n 2, 1) := by decide +kernel
theorem d_Md_isStale_94 : decode mm_Md_isStale.2.1 94 = .ok (.iinc 3 1, 3) := by decide +kernel
theorem d_Md_isStale_97 : decode mm_Md_isStale.2.1 97 = .ok (.goto (-77), 3) := by decide +kernel
theorem d_Md_isStale_100 : decode mm_Md_isStale.2.1 100 = .ok (.iload_n 2, 1) := by decide +kernel
theorem d_Md_isStale_101 : decode mm_Md_isStale.2.1 101 = .ok (.ireturn, 1) := by decide +kernel
theorem d_Md_resultOf_0 : decode mm_Md_resultOf.2.1 0 = .ok (.aload_n 0, 1) := by decide +kernel
theorem d_Md_resultOf_1 : decode mm_Md_resultOf.2.1 1 = .ok (.lload_n 1, 1) := by decide +kernel
theorem d_Md_resultOf_2 : decode mm_Md_resultOf.2.1 2 = .ok (.invokevirtual 214, 3) := by decide +kernel
theorem d_Md_resultOf_5 : decode mm_Md_resultOf.2.1 5 = .ok (.istore_n 3, 1) := by decide +kernel
theorem d_Md_resultOf_6 : decode mm_Md_resultOf.2.1 6 = .ok (.iload_n 3, 1) := by decide +kernel
theorem d_Md_resultOf_7 : decode mm_Md_resultOf.2.1 7 = .ok (.ifCond .ge 7, 3) := by decide +kernel
theorem d_Md_resultOf_10 : decode mm_Md_resultOf.2.1 10 = .ok (.iconst 0, 1) := by decide +kernel
theorem d_Md_resultOf_11 : decode mm_Md_resultOf.2.1 11 = .ok (.goto 9, 3) := by decide +kernel
theorem d_Md_resultOf_14 : decode mm_Md_resultOf.2.1 14 = .ok (.aload_n 0, 1) := by decide +kernel
theorem d_Md_resultOf_15 : decode mm_Md_resultOf.2.1 15 = .ok (.getfield 21, 3) := by decide +kernel
theorem d_Md_resultOf_18 : decode mm_Md_resultOf.2.1 18 = .ok (.iload_n 3, 1) := by decide +kernel
theorem d_Md_resultOf_19 : decode mm_Md_resultOf.2.1 19 = .ok (.iaload, 1) := by decide +kernel
theorem d_Md_resultOf_20 : decode mm_Md_resultOf.2.1 20 = .ok (.ireturn, 1) := by decide +kernel
theorem d_Md_valueOf_0 : decode mm_Md_valueOf.2.1 0 = .ok (.aload_n 0, 1) := by decide +kernel
theorem d_Md_valueOf_1 : decode mm_Md_valueOf.2.1 1 = .ok (.lload_n 1, 1) := by decide +kernel
theorem d_Md_valueOf_2 : decode mm_Md_valueOf.2.1 2 = .ok (.invokevirtual 214, 3) := by decide +kernel
theorem d_Md_valueOf_5 : decode mm_Md_valueOf.2.1 5 = .ok (.istore_n 3, 1) := by decide +kernel
theorem d_Md_valueOf_6 : decode mm_Md_valueOf.2.1 6 = .ok (.iload_n 3, 1) := by decide +kernel
theorem d_Md_valueOf_7 : decode mm_Md_valueOf.2.1 7 = .ok (.ifCond .lt 13, 3) := by decide +kernel
theorem d_Md_valueOf_10 : decode mm_Md_valueOf.2.1 10 = .ok (.aload_n 0, 1) := by decide +kernel
