theorem dL_isActed_325 : decode cL_isActed 325 = .ok (.iconst 0, 1) := by decide +kernel
theorem dL_isActed_326 : decode cL_isActed 326 = .ok (.ireturn, 1) := by decide +kernel
theorem dL_isActed_327 : decode cL_isActed 327 = .ok (.aload_n 0, 1) := by decide +kernel
theorem dL_isActed_328 : decode cL_isActed 328 = .ok (.bipush 11, 2) := by decide +kernel
theorem dL_isActed_330 : decode cL_isActed 330 = .ok (.invokevirtual 57, 3) := by decide +kernel
theorem dL_isActed_333 : decode cL_isActed 333 = .ok (.istore 11, 2) := by decide +kernel
theorem dL_isActed_335 : decode cL_isActed 335 = .ok (.aload_n 0, 1) := by decide +kernel
theorem dL_isActed_336 : decode cL_isActed 336 = .ok (.iconst 1, 1) := by decide +kernel
theorem dL_isActed_337 : decode cL_isActed 337 = .ok (.iload_n 3, 1) := by decide +kernel
theorem dL_isActed_338 : decode cL_isActed 338 = .ok (.bipush 12, 2) := by decide +kernel
theorem dL_isActed_340 : decode cL_isActed 340 = .ok (.invokestatic 18, 3) := by decide +kernel
theorem dL_isActed_343 : decode cL_isActed 343 = .ok (.iadd, 1) := by decide +kernel
theorem dL_isActed_344 : decode cL_isActed 344 = .ok (.invokevirtual 107, 3) := by decide +kernel
theorem dL_isActed_347 : decode cL_isActed 347 = .ok (.istore 12, 2) := by decide +kernel
theorem dL_isActed_349 : decode cL_isActed 349 = .ok (.aload_n 0, 1) := by decide +kernel
theorem dL_isActed_350 : decode cL_isActed 350 = .ok (.bipush 11, 2) := by decide +kernel
theorem dL_isActed_352 : decode cL_isActed 352 = .ok (.invokevirtual 57, 3) := by decide +kernel
theorem dL_isActed_355 : decode cL_isActed 355 = .ok (.iload 11, 2) := by decide +kernel
theorem dL_isActed_357 : decode cL_isActed 357 = .ok (.iload 12, 2) := by decide +kernel
theorem dL_isActed_359 : decode cL_isActed 359 = .ok (.iadd, 1) := by decide +kernel
theorem dL_isActed_360 : decode cL_isActed 360 = .ok (.if_icmp .ne 7, 3) := by decide +kernel
theorem dL_isActed_363 : decode cL_isActed 363 = .ok (.iconst 1, 1) := by decide +kernel
theorem dL_isActed_364 : decode cL_isActed 364 = .ok (.goto 4, 3) := by decide +kernel
theorem dL_isActed_367 : decode cL_isActed 367 = .ok (.iconst 0, 1) := by decide +kernel
theorem dL_isActed_368 : decode cL_isActed 368 = .ok (.ireturn, 1) := by decide +kernel
theorem dL_isKnown_0 : decode cL_isKnown 0 = .ok (.iload_n 2, 1) := by decide +kernel
theorem dL_isKnown_1 : decode cL_isKnown 1 = .ok (.ifCond .ge 5, 3) := by decide +kernel
theorem dL_isKnown_4 : decode cL_isKnown 4 = .ok (.iconst 1, 1) := by decide +kernel
theorem dL_isKnown_5 : decode cL_isKnown 5 = .ok (.ireturn, 1) := by decide +kernel
theorem dL_isKnown_6 : decode cL_isKnown 6 = .ok (.iconst 0, 1) := by decide +kernel
theorem dL_isKnown_7 : decode cL_isKnown 7 = .ok (.istore_n 3, 1) := by decide +kernel
theorem dL_isKnown_8 : decode cL_isKnown 8 = .ok (.iconst 1, 1) := by decide +kernel
theorem dL_isKnown_9 : decode cL_isKnown 9 = .ok (.istore 4, 2) := by decide +kernel
theorem dL_isKnown_11 : decode cL_isKnown 11 = .ok (.iload 4, 2) := by decide +kernel
theorem dL_isKnown_13 : decode cL_isKnown 13 = .ok (.iconst 5, 1) := by decide +kernel
theorem dL_isKnown_14 : decode cL_isKnown 14 = .ok (.if_icmp .ge 28, 3) := by decide +kernel
theorem dL_isKnown_17 : decode cL_isKnown 17 = .ok (.iload_n 3, 1) := by decide +kernel
theorem dL_isKnown_18 : decode cL_isKnown 18 = .ok (.aload_n 0, 1) := by decide +kernel
theorem dL_isKnown_19 : decode cL_isKnown 19 = .ok (.iload_n 2, 1) := by decide +kernel
theorem dL_isKnown_20 : decode cL_isKnown 20 = .ok (.iload 4, 2) := by decide +kernel
theorem dL_isKnown_22 : decode cL_isKnown 22 = .ok (.invokevirtual 119, 3) := by decide +kernel
theorem dL_isKnown_25 : decode cL_isKnown 25 = .ok (.iload_n 1, 1) := by decide +kernel
theorem dL_isKnown_26 : decode cL_isKnown 26 = .ok (.if_icmp .ne 7, 3) := by decide +kernel
theorem dL_isKnown_29 : decode cL_isKnown 29 = .ok (.iconst 1, 1) := by decide +kernel
theorem dL_isKnown_30 : decode cL_isKnown 30 = .ok (.goto 4, 3) := by decide +kernel
theorem dL_isKnown_33 : decode cL_isKnown 33 = .ok (.iconst 0, 1) := by decide +kernel
theorem dL_isKnown_34 : decode cL_isKnown 34 = .ok (.iadd, 1) := by decide +kernel
theorem dL_isKnown_35 : decode cL_isKnown 35 = .ok (.istore_n 3, 1) := by decide +kernel
theorem dL_isKnown_36 : decode cL_isKnown 36 = .ok (.iinc 4 1, 3) := by decide +kernel
theorem dL_isKnown_39 : decode cL_isKnown 39 = .ok (.goto (-28), 3) := by decide +kernel
theorem dL_isKnown_42 : decode cL_isKnown 42 = .ok (.iload_n 3, 1) := by decide +kernel
theorem dL_isKnown_43 : decode cL_isKnown 43 = .ok (.iconst 1, 1) := by decide +kernel
theorem dL_isKnown_44 : decode cL_isKnown 44 = .ok (.if_icmp .ne 17, 3) := by decide +kernel
theorem dL_isKnown_47 : decode cL_isKnown 47 = .ok (.aload_n 0, 1) := by decide +kernel
theorem dL_isKnown_48 : decode cL_isKnown 48 = .ok (.iload_n 2, 1) := by decide +kernel
theorem dL_isKnown_49 : decode cL_isKnown 49 = .ok (.iconst 2, 1) := by decide +kernel
theorem dL_isKnown_50 : decode cL_isKnown 50 = .ok (.invokevirtual 110, 3) := by decide +kernel
theorem dL_isKnown_53 : decode cL_isKnown 53 = .ok (.iconst 1, 1) := by decide +kernel
theorem dL_isKnown_54 : decode cL_isKnown 54 = .ok (.if_icmp .ne 7, 3) := by decide +kernel
theorem dL_isKnown_57 : decode cL_isKnown 57 = .ok (.iconst 1, 1) := by decide +kernel
theorem dL_isKnown_58 : decode cL_isKnown 58 = .ok (.goto 4, 3) := by decide +kernel
theorem dL_isKnown_61 : decode cL_isKnown 61 = .ok (.iconst 0, 1) := by decide +kernel
theorem dL_isKnown_62 : decode cL_isKnown 62 = .ok (.ireturn, 1) := by decide +kernel
theorem dL_isLost_0 : decode cL_isLost 0 = .ok (.iload_n 1, 1) := by decide +kernel
theorem dL_isLost_1 : decode cL_isLost 1 = .ok (.iload_n 2, 1) := by decide +kernel
theorem dL_isLost_2 : decode cL_isLost 2 = .ok (.if_icmp .ge 26, 3) := by decide +kernel
theorem dL_isLost_5 : decode cL_isLost 5 = .ok (.aload_n 0, 1) := by decide +kernel
theorem dL_isLost_6 : decode cL_isLost 6 = .ok (.iload_n 1, 1) := by decide +kernel
theorem dL_isLost_7 : decode cL_isLost 7 = .ok (.iconst 2, 1) := by decide +kernel
theorem dL_isLost_8 : decode cL_isLost 8 = .ok (.invokevirtual 110, 3) := by decide +kernel
theorem dL_isLost_11 : decode cL_isLost 11 = .ok (.iconst 2, 1) := by decide +kernel
theorem dL_isLost_12 : decode cL_isLost 12 = .ok (.if_icmp .eq 12, 3) := by decide +kernel
theorem dL_isLost_15 : decode cL_isLost 15 = .ok (.aload_n 0, 1) := by decide +kernel
theorem dL_isLost_16 : decode cL_isLost 16 = .ok (.iload_n 1, 1) := by decide +kernel
theorem dL_isLost_17 : decode cL_isLost 17 = .ok (.iconst 0, 1) := by decide +kernel
theorem dL_isLost_18 : decode cL_isLost 18 = .ok (.invokevirtual 110, 3) := by decide +kernel
theorem dL_isLost_21 : decode cL_isLost 21 = .ok (.ifCond .ge 7, 3) := by decide +kernel
theorem dL_isLost_24 : decode cL_isLost 24 = .ok (.iconst 1, 1) := by decide +kernel
theorem dL_isLost_25 : decode cL_isLost 25 = .ok (.goto 4, 3) := by decide +kernel
theorem dL_isLost_28 : decode cL_isLost 28 = .ok (.iconst 0, 1) := by decide +kernel
theorem dL_isLost_29 : decode cL_isLost 29 = .ok (.ireturn, 1) := by decide +kernel
theorem dL_isSound_0 : decode cL_isSound 0 = .ok (.aload_n 0, 1) := by decide +kernel
theorem dL_isSound_1 : decode cL_isSound 1 = .ok (.iconst 2, 1) := by decide +kernel
theorem dL_isSound_2 : decode cL_isSound 2 = .ok (.invokevirtual 57, 3) := by decide +kernel
theorem dL_isSound_5 : decode cL_isSound 5 = .ok (.istore_n 2, 1) := by decide +kernel
theorem dL_isSound_6 : decode cL_isSound 6 = .ok (.iconst 3, 1) := by decide +kernel
theorem dL_isSound_7 : decode cL_isSound 7 = .ok (.newarray .int, 2) := by decide +kernel
theorem dL_isSound_9 : decode cL_isSound 9 = .ok (.astore_n 3, 1) := by decide +kernel
theorem dL_isSound_10 : decode cL_isSound 10 = .ok (.iconst 0, 1) := by decide +kernel
theorem dL_isSound_11 : decode cL_isSound 11 = .ok (.istore 4, 2) := by decide +kernel
theorem dL_isSound_13 : decode cL_isSound 13 = .ok (.iload 4, 2) := by decide +kernel
theorem dL_isSound_15 : decode cL_isSound 15 = .ok (.iload_n 2, 1) := by decide +kernel
theorem dL_isSound_16 : decode cL_isSound 16 = .ok (.if_icmp .ge 309, 3) := by decide +kernel
theorem dL_isSound_19 : decode cL_isSound 19 = .ok (.aload_n 0, 1) := by decide +kernel
theorem dL_isSound_20 : decode cL_isSound 20 = .ok (.iload 4, 2) := by decide +kernel
theorem dL_isSound_22 : decode cL_isSound 22 = .ok (.iconst 2, 1) := by decide +kernel
theorem dL_isSound_23 : decode cL_isSound 23 = .ok (.invokevirtual 110, 3) := by decide +kernel
theorem dL_isSound_26 : decode cL_isSound 26 = .ok (.istore 5, 2) := by decide +kernel
theorem dL_isSound_28 : decode cL_isSound 28 = .ok (.aload_n 3, 1) := by decide +kernel
theorem dL_isSound_29 : decode cL_isSound 29 = .ok (.iload 5, 2) := by decide +kernel
theorem dL_isSound_31 : decode cL_isSound 31 = .ok (.dup2, 1) := by decide +kernel
theorem dL_isSound_32 : decode cL_isSound 32 = .ok (.iaload, 1) := by decide +kernel
theorem dL_isSound_33 : decode cL_isSound 33 = .ok (.iconst 1, 1) := by decide +kernel
theorem dL_isSound_34 : decode cL_isSound 34 = .ok (.iadd, 1) := by decide +kernel
theorem dL_isSound_35 : decode cL_isSound 35 = .ok (.iastore, 1) := by decide +kernel
theorem dL_isSound_36 : decode cL_isSound 36 = .ok (.aload_n 0, 1) := by decide +kernel
theorem dL_isSound_37 : decode cL_isSound 37 = .ok (.iload 4, 2) := by decide +kernel
theorem dL_isSound_39 : decode cL_isSound 39 = .ok (.bipush 8, 2) := by decide +kernel
theorem dL_isSound_41 : decode cL_isSound 41 = .ok (.invokevirtual 110, 3) := by decide +kernel
theorem dL_isSound_44 : decode cL_isSound 44 = .ok (.bipush 8, 2) := by decide +kernel
theorem dL_isSound_46 : decode cL_isSound 46 = .ok (.if_icmp .gt 53, 3) := by decide +kernel
theorem dL_isSound_49 : decode cL_isSound 49 = .ok (.aload_n 0, 1) := by decide +kernel
theorem dL_isSound_50 : decode cL_isSound 50 = .ok (.iload 4, 2) := by decide +kernel
theorem dL_isSound_52 : decode cL_isSound 52 = .ok (.iconst 3, 1) := by decide +kernel
theorem dL_isSound_53 : decode cL_isSound 53 = .ok (.invokevirtual 110, 3) := by decide +kernel
theorem dL_isSound_56 : decode cL_isSound 56 = .ok (.ifCond .lt 7, 3) := by decide +kernel
theorem dL_isSound_59 : decode cL_isSound 59 = .ok (.iconst 1, 1) := by decide +kernel
theorem dL_isSound_60 : decode cL_isSound 60 = .ok (.goto 4, 3) := by decide +kernel
theorem dL_isSound_63 : decode cL_isSound 63 = .ok (.iconst 0, 1) := by decide +kernel
theorem dL_isSound_64 : decode cL_isSound 64 = .ok (.iload 5, 2) := by decide +kernel
theorem dL_isSound_66 : decode cL_isSound 66 = .ok (.iconst 2, 1) := by decide +kernel
theorem dL_isSound_67 : decode cL_isSound 67 = .ok (.if_icmp .ne 7, 3) := by decide +kernel
theorem dL_isSound_70 : decode cL_isSound 70 = .ok (.iconst 1, 1) := by decide +kernel
theorem dL_isSound_71 : decode cL_isSound 71 = .ok (.goto 4, 3) := by decide +kernel
theorem dL_isSound_74 : decode cL_isSound 74 = .ok (.iconst 0, 1) := by decide +kernel
theorem dL_isSound_75 : decode cL_isSound 75 = .ok (.if_icmp .ne 24, 3) := by decide +kernel
theorem dL_isSound_78 : decode cL_isSound 78 = .ok (.aload_n 1, 1) := by decide +kernel
theorem dL_isSound_79 : decode cL_isSound 79 = .ok (.iload 4, 2) := by decide +kernel
theorem dL_isSound_81 : decode cL_isSound 81 = .ok (.iaload, 1) := by decide +kernel
theorem dL_isSound_82 : decode cL_isSound 82 = .ok (.ifCond .lt 19, 3) := by decide +kernel
theorem dL_isSound_85 : decode cL_isSound 85 = .ok (.aload_n 0, 1) := by decide +kernel
theorem dL_isSound_86 : decode cL_isSound 86 = .ok (.iload 4, 2) := by decide +kernel
theorem dL_isSound_88 : decode cL_isSound 88 = .ok (.iconst 3, 1) := by decide +kernel
theorem dL_isSound_89 : decode cL_isSound 89 = .ok (.invokevirtual 110, 3) := by decide +kernel
theorem dL_isSound_92 : decode cL_isSound 92 = .ok (.aload_n 1, 1) := by decide +kernel
theorem dL_isSound_93 : decode cL_isSound 93 = .ok (.iload 4, 2) := by decide +kernel
theorem dL_isSound_95 : decode cL_isSound 95 = .ok (.iaload, 1) := by decide +kernel
theorem dL_isSound_96 : decode cL_isSound 96 = .ok (.if_icmp .eq 5, 3) := by decide +kernel
theorem dL_isSound_99 : decode cL_isSound 99 = .ok (.iconst 0, 1) := by decide +kernel
theorem dL_isSound_100 : decode cL_isSound 100 = .ok (.ireturn, 1) := by decide +kernel
theorem dL_isSound_101 : decode cL_isSound 101 = .ok (.aload_n 1, 1) := by decide +kernel
theorem dL_isSound_102 : decode cL_isSound 102 = .ok (.iload 4, 2) := by decide +kernel
theorem dL_isSound_104 : decode cL_isSound 104 = .ok (.aload_n 0, 1) := by decide +kernel
theorem dL_isSound_105 : decode cL_isSound 105 = .ok (.iload 4, 2) := by decide +kernel
theorem dL_isSound_107 : decode cL_isSound 107 = .ok (.iconst 3, 1) := by decide +kernel
theorem dL_isSound_108 : decode cL_isSound 108 = .ok (.invokevirtual 110, 3) := by decide +kernel
theorem dL_isSound_111 : decode cL_isSound 111 = .ok (.iastore, 1) := by decide +kernel
theorem dL_isSound_112 : decode cL_isSound 112 = .ok (.iload 5, 2) := by decide +kernel
theorem dL_isSound_114 : decode cL_isSound 114 = .ok (.iconst 2, 1) := by decide +kernel
theorem dL_isSound_115 : decode cL_isSound 115 = .ok (.if_icmp .ne 49, 3) := by decide +kernel
theorem dL_isSound_118 : decode cL_isSound 118 = .ok (.aload_n 0, 1) := by decide +kernel
theorem dL_isSound_119 : decode cL_isSound 119 = .ok (.iload 4, 2) := by decide +kernel
theorem dL_isSound_121 : decode cL_isSound 121 = .ok (.bipush 8, 2) := by decide +kernel
theorem dL_isSound_123 : decode cL_isSound 123 = .ok (.invokevirtual 110, 3) := by decide +kernel
theorem dL_isSound_126 : decode cL_isSound 126 = .ok (.ifCond .ne 36, 3) := by decide +kernel
theorem dL_isSound_129 : decode cL_isSound 129 = .ok (.aload_n 0, 1) := by decide +kernel
theorem dL_isSound_130 : decode cL_isSound 130 = .ok (.iload 4, 2) := by decide +kernel
theorem dL_isSound_132 : decode cL_isSound 132 = .ok (.bipush 9, 2) := by decide +kernel
theorem dL_isSound_134 : decode cL_isSound 134 = .ok (.invokevirtual 110, 3) := by decide +kernel
theorem dL_isSound_137 : decode cL_isSound 137 = .ok (.ifCond .ne 25, 3) := by decide +kernel
theorem dL_isSound_140 : decode cL_isSound 140 = .ok (.aload_n 0, 1) := by decide +kernel
theorem dL_isSound_141 : decode cL_isSound 141 = .ok (.iload 4, 2) := by decide +kernel
theorem dL_isSound_143 : decode cL_isSound 143 = .ok (.iconst 4, 1) := by decide +kernel
theorem dL_isSound_144 : decode cL_isSound 144 = .ok (.invokevirtual 110, 3) := by decide +kernel
theorem dL_isSound_147 : decode cL_isSound 147 = .ok (.iconst (-1), 1) := by decide +kernel
theorem dL_isSound_148 : decode cL_isSound 148 = .ok (.if_icmp .ne 14, 3) := by decide +kernel
theorem dL_isSound_151 : decode cL_isSound 151 = .ok (.aload_n 0, 1) := by decide +kernel
theorem dL_isSound_152 : decode cL_isSound 152 = .ok (.iload 4, 2) := by decide +kernel
theorem dL_isSound_154 : decode cL_isSound 154 = .ok (.bipush 12, 2) := by decide +kernel
theorem dL_isSound_156 : decode cL_isSound 156 = .ok (.invokevirtual 110, 3) := by decide +kernel
theorem dL_isSound_159 : decode cL_isSound 159 = .ok (.ifCond .eq 5, 3) := by decide +kernel
theorem dL_isSound_162 : decode cL_isSound 162 = .ok (.iconst 0, 1) := by decide +kernel
theorem dL_isSound_163 : decode cL_isSound 163 = .ok (.ireturn, 1) := by decide +kernel
theorem dL_isSound_164 : decode cL_isSound 164 = .ok (.aload_n 0, 1) := by decide +kernel
theorem dL_isSound_165 : decode cL_isSound 165 = .ok (.iload 4, 2) := by decide +kernel
theorem dL_isSound_167 : decode cL_isSound 167 = .ok (.iconst 0, 1) := by decide +kernel
theorem dL_isSound_168 : decode cL_isSound 168 = .ok (.invokevirtual 110, 3) := by decide +kernel
theorem dL_isSound_171 : decode cL_isSound 171 = .ok (.ifCond .lt 7, 3) := by decide +kernel
theorem dL_isSound_174 : decode cL_isSound 174 = .ok (.iconst 1, 1) := by decide +kernel
theorem dL_isSound_175 : decode cL_isSound 175 = .ok (.goto 4, 3) := by decide +kernel
theorem dL_isSound_178 : decode cL_isSound 178 = .ok (.iconst 0, 1) := by decide +kernel
theorem dL_isSound_179 : decode cL_isSound 179 = .ok (.istore 6, 2) := by decide +kernel
theorem dL_isSound_181 : decode cL_isSound 181 = .ok (.iload 6, 2) := by decide +kernel
theorem dL_isSound_183 : decode cL_isSound 183 = .ok (.ifCond .eq 31, 3) := by decide +kernel
theorem dL_isSound_186 : decode cL_isSound 186 = .ok (.iload 5, 2) := by decide +kernel
theorem dL_isSound_188 : decode cL_isSound 188 = .ok (.ifCond .ne 7, 3) := by decide +kernel
theorem dL_isSound_191 : decode cL_isSound 191 = .ok (.iconst 1, 1) := by decide +kernel
theorem dL_isSound_192 : decode cL_isSound 192 = .ok (.goto 4, 3) := by decide +kernel
theorem dL_isSound_195 : decode cL_isSound 195 = .ok (.iconst 0, 1) := by decide +kernel
theorem dL_isSound_196 : decode cL_isSound 196 = .ok (.aload_n 0, 1) := by decide +kernel
theorem dL_isSound_197 : decode cL_isSound 197 = .ok (.iload 4, 2) := by decide +kernel
theorem dL_isSound_199 : decode cL_isSound 199 = .ok (.iconst 4, 1) := by decide +kernel
theorem dL_isSound_200 : decode cL_isSound 200 = .ok (.invokevirtual 110, 3) := by decide +kernel
theorem dL_isSound_203 : decode cL_isSound 203 = .ok (.ifCond .lt 7, 3) := by decide +kernel
theorem dL_isSound_206 : decode cL_isSound 206 = .ok (.iconst 1, 1) := by decide +kernel
theorem dL_isSound_207 : decode cL_isSound 207 = .ok (.goto 4, 3) := by decide +kernel
theorem dL_isSound_210 : decode cL_isSound 210 = .ok (.iconst 0, 1) := by decide +kernel
theorem dL_isSound_211 : decode cL_isSound 211 = .ok (.if_icmp .ne 13, 3) := by decide +kernel
theorem dL_isSound_214 : decode cL_isSound 214 = .ok (.iload 6, 2) := by decide +kernel
theorem dL_isSound_216 : decode cL_isSound 216 = .ok (.ifCond .ne 10, 3) := by decide +kernel
theorem dL_isSound_219 : decode cL_isSound 219 = .ok (.iload 5, 2) := by decide +kernel
theorem dL_isSound_221 : decode cL_isSound 221 = .ok (.ifCond .ne 5, 3) := by decide +kernel
theorem dL_isSound_224 : decode cL_isSound 224 = .ok (.iconst 0, 1) := by decide +kernel
theorem dL_isSound_225 : decode cL_isSound 225 = .ok (.ireturn, 1) := by decide +kernel
theorem dL_isSound_226 : decode cL_isSound 226 = .ok (.iconst 0, 1) := by decide +kernel
theorem dL_isSound_227 : decode cL_isSound 227 = .ok (.istore 7, 2) := by decide +kernel
theorem dL_isSound_229 : decode cL_isSound 229 = .ok (.iload 7, 2) := by decide +kernel
theorem dL_isSound_231 : decode cL_isSound 231 = .ok (.iload_n 2, 1) := by decide +kernel
theorem dL_isSound_232 : decode cL_isSound 232 = .ok (.if_icmp .ge 62, 3) := by decide +kernel
theorem dL_isSound_235 : decode cL_isSound 235 = .ok (.aload_n 0, 1) := by decide +kernel
theorem dL_isSound_236 : decode cL_isSound 236 = .ok (.iload 4, 2) := by decide +kernel
theorem dL_isSound_238 : decode cL_isSound 238 = .ok (.bipush 9, 2) := by decide +kernel
theorem dL_isSound_240 : decode cL_isSound 240 = .ok (.invokevirtual 110, 3) := by decide +kernel
theorem dL_isSound_243 : decode cL_isSound 243 = .ok (.iload 7, 2) := by decide +kernel
theorem dL_isSound_245 : decode cL_isSound 245 = .ok (.ishr, 1) := by decide +kernel
theorem dL_isSound_246 : decode cL_isSound 246 = .ok (.iconst 1, 1) := by decide +kernel
theorem dL_isSound_247 : decode cL_isSound 247 = .ok (.iand, 1) := by decide +kernel
theorem dL_isSound_248 : decode cL_isSound 248 = .ok (.iconst 1, 1) := by decide +kernel
theorem dL_isSound_249 : decode cL_isSound 249 = .ok (.if_icmp .ne 39, 3) := by decide +kernel
theorem dL_isSound_252 : decode cL_isSound 252 = .ok (.iload 7, 2) := by decide +kernel
theorem dL_isSound_254 : decode cL_isSound 254 = .ok (.iload 4, 2) := by decide +kernel
theorem dL_isSound_256 : decode cL_isSound 256 = .ok (.if_icmp .eq 30, 3) := by decide +kernel
theorem dL_isSound_259 : decode cL_isSound 259 = .ok (.aload_n 0, 1) := by decide +kernel
theorem dL_isSound_260 : decode cL_isSound 260 = .ok (.iload 7, 2) := by decide +kernel
theorem dL_isSound_262 : decode cL_isSound 262 = .ok (.bipush 9, 2) := by decide +kernel
theorem dL_isSound_264 : decode cL_isSound 264 = .ok (.invokevirtual 110, 3) := by decide +kernel
theorem dL_isSound_267 : decode cL_isSound 267 = .ok (.iload 4, 2) := by decide +kernel
theorem dL_isSound_269 : decode cL_isSound 269 = .ok (.ishr, 1) := by decide +kernel
theorem dL_isSound_270 : decode cL_isSound 270 = .ok (.iconst 1, 1) := by decide +kernel
theorem dL_isSound_271 : decode cL_isSound 271 = .ok (.iand, 1) := by decide +kernel
theorem dL_isSound_272 : decode cL_isSound 272 = .ok (.ifCond .eq 14, 3) := by decide +kernel
theorem dL_isSound_275 : decode cL_isSound 275 = .ok (.aload_n 0, 1) := by decide +kernel
theorem dL_isSound_276 : decode cL_isSound 276 = .ok (.iload 7, 2) := by decide +kernel
theorem dL_isSound_278 : decode cL_isSound 278 = .ok (.iconst 2, 1) := by decide +kernel
theorem dL_isSound_279 : decode cL_isSound 279 = .ok (.invokevirtual 110, 3) := by decide +kernel
theorem dL_isSound_282 : decode cL_isSound 282 = .ok (.iconst 2, 1) := by decide +kernel
theorem dL_isSound_283 : decode cL_isSound 283 = .ok (.if_icmp .ne 5, 3) := by decide +kernel
theorem dL_isSound_286 : decode cL_isSound 286 = .ok (.iconst 0, 1) := by decide +kernel
theorem dL_isSound_287 : decode cL_isSound 287 = .ok (.ireturn, 1) := by decide +kernel
theorem dL_isSound_288 : decode cL_isSound 288 = .ok (.iinc 7 1, 3) := by decide +kernel
theorem dL_isSound_291 : decode cL_isSound 291 = .ok (.goto (-62), 3) := by decide +kernel
theorem dL_isSound_294 : decode cL_isSound 294 = .ok (.iload 5, 2) := by decide +kernel
theorem dL_isSound_296 : decode cL_isSound 296 = .ok (.iconst 2, 1) := by decide +kernel
theorem dL_isSound_297 : decode cL_isSound 297 = .ok (.if_icmp .ge 22, 3) := by decide +kernel
theorem dL_isSound_300 : decode cL_isSound 300 = .ok (.aload_n 0, 1) := by decide +kernel
theorem dL_isSound_301 : decode cL_isSound 301 = .ok (.iload 4, 2) := by decide +kernel
theorem dL_isSound_303 : decode cL_isSound 303 = .ok (.aload_n 0, 1) := by decide +kernel
theorem dL_isSound_304 : decode cL_isSound 304 = .ok (.iload 4, 2) := by decide +kernel
theorem dL_isSound_306 : decode cL_isSound 306 = .ok (.bipush 11, 2) := by decide +kernel
theorem dL_isSound_308 : decode cL_isSound 308 = .ok (.invokevirtual 110, 3) := by decide +kernel
theorem dL_isSound_311 : decode cL_isSound 311 = .ok (.invokestatic 113, 3) := by decide +kernel
theorem dL_isSound_314 : decode cL_isSound 314 = .ok (.ifCond .ne 5, 3) := by decide +kernel
theorem dL_isSound_317 : decode cL_isSound 317 = .ok (.iconst 0, 1) := by decide +kernel
theorem dL_isSound_318 : decode cL_isSound 318 = .ok (.ireturn, 1) := by decide +kernel
theorem dL_isSound_319 : decode cL_isSound 319 = .ok (.iinc 4 1, 3) := by decide +kernel
theorem dL_isSound_322 : decode cL_isSound 322 = .ok (.goto (-309), 3) := by decide +kernel
theorem dL_isSound_325 : decode cL_isSound 325 = .ok (.iconst 0, 1) := by decide +kernel
theorem dL_isSound_326 : decode cL_isSound 326 = .ok (.istore 4, 2) := by decide +kernel
theorem dL_isSound_328 : decode cL_isSound 328 = .ok (.iload 4, 2) := by decide +kernel
theorem dL_isSound_330 : decode cL_isSound 330 = .ok (.iconst 4, 1) := by decide +kernel
theorem dL_isSound_331 : decode cL_isSound 331 = .ok (.if_icmp .ge 35, 3) := by decide +kernel
theorem dL_isSound_334 : decode cL_isSound 334 = .ok (.aload_n 0, 1) := by decide +kernel
theorem dL_isSound_335 : decode cL_isSound 335 = .ok (.iload 4, 2) := by decide +kernel
theorem dL_isSound_337 : decode cL_isSound 337 = .ok (.invokevirtual 116, 3) := by decide +kernel
theorem dL_isSound_340 : decode cL_isSound 340 = .ok (.ifCond .lt 20, 3) := by decide +kernel
theorem dL_isSound_343 : decode cL_isSound 343 = .ok (.aload_n 0, 1) := by decide +kernel
theorem dL_isSound_344 : decode cL_isSound 344 = .ok (.aload_n 0, 1) := by decide +kernel
theorem dL_isSound_345 : decode cL_isSound 345 = .ok (.iload 4, 2) := by decide +kernel
theorem dL_isSound_347 : decode cL_isSound 347 = .ok (.invokevirtual 116, 3) := by decide +kernel
theorem dL_isSound_350 : decode cL_isSound 350 = .ok (.iconst 2, 1) := by decide +kernel
theorem dL_isSound_351 : decode cL_isSound 351 = .ok (.invokevirtual 110, 3) := by decide +kernel
theorem dL_isSound_354 : decode cL_isSound 354 = .ok (.iconst 2, 1) := by decide +kernel
theorem dL_isSound_355 : decode cL_isSound 355 = .ok (.if_icmp .ne 5, 3) := by decide +kernel
theorem dL_isSound_358 : decode cL_isSound 358 = .ok (.iconst 0, 1) := by decide +kernel
theorem dL_isSound_359 : decode cL_isSound 359 = .ok (.ireturn, 1) := by decide +kernel
theorem dL_isSound_360 : decode cL_isSound 360 = .ok (.iinc 4 1, 3) := by decide +kernel
theorem dL_isSound_363 : decode cL_isSound 363 = .ok (.goto (-35), 3) := by decide +kernel
theorem dL_isSound_366 : decode cL_isSound 366 = .ok (.aload_n 3, 1) := by decide +kernel
theorem dL_isSound_367 : decode cL_isSound 367 = .ok (.iconst 0, 1) := by decide +kernel
theorem dL_isSound_368 : decode cL_isSound 368 = .ok (.iaload, 1) := by decide +kernel
theorem dL_isSound_369 : decode cL_isSound 369 = .ok (.aload_n 0, 1) := by decide +kernel
theorem dL_isSound_370 : decode cL_isSound 370 = .ok (.iconst 3, 1) := by decide +kernel
theorem dL_isSound_371 : decode cL_isSound 371 = .ok (.invokevirtual 57, 3) := by decide +kernel
theorem dL_isSound_374 : decode cL_isSound 374 = .ok (.if_icmp .ne 29, 3) := by decide +kernel
theorem dL_isSound_377 : decode cL_isSound 377 = .ok (.aload_n 3, 1) := by decide +kernel
theorem dL_isSound_378 : decode cL_isSound 378 = .ok (.iconst 1, 1) := by decide +kernel
theorem dL_isSound_379 : decode cL_isSound 379 = .ok (.iaload, 1) := by decide +kernel
theorem dL_isSound_380 : decode cL_isSound 380 = .ok (.aload_n 0, 1) := by decide +kernel
theorem dL_isSound_381 : decode cL_isSound 381 = .ok (.iconst 4, 1) := by decide +kernel
theorem dL_isSound_382 : decode cL_isSound 382 = .ok (.invokevirtual 57, 3) := by decide +kernel
theorem dL_isSound_385 : decode cL_isSound 385 = .ok (.if_icmp .ne 18, 3) := by decide +kernel
theorem dL_isSound_388 : decode cL_isSound 388 = .ok (.aload_n 3, 1) := by decide +kernel
theorem dL_isSound_389 : decode cL_isSound 389 = .ok (.iconst 2, 1) := by decide +kernel
theorem dL_isSound_390 : decode cL_isSound 390 = .ok (.iaload, 1) := by decide +kernel
theorem dL_isSound_391 : decode cL_isSound 391 = .ok (.aload_n 0, 1) := by decide +kernel
theorem dL_isSound_392 : decode cL_isSound 392 = .ok (.iconst 5, 1) := by decide +kernel
theorem dL_isSound_393 : decode cL_isSound 393 = .ok (.invokevirtual 57, 3) := by decide +kernel
theorem dL_isSound_396 : decode cL_isSound 396 = .ok (.if_icmp .ne 7, 3) := by decide +kernel
theorem dL_isSound_399 : decode cL_isSound 399 = .ok (.iconst 1, 1) := by decide +kernel
theorem dL_isSound_400 : decode cL_isSound 400 = .ok (.goto 4, 3) := by decide +kernel
theorem dL_isSound_403 : decode cL_isSound 403 = .ok (.iconst 0, 1) := by decide +kernel
theorem dL_isSound_404 : decode cL_isSound 404 = .ok (.ireturn, 1) := by decide +kernel
theorem dL_law_0 : decode cL_law 0 = .ok (.new 9, 3) := by decide +kernel
theorem dL_law_3 : decode cL_law 3 = .ok (.dup, 1) := by decide +kernel
theorem dL_law_4 : decode cL_law 4 = .ok (.invokespecial 11, 3) := by decide +kernel
theorem dL_law_7 : decode cL_law 7 = .ok (.astore_n 1, 1) := by decide +kernel
theorem dL_law_8 : decode cL_law 8 = .ok (.iconst 1, 1) := by decide +kernel
theorem dL_law_9 : decode cL_law 9 = .ok (.aload_n 0, 1) := by decide +kernel
theorem dL_law_10 : decode cL_law 10 = .ok (.iconst 0, 1) := by decide +kernel
theorem dL_law_11 : decode cL_law 11 = .ok (.invokestatic 12, 3) := by decide +kernel
theorem dL_law_14 : decode cL_law 14 = .ok (.iconst 3, 1) := by decide +kernel
theorem dL_law_15 : decode cL_law 15 = .ok (.invokestatic 18, 3) := by decide +kernel
theorem dL_law_18 : decode cL_law 18 = .ok (.iadd, 1) := by decide +kernel
theorem dL_law_19 : decode cL_law 19 = .ok (.istore_n 2, 1) := by decide +kernel
theorem dL_law_20 : decode cL_law 20 = .ok (.iconst 0, 1) := by decide +kernel
theorem dL_law_21 : decode cL_law 21 = .ok (.istore_n 3, 1) := by decide +kernel
theorem dL_law_22 : decode cL_law 22 = .ok (.iload_n 3, 1) := by decide +kernel
theorem dL_law_23 : decode cL_law 23 = .ok (.iload_n 2, 1) := by decide +kernel
theorem dL_law_24 : decode cL_law 24 = .ok (.if_icmp .ge 29, 3) := by decide +kernel
theorem dL_law_27 : decode cL_law 27 = .ok (.aload_n 1, 1) := by decide +kernel
theorem dL_law_28 : decode cL_law 28 = .ok (.invokevirtual 22, 3) := by decide +kernel
theorem dL_law_31 : decode cL_law 31 = .ok (.iload_n 3, 1) := by decide +kernel
theorem dL_law_32 : decode cL_law 32 = .ok (.if_icmp .ne 13, 3) := by decide +kernel
theorem dL_law_35 : decode cL_law 35 = .ok (.aload_n 1, 1) := by decide +kernel
theorem dL_law_36 : decode cL_law 36 = .ok (.aload_n 0, 1) := by decide +kernel
theorem dL_law_37 : decode cL_law 37 = .ok (.iload_n 3, 1) := by decide +kernel
theorem dL_law_38 : decode cL_law 38 = .ok (.iload_n 2, 1) := by decide +kernel
theorem dL_law_39 : decode cL_law 39 = .ok (.invokestatic 26, 3) := by decide +kernel
theorem dL_law_42 : decode cL_law 42 = .ok (.ifCond .ne 5, 3) := by decide +kernel
theorem dL_law_45 : decode cL_law 45 = .ok (.iconst 0, 1) := by decide +kernel
theorem dL_law_46 : decode cL_law 46 = .ok (.ireturn, 1) := by decide +kernel
theorem dL_law_47 : decode cL_law 47 = .ok (.iinc 3 1, 3) := by decide +kernel
theorem dL_law_50 : decode cL_law 50 = .ok (.goto (-28), 3) := by decide +kernel
theorem dL_law_53 : decode cL_law 53 = .ok (.iconst 0, 1) := by decide +kernel
theorem dL_law_54 : decode cL_law 54 = .ok (.istore_n 3, 1) := by decide +kernel
theorem dL_law_55 : decode cL_law 55 = .ok (.iload_n 3, 1) := by decide +kernel
theorem dL_law_56 : decode cL_law 56 = .ok (.iconst 2, 1) := by decide +kernel
theorem dL_law_57 : decode cL_law 57 = .ok (.if_icmp .ge 153, 3) := by decide +kernel
theorem dL_law_60 : decode cL_law 60 = .ok (.aload_n 1, 1) := by decide +kernel
theorem dL_law_61 : decode cL_law 61 = .ok (.aload_n 0, 1) := by decide +kernel
theorem dL_law_62 : decode cL_law 62 = .ok (.iload_n 3, 1) := by decide +kernel
theorem dL_law_63 : decode cL_law 63 = .ok (.iconst 1, 1) := by decide +kernel
theorem dL_law_64 : decode cL_law 64 = .ok (.iadd, 1) := by decide +kernel
theorem dL_law_65 : decode cL_law 65 = .ok (.invokestatic 12, 3) := by decide +kernel
theorem dL_law_68 : decode cL_law 68 = .ok (.iconst 3, 1) := by decide +kernel
theorem dL_law_69 : decode cL_law 69 = .ok (.invokestatic 18, 3) := by decide +kernel
theorem dL_law_72 : decode cL_law 72 = .ok (.aload_n 0, 1) := by decide +kernel
theorem dL_law_73 : decode cL_law 73 = .ok (.iload_n 3, 1) := by decide +kernel
theorem dL_law_74 : decode cL_law 74 = .ok (.iconst 2, 1) := by decide +kernel
theorem dL_law_75 : decode cL_law 75 = .ok (.iadd, 1) := by decide +kernel
theorem dL_law_76 : decode cL_law 76 = .ok (.invokestatic 12, 3) := by decide +kernel
theorem dL_law_79 : decode cL_law 79 = .ok (.iconst 4, 1) := by decide +kernel
theorem dL_law_80 : decode cL_law 80 = .ok (.invokestatic 18, 3) := by decide +kernel
theorem dL_law_83 : decode cL_law 83 = .ok (.iconst 1, 1) := by decide +kernel
theorem dL_law_84 : decode cL_law 84 = .ok (.aload_n 0, 1) := by decide +kernel
theorem dL_law_85 : decode cL_law 85 = .ok (.iload_n 3, 1) := by decide +kernel
theorem dL_law_86 : decode cL_law 86 = .ok (.iconst 3, 1) := by decide +kernel
theorem dL_law_87 : decode cL_law 87 = .ok (.iadd, 1) := by decide +kernel
theorem dL_law_88 : decode cL_law 88 = .ok (.invokestatic 12, 3) := by decide +kernel
theorem dL_law_91 : decode cL_law 91 = .ok (.bipush 9, 2) := by decide +kernel
theorem dL_law_93 : decode cL_law 93 = .ok (.invokestatic 18, 3) := by decide +kernel
theorem dL_law_96 : decode cL_law 96 = .ok (.iadd, 1) := by decide +kernel
theorem dL_law_97 : decode cL_law 97 = .ok (.invokevirtual 30, 3) := by decide +kernel
theorem dL_law_100 : decode cL_law 100 = .ok (.iload_n 3, 1) := by decide +kernel
theorem dL_law_101 : decode cL_law 101 = .ok (.if_icmp .eq 5, 3) := by decide +kernel
theorem dL_law_104 : decode cL_law 104 = .ok (.iconst 0, 1) := by decide +kernel
theorem dL_law_105 : decode cL_law 105 = .ok (.ireturn, 1) := by decide +kernel
theorem dL_law_106 : decode cL_law 106 = .ok (.iconst 0, 1) := by decide +kernel
theorem dL_law_107 : decode cL_law 107 = .ok (.istore 4, 2) := by decide +kernel
theorem dL_law_109 : decode cL_law 109 = .ok (.iload 4, 2) := by decide +kernel
theorem dL_law_111 : decode cL_law 111 = .ok (.iconst 1, 1) := by decide +kernel
theorem dL_law_112 : decode cL_law 112 = .ok (.aload_n 0, 1) := by decide +kernel
theorem dL_law_113 : decode cL_law 113 = .ok (.iload_n 3, 1) := by decide +kernel
theorem dL_law_114 : decode cL_law 114 = .ok (.iconst 4, 1) := by decide +kernel
theorem dL_law_115 : decode cL_law 115 = .ok (.iadd, 1) := by decide +kernel
theorem dL_law_116 : decode cL_law 116 = .ok (.invokestatic 12, 3) := by decide +kernel
theorem dL_law_119 : decode cL_law 119 = .ok (.iconst 3, 1) := by decide +kernel
theorem dL_law_120 : decode cL_law 120 = .ok (.invokestatic 18, 3) := by decide +kernel
theorem dL_law_123 : decode cL_law 123 = .ok (.iadd, 1) := by decide +kernel
theorem dL_law_124 : decode cL_law 124 = .ok (.if_icmp .ge 80, 3) := by decide +kernel
theorem dL_law_127 : decode cL_law 127 = .ok (.aload_n 1, 1) := by decide +kernel
theorem dL_law_128 : decode cL_law 128 = .ok (.iload_n 3, 1) := by decide +kernel
theorem dL_law_129 : decode cL_law 129 = .ok (.iload_n 3, 1) := by decide +kernel
theorem dL_law_130 : decode cL_law 130 = .ok (.iconst 1, 1) := by decide +kernel
theorem dL_law_131 : decode cL_law 131 = .ok (.if_icmp .ne 13, 3) := by decide +kernel
theorem dL_law_134 : decode cL_law 134 = .ok (.iload 4, 2) := by decide +kernel
theorem dL_law_136 : decode cL_law 136 = .ok (.iconst 1, 1) := by decide +kernel
theorem dL_law_137 : decode cL_law 137 = .ok (.if_icmp .ne 7, 3) := by decide +kernel
theorem dL_law_140 : decode cL_law 140 = .ok (.iconst 1, 1) := by decide +kernel
theorem dL_law_141 : decode cL_law 141 = .ok (.goto 4, 3) := by decide +kernel
theorem dL_law_144 : decode cL_law 144 = .ok (.iconst 0, 1) := by decide +kernel
theorem dL_law_145 : decode cL_law 145 = .ok (.iload_n 3, 1) := by decide +kernel
theorem dL_law_146 : decode cL_law 146 = .ok (.iconst 1, 1) := by decide +kernel
theorem dL_law_147 : decode cL_law 147 = .ok (.if_icmp .ne 13, 3) := by decide +kernel
theorem dL_law_150 : decode cL_law 150 = .ok (.iload 4, 2) := by decide +kernel
theorem dL_law_152 : decode cL_law 152 = .ok (.iconst 1, 1) := by decide +kernel
theorem dL_law_153 : decode cL_law 153 = .ok (.if_icmp .ne 7, 3) := by decide +kernel
theorem dL_law_156 : decode cL_law 156 = .ok (.iconst 0, 1) := by decide +kernel
theorem dL_law_157 : decode cL_law 157 = .ok (.goto 15, 3) := by decide +kernel
theorem dL_law_160 : decode cL_law 160 = .ok (.aload_n 0, 1) := by decide +kernel
theorem dL_law_161 : decode cL_law 161 = .ok (.iload 4, 2) := by decide +kernel
theorem dL_law_163 : decode cL_law 163 = .ok (.iload_n 3, 1) := by decide +kernel
theorem dL_law_164 : decode cL_law 164 = .ok (.iadd, 1) := by decide +kernel
theorem dL_law_165 : decode cL_law 165 = .ok (.invokestatic 12, 3) := by decide +kernel
theorem dL_law_168 : decode cL_law 168 = .ok (.iload_n 2, 1) := by decide +kernel
theorem dL_law_169 : decode cL_law 169 = .ok (.invokestatic 18, 3) := by decide +kernel
theorem dL_law_172 : decode cL_law 172 = .ok (.aload_n 0, 1) := by decide +kernel
theorem dL_law_173 : decode cL_law 173 = .ok (.iload 4, 2) := by decide +kernel
theorem dL_law_175 : decode cL_law 175 = .ok (.iload_n 3, 1) := by decide +kernel
theorem dL_law_176 : decode cL_law 176 = .ok (.iadd, 1) := by decide +kernel
theorem dL_law_177 : decode cL_law 177 = .ok (.iconst 5, 1) := by decide +kernel
theorem dL_law_178 : decode cL_law 178 = .ok (.iadd, 1) := by decide +kernel
theorem dL_law_179 : decode cL_law 179 = .ok (.invokestatic 12, 3) := by decide +kernel
theorem dL_law_182 : decode cL_law 182 = .ok (.iconst 3, 1) := by decide +kernel
theorem dL_law_183 : decode cL_law 183 = .ok (.ishr, 1) := by decide +kernel
theorem dL_law_184 : decode cL_law 184 = .ok (.iconst 3, 1) := by decide +kernel
theorem dL_law_185 : decode cL_law 185 = .ok (.invokestatic 18, 3) := by decide +kernel
theorem dL_law_188 : decode cL_law 188 = .ok (.invokevirtual 34, 3) := by decide +kernel
theorem dL_law_191 : decode cL_law 191 = .ok (.iload 4, 2) := by decide +kernel
theorem dL_law_193 : decode cL_law 193 = .ok (.if_icmp .eq 5, 3) := by decide +kernel
theorem dL_law_196 : decode cL_law 196 = .ok (.iconst 0, 1) := by decide +kernel
theorem dL_law_197 : decode cL_law 197 = .ok (.ireturn, 1) := by decide +kernel
theorem dL_law_198 : decode cL_law 198 = .ok (.iinc 4 1, 3) := by decide +kernel
theorem dL_law_201 : decode cL_law 201 = .ok (.goto (-92), 3) := by decide +kernel
theorem dL_law_204 : decode cL_law 204 = .ok (.iinc 3 1, 3) := by decide +kernel
theorem dL_law_207 : decode cL_law 207 = .ok (.goto (-152), 3) := by decide +kernel
theorem dL_law_210 : decode cL_law 210 = .ok (.aload_n 1, 1) := by decide +kernel
theorem dL_law_211 : decode cL_law 211 = .ok (.iconst 0, 1) := by decide +kernel
theorem dL_law_212 : decode cL_law 212 = .ok (.invokevirtual 38, 3) := by decide +kernel
theorem dL_law_215 : decode cL_law 215 = .ok (.ifCond .eq 5, 3) := by decide +kernel
theorem dL_law_218 : decode cL_law 218 = .ok (.iconst 0, 1) := by decide +kernel
theorem dL_law_219 : decode cL_law 219 = .ok (.ireturn, 1) := by decide +kernel
theorem dL_law_220 : decode cL_law 220 = .ok (.bipush 24, 2) := by decide +kernel
theorem dL_law_222 : decode cL_law 222 = .ok (.newarray .int, 2) := by decide +kernel
theorem dL_law_224 : decode cL_law 224 = .ok (.astore_n 3, 1) := by decide +kernel
theorem dL_law_225 : decode cL_law 225 = .ok (.iconst 0, 1) := by decide +kernel
theorem dL_law_226 : decode cL_law 226 = .ok (.istore 4, 2) := by decide +kernel
theorem dL_law_228 : decode cL_law 228 = .ok (.iload 4, 2) := by decide +kernel
theorem dL_law_230 : decode cL_law 230 = .ok (.bipush 24, 2) := by decide +kernel
theorem dL_law_232 : decode cL_law 232 = .ok (.if_icmp .ge 14, 3) := by decide +kernel
theorem dL_law_235 : decode cL_law 235 = .ok (.aload_n 3, 1) := by decide +kernel
theorem dL_law_236 : decode cL_law 236 = .ok (.iload 4, 2) := by decide +kernel
theorem dL_law_238 : decode cL_law 238 = .ok (.iconst (-1), 1) := by decide +kernel
theorem dL_law_239 : decode cL_law 239 = .ok (.iastore, 1) := by decide +kernel
theorem dL_law_240 : decode cL_law 240 = .ok (.iinc 4 1, 3) := by decide +kernel
theorem dL_law_243 : decode cL_law 243 = .ok (.goto (-15), 3) := by decide +kernel
theorem dL_law_246 : decode cL_law 246 = .ok (.iconst 0, 1) := by decide +kernel
theorem dL_law_247 : decode cL_law 247 = .ok (.istore 4, 2) := by decide +kernel
theorem dL_law_249 : decode cL_law 249 = .ok (.iload 4, 2) := by decide +kernel
theorem dL_law_251 : decode cL_law 251 = .ok (.bipush 22, 2) := by decide +kernel
theorem dL_law_253 : decode cL_law 253 = .ok (.if_icmp .ge 61, 3) := by decide +kernel
theorem dL_law_256 : decode cL_law 256 = .ok (.aload_n 1, 1) := by decide +kernel
theorem dL_law_257 : decode cL_law 257 = .ok (.aload_n 0, 1) := by decide +kernel
theorem dL_law_258 : decode cL_law 258 = .ok (.aload_n 0, 1) := by decide +kernel
theorem dL_law_259 : decode cL_law 259 = .ok (.iload 4, 2) := by decide +kernel
theorem dL_law_261 : decode cL_law 261 = .ok (.bipush 16, 2) := by decide +kernel
theorem dL_law_263 : decode cL_law 263 = .ok (.irem, 1) := by decide +kernel
theorem dL_law_264 : decode cL_law 264 = .ok (.invokestatic 12, 3) := by decide +kernel
theorem dL_law_267 : decode cL_law 267 = .ok (.bipush 13, 2) := by decide +kernel
theorem dL_law_269 : decode cL_law 269 = .ok (.iload 4, 2) := by decide +kernel
theorem dL_law_271 : decode cL_law 271 = .ok (.imul, 1) := by decide +kernel
theorem dL_law_272 : decode cL_law 272 = .ok (.iadd, 1) := by decide +kernel
theorem dL_law_273 : decode cL_law 273 = .ok (.aload_n 0, 1) := by decide +kernel
theorem dL_law_274 : decode cL_law 274 = .ok (.iconst 3, 1) := by decide +kernel
theorem dL_law_275 : decode cL_law 275 = .ok (.iload 4, 2) := by decide +kernel
theorem dL_law_277 : decode cL_law 277 = .ok (.imul, 1) := by decide +kernel
theorem dL_law_278 : decode cL_law 278 = .ok (.iconst 1, 1) := by decide +kernel
theorem dL_law_279 : decode cL_law 279 = .ok (.iadd, 1) := by decide +kernel
theorem dL_law_280 : decode cL_law 280 = .ok (.bipush 16, 2) := by decide +kernel
theorem dL_law_282 : decode cL_law 282 = .ok (.irem, 1) := by decide +kernel
theorem dL_law_283 : decode cL_law 283 = .ok (.invokestatic 12, 3) := by decide +kernel
theorem dL_law_286 : decode cL_law 286 = .ok (.iload 4, 2) := by decide +kernel
theorem dL_law_288 : decode cL_law 288 = .ok (.iadd, 1) := by decide +kernel
theorem dL_law_289 : decode cL_law 289 = .ok (.iload_n 2, 1) := by decide +kernel
theorem dL_law_290 : decode cL_law 290 = .ok (.invokestatic 42, 3) := by decide +kernel
theorem dL_law_293 : decode cL_law 293 = .ok (.ifCond .ne 5, 3) := by decide +kernel
theorem dL_law_296 : decode cL_law 296 = .ok (.iconst 0, 1) := by decide +kernel
theorem dL_law_297 : decode cL_law 297 = .ok (.ireturn, 1) := by decide +kernel
theorem dL_law_298 : decode cL_law 298 = .ok (.aload_n 1, 1) := by decide +kernel
theorem dL_law_299 : decode cL_law 299 = .ok (.aload_n 3, 1) := by decide +kernel
theorem dL_law_300 : decode cL_law 300 = .ok (.invokestatic 46, 3) := by decide +kernel
theorem dL_law_303 : decode cL_law 303 = .ok (.ifCond .ne 5, 3) := by decide +kernel
theorem dL_law_306 : decode cL_law 306 = .ok (.iconst 0, 1) := by decide +kernel
theorem dL_law_307 : decode cL_law 307 = .ok (.ireturn, 1) := by decide +kernel
theorem dL_law_308 : decode cL_law 308 = .ok (.iinc 4 1, 3) := by decide +kernel
theorem dL_law_311 : decode cL_law 311 = .ok (.goto (-62), 3) := by decide +kernel
theorem dL_law_314 : decode cL_law 314 = .ok (.aload_n 1, 1) := by decide +kernel
theorem dL_law_315 : decode cL_law 315 = .ok (.invokevirtual 50, 3) := by decide +kernel
theorem dL_law_318 : decode cL_law 318 = .ok (.lstore 4, 2) := by decide +kernel
theorem dL_law_320 : decode cL_law 320 = .ok (.aload_n 1, 1) := by decide +kernel
theorem dL_law_321 : decode cL_law 321 = .ok (.iconst 2, 1) := by decide +kernel
theorem dL_law_322 : decode cL_law 322 = .ok (.bipush 9, 2) := by decide +kernel
theorem dL_law_324 : decode cL_law 324 = .ok (.invokevirtual 54, 3) := by decide +kernel
theorem dL_law_327 : decode cL_law 327 = .ok (.aload_n 1, 1) := by decide +kernel
theorem dL_law_328 : decode cL_law 328 = .ok (.iconst 5, 1) := by decide +kernel
theorem dL_law_329 : decode cL_law 329 = .ok (.invokevirtual 57, 3) := by decide +kernel
theorem dL_law_332 : decode cL_law 332 = .ok (.if_icmp .lt 14, 3) := by decide +kernel
theorem dL_law_335 : decode cL_law 335 = .ok (.aload_n 1, 1) := by decide +kernel
theorem dL_law_336 : decode cL_law 336 = .ok (.iconst 0, 1) := by decide +kernel
theorem dL_law_337 : decode cL_law 337 = .ok (.iconst 4, 1) := by decide +kernel
theorem dL_law_338 : decode cL_law 338 = .ok (.invokevirtual 60, 3) := by decide +kernel
theorem dL_law_341 : decode cL_law 341 = .ok (.bipush 7, 2) := by decide +kernel
theorem dL_law_343 : decode cL_law 343 = .ok (.if_icmp .le 5, 3) := by decide +kernel
theorem dL_law_346 : decode cL_law 346 = .ok (.iconst 0, 1) := by decide +kernel
theorem dL_law_347 : decode cL_law 347 = .ok (.ireturn, 1) := by decide +kernel
theorem dL_law_348 : decode cL_law 348 = .ok (.aload_n 1, 1) := by decide +kernel
theorem dL_law_349 : decode cL_law 349 = .ok (.invokevirtual 50, 3) := by decide +kernel
theorem dL_law_352 : decode cL_law 352 = .ok (.lload 4, 2) := by decide +kernel
theorem dL_law_354 : decode cL_law 354 = .ok (.lcmp, 1) := by decide +kernel
theorem dL_law_355 : decode cL_law 355 = .ok (.ifCond .ne 7, 3) := by decide +kernel
theorem dL_law_358 : decode cL_law 358 = .ok (.iconst 1, 1) := by decide +kernel
theorem dL_law_359 : decode cL_law 359 = .ok (.goto 4, 3) := by decide +kernel
theorem dL_law_362 : decode cL_law 362 = .ok (.iconst 0, 1) := by decide +kernel
theorem dL_law_363 : decode cL_law 363 = .ok (.ireturn, 1) := by decide +kernel
theorem dL_write_0 : decode cL_write 0 = .ok (.iconst 2, 1) := by decide +kernel
theorem dL_write_1 : decode cL_write 1 = .ok (.aload_n 1, 1) := by decide +kernel
theorem dL_write_2 : decode cL_write 2 = .ok (.iload_n 2, 1) := by decide +kernel
theorem dL_write_3 : decode cL_write 3 = .ok (.bipush 6, 2) := by decide +kernel
theorem dL_write_5 : decode cL_write 5 = .ok (.iadd, 1) := by decide +kernel
theorem dL_write_6 : decode cL_write 6 = .ok (.invokestatic 12, 3) := by decide +kernel
theorem dL_write_9 : decode cL_write 9 = .ok (.bipush 9, 2) := by decide +kernel
theorem dL_write_11 : decode cL_write 11 = .ok (.invokestatic 18, 3) := by decide +kernel
theorem dL_write_14 : decode cL_write 14 = .ok (.iadd, 1) := by decide +kernel
theorem dL_write_15 : decode cL_write 15 = .ok (.istore 4, 2) := by decide +kernel
theorem dL_write_17 : decode cL_write 17 = .ok (.iconst 0, 1) := by decide +kernel
theorem dL_write_18 : decode cL_write 18 = .ok (.istore 5, 2) := by decide +kernel
theorem dL_write_20 : decode cL_write 20 = .ok (.iload 5, 2) := by decide +kernel
theorem dL_write_22 : decode cL_write 22 = .ok (.iload 4, 2) := by decide +kernel
theorem dL_write_24 : decode cL_write 24 = .ok (.if_icmp .ge 496, 3) := by decide +kernel
theorem dL_write_27 : decode cL_write 27 = .ok (.aload_n 1, 1) := by decide +kernel
theorem dL_write_28 : decode cL_write 28 = .ok (.iload 5, 2) := by decide +kernel
theorem dL_write_30 : decode cL_write 30 = .ok (.iconst 4, 1) := by decide +kernel
theorem dL_write_31 : decode cL_write 31 = .ok (.iload_n 2, 1) := by decide +kernel
theorem dL_write_32 : decode cL_write 32 = .ok (.imul, 1) := by decide +kernel
theorem dL_write_33 : decode cL_write 33 = .ok (.iadd, 1) := by decide +kernel
theorem dL_write_34 : decode cL_write 34 = .ok (.bipush 16, 2) := by decide +kernel
theorem dL_write_36 : decode cL_write 36 = .ok (.irem, 1) := by decide +kernel
theorem dL_write_37 : decode cL_write 37 = .ok (.invokestatic 12, 3) := by decide +kernel
theorem dL_write_40 : decode cL_write 40 = .ok (.bipush 11, 2) := by decide +kernel
theorem dL_write_42 : decode cL_write 42 = .ok (.iload 5, 2) := by decide +kernel
theorem dL_write_44 : decode cL_write 44 = .ok (.imul, 1) := by decide +kernel
theorem dL_write_45 : decode cL_write 45 = .ok (.iadd, 1) := by decide +kernel
theorem dL_write_46 : decode cL_write 46 = .ok (.istore 6, 2) := by decide +kernel
theorem dL_write_48 : decode cL_write 48 = .ok (.aload_n 1, 1) := by decide +kernel
theorem dL_write_49 : decode cL_write 49 = .ok (.iconst 5, 1) := by decide +kernel
theorem dL_write_50 : decode cL_write 50 = .ok (.iload 5, 2) := by decide +kernel
theorem dL_write_52 : decode cL_write 52 = .ok (.imul, 1) := by decide +kernel
theorem dL_write_53 : decode cL_write 53 = .ok (.iload_n 2, 1) := by decide +kernel
theorem dL_write_54 : decode cL_write 54 = .ok (.iadd, 1) := by decide +kernel
theorem dL_write_55 : decode cL_write 55 = .ok (.bipush 16, 2) := by decide +kernel
theorem dL_write_57 : decode cL_write 57 = .ok (.irem, 1) := by decide +kernel
theorem dL_write_58 : decode cL_write 58 = .ok (.invokestatic 12, 3) := by decide +kernel
theorem dL_write_61 : decode cL_write 61 = .ok (.iconst 3, 1) := by decide +kernel
theorem dL_write_62 : decode cL_write 62 = .ok (.iload 5, 2) := by decide +kernel
theorem dL_write_64 : decode cL_write 64 = .ok (.imul, 1) := by decide +kernel
theorem dL_write_65 : decode cL_write 65 = .ok (.iadd, 1) := by decide +kernel
theorem dL_write_66 : decode cL_write 66 = .ok (.istore 7, 2) := by decide +kernel
theorem dL_write_68 : decode cL_write 68 = .ok (.bipush 16, 2) := by decide +kernel
theorem dL_write_70 : decode cL_write 70 = .ok (.anewarray 63, 3) := by decide +kernel
theorem dL_write_73 : decode cL_write 73 = .ok (.dup, 1) := by decide +kernel
theorem dL_write_74 : decode cL_write 74 = .ok (.iconst 0, 1) := by decide +kernel
theorem dL_write_75 : decode cL_write 75 = .ok (.iconst 3, 1) := by decide +kernel
theorem dL_write_76 : decode cL_write 76 = .ok (.newarray .int, 2) := by decide +kernel
theorem dL_write_78 : decode cL_write 78 = .ok (.dup, 1) := by decide +kernel
theorem dL_write_79 : decode cL_write 79 = .ok (.iconst 0, 1) := by decide +kernel
theorem dL_write_80 : decode cL_write 80 = .ok (.iconst 0, 1) := by decide +kernel
theorem dL_write_81 : decode cL_write 81 = .ok (.iastore, 1) := by decide +kernel
theorem dL_write_82 : decode cL_write 82 = .ok (.dup, 1) := by decide +kernel
theorem dL_write_83 : decode cL_write 83 = .ok (.iconst 1, 1) := by decide +kernel
theorem dL_write_84 : decode cL_write 84 = .ok (.iload 7, 2) := by decide +kernel
theorem dL_write_86 : decode cL_write 86 = .ok (.bipush 9, 2) := by decide +kernel
theorem dL_write_88 : decode cL_write 88 = .ok (.invokestatic 18, 3) := by decide +kernel
theorem dL_write_91 : decode cL_write 91 = .ok (.iconst 2, 1) := by decide +kernel
theorem dL_write_92 : decode cL_write 92 = .ok (.isub, 1) := by decide +kernel
theorem dL_write_93 : decode cL_write 93 = .ok (.iastore, 1) := by decide +kernel
theorem dL_write_94 : decode cL_write 94 = .ok (.dup, 1) := by decide +kernel
theorem dL_write_95 : decode cL_write 95 = .ok (.iconst 2, 1) := by decide +kernel
theorem dL_write_96 : decode cL_write 96 = .ok (.iconst 0, 1) := by decide +kernel
theorem dL_write_97 : decode cL_write 97 = .ok (.iastore, 1) := by decide +kernel
theorem dL_write_98 : decode cL_write 98 = .ok (.aastore, 1) := by decide +kernel
theorem dL_write_99 : decode cL_write 99 = .ok (.dup, 1) := by decide +kernel
theorem dL_write_100 : decode cL_write 100 = .ok (.iconst 1, 1) := by decide +kernel
theorem dL_write_101 : decode cL_write 101 = .ok (.iconst 3, 1) := by decide +kernel
theorem dL_write_102 : decode cL_write 102 = .ok (.newarray .int, 2) := by decide +kernel
theorem dL_write_104 : decode cL_write 104 = .ok (.dup, 1) := by decide +kernel
theorem dL_write_105 : decode cL_write 105 = .ok (.iconst 0, 1) := by decide +kernel
theorem dL_write_106 : decode cL_write 106 = .ok (.bipush 14, 2) := by decide +kernel
theorem dL_write_108 : decode cL_write 108 = .ok (.iastore, 1) := by decide +kernel
theorem dL_write_109 : decode cL_write 109 = .ok (.dup, 1) := by decide +kernel
theorem dL_write_110 : decode cL_write 110 = .ok (.iconst 1, 1) := by decide +kernel
theorem dL_write_111 : decode cL_write 111 = .ok (.iload 7, 2) := by decide +kernel
theorem dL_write_113 : decode cL_write 113 = .ok (.iconst 5, 1) := by decide +kernel
theorem dL_write_114 : decode cL_write 114 = .ok (.invokestatic 18, 3) := by decide +kernel
theorem dL_write_117 : decode cL_write 117 = .ok (.iastore, 1) := by decide +kernel
theorem dL_write_118 : decode cL_write 118 = .ok (.dup, 1) := by decide +kernel
theorem dL_write_119 : decode cL_write 119 = .ok (.iconst 2, 1) := by decide +kernel
theorem dL_write_120 : decode cL_write 120 = .ok (.iload 7, 2) := by decide +kernel
theorem dL_write_122 : decode cL_write 122 = .ok (.iconst 3, 1) := by decide +kernel
theorem dL_write_123 : decode cL_write 123 = .ok (.ishr, 1) := by decide +kernel
theorem dL_write_124 : decode cL_write 124 = .ok (.iconst 5, 1) := by decide +kernel
theorem dL_write_125 : decode cL_write 125 = .ok (.invokestatic 18, 3) := by decide +kernel
theorem dL_write_128 : decode cL_write 128 = .ok (.iastore, 1) := by decide +kernel
theorem dL_write_129 : decode cL_write 129 = .ok (.aastore, 1) := by decide +kernel
theorem dL_write_130 : decode cL_write 130 = .ok (.dup, 1) := by decide +kernel
theorem dL_write_131 : decode cL_write 131 = .ok (.iconst 2, 1) := by decide +kernel
theorem dL_write_132 : decode cL_write 132 = .ok (.iconst 3, 1) := by decide +kernel
theorem dL_write_133 : decode cL_write 133 = .ok (.newarray .int, 2) := by decide +kernel
theorem dL_write_135 : decode cL_write 135 = .ok (.dup, 1) := by decide +kernel
theorem dL_write_136 : decode cL_write 136 = .ok (.iconst 0, 1) := by decide +kernel
theorem dL_write_137 : decode cL_write 137 = .ok (.bipush 6, 2) := by decide +kernel
theorem dL_write_139 : decode cL_write 139 = .ok (.iastore, 1) := by decide +kernel
theorem dL_write_140 : decode cL_write 140 = .ok (.dup, 1) := by decide +kernel
theorem dL_write_141 : decode cL_write 141 = .ok (.iconst 1, 1) := by decide +kernel
theorem dL_write_142 : decode cL_write 142 = .ok (.iload 7, 2) := by decide +kernel
theorem dL_write_144 : decode cL_write 144 = .ok (.iload_n 3, 1) := by decide +kernel
theorem dL_write_145 : decode cL_write 145 = .ok (.invokestatic 18, 3) := by decide +kernel
theorem dL_write_148 : decode cL_write 148 = .ok (.iastore, 1) := by decide +kernel
theorem dL_write_149 : decode cL_write 149 = .ok (.dup, 1) := by decide +kernel
theorem dL_write_150 : decode cL_write 150 = .ok (.iconst 2, 1) := by decide +kernel
theorem dL_write_151 : decode cL_write 151 = .ok (.iload 7, 2) := by decide +kernel
theorem dL_write_153 : decode cL_write 153 = .ok (.iconst 4, 1) := by decide +kernel
theorem dL_write_154 : decode cL_write 154 = .ok (.ishr, 1) := by decide +kernel
theorem dL_write_155 : decode cL_write 155 = .ok (.iconst 2, 1) := by decide +kernel
theorem dL_write_156 : decode cL_write 156 = .ok (.invokestatic 18, 3) := by decide +kernel
theorem dL_write_159 : decode cL_write 159 = .ok (.iastore, 1) := by decide +kernel
theorem dL_write_160 : decode cL_write 160 = .ok (.aastore, 1) := by decide +kernel
theorem dL_write_161 : decode cL_write 161 = .ok (.dup, 1) := by decide +kernel
theorem dL_write_162 : decode cL_write 162 = .ok (.iconst 3, 1) := by decide +kernel
theorem dL_write_163 : decode cL_write 163 = .ok (.iconst 3, 1) := by decide +kernel
theorem dL_write_164 : decode cL_write 164 = .ok (.newarray .int, 2) := by decide +kernel
theorem dL_write_166 : decode cL_write 166 = .ok (.dup, 1) := by decide +kernel
theorem dL_write_167 : decode cL_write 167 = .ok (.iconst 0, 1) := by decide +kernel
theorem dL_write_168 : decode cL_write 168 = .ok (.bipush 7, 2) := by decide +kernel
theorem dL_write_170 : decode cL_write 170 = .ok (.iastore, 1) := by decide +kernel
theorem dL_write_171 : decode cL_write 171 = .ok (.dup, 1) := by decide +kernel
theorem dL_write_172 : decode cL_write 172 = .ok (.iconst 1, 1) := by decide +kernel
theorem dL_write_173 : decode cL_write 173 = .ok (.iconst 0, 1) := by decide +kernel
theorem dL_write_174 : decode cL_write 174 = .ok (.iastore, 1) := by decide +kernel
theorem dL_write_175 : decode cL_write 175 = .ok (.dup, 1) := by decide +kernel
theorem dL_write_176 : decode cL_write 176 = .ok (.iconst 2, 1) := by decide +kernel
theorem dL_write_177 : decode cL_write 177 = .ok (.iconst 0, 1) := by decide +kernel
theorem dL_write_178 : decode cL_write 178 = .ok (.iastore, 1) := by decide +kernel
theorem dL_write_179 : decode cL_write 179 = .ok (.aastore, 1) := by decide +kernel
theorem dL_write_180 : decode cL_write 180 = .ok (.dup, 1) := by decide +kernel
theorem dL_write_181 : decode cL_write 181 = .ok (.iconst 4, 1) := by decide +kernel
theorem dL_write_182 : decode cL_write 182 = .ok (.iconst 3, 1) := by decide +kernel
theorem dL_write_183 : decode cL_write 183 = .ok (.newarray .int, 2) := by decide +kernel
theorem dL_write_185 : decode cL_write 185 = .ok (.dup, 1) := by decide +kernel
theorem dL_write_186 : decode cL_write 186 = .ok (.iconst 0, 1) := by decide +kernel
theorem dL_write_187 : decode cL_write 187 = .ok (.bipush 9, 2) := by decide +kernel
theorem dL_write_189 : decode cL_write 189 = .ok (.iastore, 1) := by decide +kernel
theorem dL_write_190 : decode cL_write 190 = .ok (.dup, 1) := by decide +kernel
theorem dL_write_191 : decode cL_write 191 = .ok (.iconst 1, 1) := by decide +kernel
theorem dL_write_192 : decode cL_write 192 = .ok (.iconst 0, 1) := by decide +kernel
theorem dL_write_193 : decode cL_write 193 = .ok (.iastore, 1) := by decide +kernel
theorem dL_write_194 : decode cL_write 194 = .ok (.dup, 1) := by decide +kernel
theorem dL_write_195 : decode cL_write 195 = .ok (.iconst 2, 1) := by decide +kernel
theorem dL_write_196 : decode cL_write 196 = .ok (.iconst 0, 1) := by decide +kernel
theorem dL_write_197 : decode cL_write 197 = .ok (.iastore, 1) := by decide +kernel
theorem dL_write_198 : decode cL_write 198 = .ok (.aastore, 1) := by decide +kernel
theorem dL_write_199 : decode cL_write 199 = .ok (.dup, 1) := by decide +kernel
theorem dL_write_200 : decode cL_write 200 = .ok (.iconst 5, 1) := by decide +kernel
theorem dL_write_201 : decode cL_write 201 = .ok (.iconst 3, 1) := by decide +kernel
theorem dL_write_202 : decode cL_write 202 = .ok (.newarray .int, 2) := by decide +kernel
theorem dL_write_204 : decode cL_write 204 = .ok (.dup, 1) := by decide +kernel
theorem dL_write_205 : decode cL_write 205 = .ok (.iconst 0, 1) := by decide +kernel
theorem dL_write_206 : decode cL_write 206 = .ok (.bipush 10, 2) := by decide +kernel
theorem dL_write_208 : decode cL_write 208 = .ok (.iastore, 1) := by decide +kernel
theorem dL_write_209 : decode cL_write 209 = .ok (.dup, 1) := by decide +kernel
theorem dL_write_210 : decode cL_write 210 = .ok (.iconst 1, 1) := by decide +kernel
theorem dL_write_211 : decode cL_write 211 = .ok (.iload 7, 2) := by decide +kernel
theorem dL_write_213 : decode cL_write 213 = .ok (.iconst 2, 1) := by decide +kernel
theorem dL_write_214 : decode cL_write 214 = .ok (.invokestatic 18, 3) := by decide +kernel
theorem dL_write_217 : decode cL_write 217 = .ok (.iastore, 1) := by decide +kernel
theorem dL_write_218 : decode cL_write 218 = .ok (.dup, 1) := by decide +kernel
theorem dL_write_219 : decode cL_write 219 = .ok (.iconst 2, 1) := by decide +kernel
theorem dL_write_220 : decode cL_write 220 = .ok (.iconst 0, 1) := by decide +kernel
theorem dL_write_221 : decode cL_write 221 = .ok (.iastore, 1) := by decide +kernel
theorem dL_write_222 : decode cL_write 222 = .ok (.aastore, 1) := by decide +kernel
theorem dL_write_223 : decode cL_write 223 = .ok (.dup, 1) := by decide +kernel
theorem dL_write_224 : decode cL_write 224 = .ok (.bipush 6, 2) := by decide +kernel
theorem dL_write_226 : decode cL_write 226 = .ok (.iconst 3, 1) := by decide +kernel
theorem dL_write_227 : decode cL_write 227 = .ok (.newarray .int, 2) := by decide +kernel
theorem dL_write_229 : decode cL_write 229 = .ok (.dup, 1) := by decide +kernel
theorem dL_write_230 : decode cL_write 230 = .ok (.iconst 0, 1) := by decide +kernel
theorem dL_write_231 : decode cL_write 231 = .ok (.bipush 12, 2) := by decide +kernel
theorem dL_write_233 : decode cL_write 233 = .ok (.iastore, 1) := by decide +kernel
theorem dL_write_234 : decode cL_write 234 = .ok (.dup, 1) := by decide +kernel
theorem dL_write_235 : decode cL_write 235 = .ok (.iconst 1, 1) := by decide +kernel
theorem dL_write_236 : decode cL_write 236 = .ok (.iload 7, 2) := by decide +kernel
theorem dL_write_238 : decode cL_write 238 = .ok (.iconst 2, 1) := by decide +kernel
theorem dL_write_239 : decode cL_write 239 = .ok (.invokestatic 18, 3) := by decide +kernel
theorem dL_write_242 : decode cL_write 242 = .ok (.iastore, 1) := by decide +kernel
theorem dL_write_243 : decode cL_write 243 = .ok (.dup, 1) := by decide +kernel
theorem dL_write_244 : decode cL_write 244 = .ok (.iconst 2, 1) := by decide +kernel
theorem dL_write_245 : decode cL_write 245 = .ok (.iconst 0, 1) := by decide +kernel
theorem dL_write_246 : decode cL_write 246 = .ok (.iastore, 1) := by decide +kernel
theorem dL_write_247 : decode cL_write 247 = .ok (.aastore, 1) := by decide +kernel
theorem dL_write_248 : decode cL_write 248 = .ok (.dup, 1) := by decide +kernel
theorem dL_write_249 : decode cL_write 249 = .ok (.bipush 7, 2) := by decide +kernel
theorem dL_write_251 : decode cL_write 251 = .ok (.iconst 3, 1) := by decide +kernel
theorem dL_write_252 : decode cL_write 252 = .ok (.newarray .int, 2) := by decide +kernel
theorem dL_write_254 : decode cL_write 254 = .ok (.dup, 1) := by decide +kernel
theorem dL_write_255 : decode cL_write 255 = .ok (.iconst 0, 1) := by decide +kernel
theorem dL_write_256 : decode cL_write 256 = .ok (.bipush 17, 2) := by decide +kernel
theorem dL_write_258 : decode cL_write 258 = .ok (.iastore, 1) := by decide +kernel
theorem dL_write_259 : decode cL_write 259 = .ok (.dup, 1) := by decide +kernel
theorem dL_write_260 : decode cL_write 260 = .ok (.iconst 1, 1) := by decide +kernel
theorem dL_write_261 : decode cL_write 261 = .ok (.iconst 1, 1) := by decide +kernel
theorem dL_write_262 : decode cL_write 262 = .ok (.iload 7, 2) := by decide +kernel
theorem dL_write_264 : decode cL_write 264 = .ok (.bipush 9, 2) := by decide +kernel
theorem dL_write_266 : decode cL_write 266 = .ok (.invokestatic 18, 3) := by decide +kernel
theorem dL_write_269 : decode cL_write 269 = .ok (.iadd, 1) := by decide +kernel
theorem dL_write_270 : decode cL_write 270 = .ok (.iastore, 1) := by decide +kernel
theorem dL_write_271 : decode cL_write 271 = .ok (.dup, 1) := by decide +kernel
theorem dL_write_272 : decode cL_write 272 = .ok (.iconst 2, 1) := by decide +kernel
theorem dL_write_273 : decode cL_write 273 = .ok (.iconst 0, 1) := by decide +kernel
theorem dL_write_274 : decode cL_write 274 = .ok (.iastore, 1) := by decide +kernel
theorem dL_write_275 : decode cL_write 275 = .ok (.aastore, 1) := by decide +kernel
theorem dL_write_276 : decode cL_write 276 = .ok (.dup, 1) := by decide +kernel
theorem dL_write_277 : decode cL_write 277 = .ok (.bipush 8, 2) := by decide +kernel
theorem dL_write_279 : decode cL_write 279 = .ok (.iconst 3, 1) := by decide +kernel
theorem dL_write_280 : decode cL_write 280 = .ok (.newarray .int, 2) := by decide +kernel
theorem dL_write_282 : decode cL_write 282 = .ok (.dup, 1) := by decide +kernel
theorem dL_write_283 : decode cL_write 283 = .ok (.iconst 0, 1) := by decide +kernel
theorem dL_write_284 : decode cL_write 284 = .ok (.bipush 15, 2) := by decide +kernel
theorem dL_write_286 : decode cL_write 286 = .ok (.iastore, 1) := by decide +kernel
theorem dL_write_287 : decode cL_write 287 = .ok (.dup, 1) := by decide +kernel
theorem dL_write_288 : decode cL_write 288 = .ok (.iconst 1, 1) := by decide +kernel
theorem dL_write_289 : decode cL_write 289 = .ok (.iconst 1, 1) := by decide +kernel
theorem dL_write_290 : decode cL_write 290 = .ok (.iload 7, 2) := by decide +kernel
theorem dL_write_292 : decode cL_write 292 = .ok (.iconst 3, 1) := by decide +kernel
theorem dL_write_293 : decode cL_write 293 = .ok (.invokestatic 18, 3) := by decide +kernel
theorem dL_write_296 : decode cL_write 296 = .ok (.iadd, 1) := by decide +kernel
theorem dL_write_297 : decode cL_write 297 = .ok (.iastore, 1) := by decide +kernel
theorem dL_write_298 : decode cL_write 298 = .ok (.dup, 1) := by decide +kernel
theorem dL_write_299 : decode cL_write 299 = .ok (.iconst 2, 1) := by decide +kernel
theorem dL_write_300 : decode cL_write 300 = .ok (.iconst 0, 1) := by decide +kernel
theorem dL_write_301 : decode cL_write 301 = .ok (.iastore, 1) := by decide +kernel
theorem dL_write_302 : decode cL_write 302 = .ok (.aastore, 1) := by decide +kernel
theorem dL_write_303 : decode cL_write 303 = .ok (.dup, 1) := by decide +kernel
theorem dL_write_304 : decode cL_write 304 = .ok (.bipush 9, 2) := by decide +kernel
theorem dL_write_306 : decode cL_write 306 = .ok (.iconst 3, 1) := by decide +kernel
theorem dL_write_307 : decode cL_write 307 = .ok (.newarray .int, 2) := by decide +kernel
theorem dL_write_309 : decode cL_write 309 = .ok (.dup, 1) := by decide +kernel
theorem dL_write_310 : decode cL_write 310 = .ok (.iconst 0, 1) := by decide +kernel
theorem dL_write_311 : decode cL_write 311 = .ok (.bipush 14, 2) := by decide +kernel
theorem dL_write_313 : decode cL_write 313 = .ok (.iastore, 1) := by decide +kernel
theorem dL_write_314 : decode cL_write 314 = .ok (.dup, 1) := by decide +kernel
theorem dL_write_315 : decode cL_write 315 = .ok (.iconst 1, 1) := by decide +kernel
theorem dL_write_316 : decode cL_write 316 = .ok (.iconst 4, 1) := by decide +kernel
theorem dL_write_317 : decode cL_write 317 = .ok (.iastore, 1) := by decide +kernel
theorem dL_write_318 : decode cL_write 318 = .ok (.dup, 1) := by decide +kernel
theorem dL_write_319 : decode cL_write 319 = .ok (.iconst 2, 1) := by decide +kernel
theorem dL_write_320 : decode cL_write 320 = .ok (.iconst 0, 1) := by decide +kernel
theorem dL_write_321 : decode cL_write 321 = .ok (.iastore, 1) := by decide +kernel
theorem dL_write_322 : decode cL_write 322 = .ok (.aastore, 1) := by decide +kernel
theorem dL_write_323 : decode cL_write 323 = .ok (.dup, 1) := by decide +kernel
theorem dL_write_324 : decode cL_write 324 = .ok (.bipush 10, 2) := by decide +kernel
theorem dL_write_326 : decode cL_write 326 = .ok (.iconst 3, 1) := by decide +kernel
theorem dL_write_327 : decode cL_write 327 = .ok (.newarray .int, 2) := by decide +kernel
theorem dL_write_329 : decode cL_write 329 = .ok (.dup, 1) := by decide +kernel
theorem dL_write_330 : decode cL_write 330 = .ok (.iconst 0, 1) := by decide +kernel
theorem dL_write_331 : decode cL_write 331 = .ok (.bipush 11, 2) := by decide +kernel
theorem dL_write_333 : decode cL_write 333 = .ok (.iastore, 1) := by decide +kernel
theorem dL_write_334 : decode cL_write 334 = .ok (.dup, 1) := by decide +kernel
theorem dL_write_335 : decode cL_write 335 = .ok (.iconst 1, 1) := by decide +kernel
theorem dL_write_336 : decode cL_write 336 = .ok (.iload 7, 2) := by decide +kernel
theorem dL_write_338 : decode cL_write 338 = .ok (.iconst 4, 1) := by decide +kernel
theorem dL_write_339 : decode cL_write 339 = .ok (.invokestatic 18, 3) := by decide +kernel
theorem dL_write_342 : decode cL_write 342 = .ok (.iastore, 1) := by decide +kernel
theorem dL_write_343 : decode cL_write 343 = .ok (.dup, 1) := by decide +kernel
theorem dL_write_344 : decode cL_write 344 = .ok (.iconst 2, 1) := by decide +kernel
theorem dL_write_345 : decode cL_write 345 = .ok (.iconst 0, 1) := by decide +kernel
theorem dL_write_346 : decode cL_write 346 = .ok (.iastore, 1) := by decide +kernel
theorem dL_write_347 : decode cL_write 347 = .ok (.aastore, 1) := by decide +kernel
theorem dL_write_348 : decode cL_write 348 = .ok (.dup, 1) := by decide +kernel
theorem dL_write_349 : decode cL_write 349 = .ok (.bipush 11, 2) := by decide +kernel
theorem dL_write_351 : decode cL_write 351 = .ok (.iconst 3, 1) := by decide +kernel
theorem dL_write_352 : decode cL_write 352 = .ok (.newarray .int, 2) := by decide +kernel
theorem dL_write_354 : decode cL_write 354 = .ok (.dup, 1) := by decide +kernel
theorem dL_write_355 : decode cL_write 355 = .ok (.iconst 0, 1) := by decide +kernel
theorem dL_write_356 : decode cL_write 356 = .ok (.bipush 13, 2) := by decide +kernel
theorem dL_write_358 : decode cL_write 358 = .ok (.iastore, 1) := by decide +kernel
theorem dL_write_359 : decode cL_write 359 = .ok (.dup, 1) := by decide +kernel
theorem dL_write_360 : decode cL_write 360 = .ok (.iconst 1, 1) := by decide +kernel
theorem dL_write_361 : decode cL_write 361 = .ok (.iload 7, 2) := by decide +kernel
theorem dL_write_363 : decode cL_write 363 = .ok (.iconst 4, 1) := by decide +kernel
theorem dL_write_364 : decode cL_write 364 = .ok (.invokestatic 18, 3) := by decide +kernel
theorem dL_write_367 : decode cL_write 367 = .ok (.iastore, 1) := by decide +kernel
theorem dL_write_368 : decode cL_write 368 = .ok (.dup, 1) := by decide +kernel
theorem dL_write_369 : decode cL_write 369 = .ok (.iconst 2, 1) := by decide +kernel
theorem dL_write_370 : decode cL_write 370 = .ok (.iconst 1, 1) := by decide +kernel
theorem dL_write_371 : decode cL_write 371 = .ok (.iastore, 1) := by decide +kernel
theorem dL_write_372 : decode cL_write 372 = .ok (.aastore, 1) := by decide +kernel
theorem dL_write_373 : decode cL_write 373 = .ok (.dup, 1) := by decide +kernel
theorem dL_write_374 : decode cL_write 374 = .ok (.bipush 12, 2) := by decide +kernel
theorem dL_write_376 : decode cL_write 376 = .ok (.iconst 3, 1) := by decide +kernel
theorem dL_write_377 : decode cL_write 377 = .ok (.newarray .int, 2) := by decide +kernel
theorem dL_write_379 : decode cL_write 379 = .ok (.dup, 1) := by decide +kernel
theorem dL_write_380 : decode cL_write 380 = .ok (.iconst 0, 1) := by decide +kernel
theorem dL_write_381 : decode cL_write 381 = .ok (.iconst 3, 1) := by decide +kernel
theorem dL_write_382 : decode cL_write 382 = .ok (.iastore, 1) := by decide +kernel
theorem dL_write_383 : decode cL_write 383 = .ok (.dup, 1) := by decide +kernel
theorem dL_write_384 : decode cL_write 384 = .ok (.iconst 1, 1) := by decide +kernel
theorem dL_write_385 : decode cL_write 385 = .ok (.iload 7, 2) := by decide +kernel
theorem dL_write_387 : decode cL_write 387 = .ok (.iconst 4, 1) := by decide +kernel
theorem dL_write_388 : decode cL_write 388 = .ok (.invokestatic 18, 3) := by decide +kernel
theorem dL_write_391 : decode cL_write 391 = .ok (.iastore, 1) := by decide +kernel
theorem dL_write_392 : decode cL_write 392 = .ok (.dup, 1) := by decide +kernel
theorem dL_write_393 : decode cL_write 393 = .ok (.iconst 2, 1) := by decide +kernel
theorem dL_write_394 : decode cL_write 394 = .ok (.iload 7, 2) := by decide +kernel
theorem dL_write_396 : decode cL_write 396 = .ok (.iconst 3, 1) := by decide +kernel
theorem dL_write_397 : decode cL_write 397 = .ok (.ishr, 1) := by decide +kernel
theorem dL_write_398 : decode cL_write 398 = .ok (.iload 5, 2) := by decide +kernel
theorem dL_write_400 : decode cL_write 400 = .ok (.iconst 1, 1) := by decide +kernel
theorem dL_write_401 : decode cL_write 401 = .ok (.iadd, 1) := by decide +kernel
theorem dL_write_402 : decode cL_write 402 = .ok (.invokestatic 18, 3) := by decide +kernel
theorem dL_write_405 : decode cL_write 405 = .ok (.iastore, 1) := by decide +kernel
theorem dL_write_406 : decode cL_write 406 = .ok (.aastore, 1) := by decide +kernel
theorem dL_write_407 : decode cL_write 407 = .ok (.dup, 1) := by decide +kernel
theorem dL_write_408 : decode cL_write 408 = .ok (.bipush 13, 2) := by decide +kernel
theorem dL_write_410 : decode cL_write 410 = .ok (.iconst 3, 1) := by decide +kernel
theorem dL_write_411 : decode cL_write 411 = .ok (.newarray .int, 2) := by decide +kernel
theorem dL_write_413 : decode cL_write 413 = .ok (.dup, 1) := by decide +kernel
theorem dL_write_414 : decode cL_write 414 = .ok (.iconst 0, 1) := by decide +kernel
theorem dL_write_415 : decode cL_write 415 = .ok (.bipush 16, 2) := by decide +kernel
theorem dL_write_417 : decode cL_write 417 = .ok (.iastore, 1) := by decide +kernel
theorem dL_write_418 : decode cL_write 418 = .ok (.dup, 1) := by decide +kernel
theorem dL_write_419 : decode cL_write 419 = .ok (.iconst 1, 1) := by decide +kernel
theorem dL_write_420 : decode cL_write 420 = .ok (.iconst 0, 1) := by decide +kernel
theorem dL_write_421 : decode cL_write 421 = .ok (.iastore, 1) := by decide +kernel
theorem dL_write_422 : decode cL_write 422 = .ok (.dup, 1) := by decide +kernel
theorem dL_write_423 : decode cL_write 423 = .ok (.iconst 2, 1) := by decide +kernel
theorem dL_write_424 : decode cL_write 424 = .ok (.iconst 0, 1) := by decide +kernel
theorem dL_write_425 : decode cL_write 425 = .ok (.iastore, 1) := by decide +kernel
theorem dL_write_426 : decode cL_write 426 = .ok (.aastore, 1) := by decide +kernel
theorem dL_write_427 : decode cL_write 427 = .ok (.dup, 1) := by decide +kernel
theorem dL_write_428 : decode cL_write 428 = .ok (.bipush 14, 2) := by decide +kernel
theorem dL_write_430 : decode cL_write 430 = .ok (.iconst 3, 1) := by decide +kernel
theorem dL_write_431 : decode cL_write 431 = .ok (.newarray .int, 2) := by decide +kernel
theorem dL_write_433 : decode cL_write 433 = .ok (.dup, 1) := by decide +kernel
theorem dL_write_434 : decode cL_write 434 = .ok (.iconst 0, 1) := by decide +kernel
theorem dL_write_435 : decode cL_write 435 = .ok (.iconst 2, 1) := by decide +kernel
theorem dL_write_436 : decode cL_write 436 = .ok (.iastore, 1) := by decide +kernel
theorem dL_write_437 : decode cL_write 437 = .ok (.dup, 1) := by decide +kernel
theorem dL_write_438 : decode cL_write 438 = .ok (.iconst 1, 1) := by decide +kernel
theorem dL_write_439 : decode cL_write 439 = .ok (.iload 7, 2) := by decide +kernel
theorem dL_write_441 : decode cL_write 441 = .ok (.iconst 4, 1) := by decide +kernel
theorem dL_write_442 : decode cL_write 442 = .ok (.invokestatic 18, 3) := by decide +kernel
theorem dL_write_445 : decode cL_write 445 = .ok (.iastore, 1) := by decide +kernel
theorem dL_write_446 : decode cL_write 446 = .ok (.dup, 1) := by decide +kernel
theorem dL_write_447 : decode cL_write 447 = .ok (.iconst 2, 1) := by decide +kernel
theorem dL_write_448 : decode cL_write 448 = .ok (.iconst 0, 1) := by decide +kernel
theorem dL_write_449 : decode cL_write 449 = .ok (.iastore, 1) := by decide +kernel
theorem dL_write_450 : decode cL_write 450 = .ok (.aastore, 1) := by decide +kernel
theorem dL_write_451 : decode cL_write 451 = .ok (.dup, 1) := by decide +kernel
theorem dL_write_452 : decode cL_write 452 = .ok (.bipush 15, 2) := by decide +kernel
theorem dL_write_454 : decode cL_write 454 = .ok (.iconst 3, 1) := by decide +kernel
theorem dL_write_455 : decode cL_write 455 = .ok (.newarray .int, 2) := by decide +kernel
theorem dL_write_457 : decode cL_write 457 = .ok (.dup, 1) := by decide +kernel
theorem dL_write_458 : decode cL_write 458 = .ok (.iconst 0, 1) := by decide +kernel
theorem dL_write_459 : decode cL_write 459 = .ok (.iconst 5, 1) := by decide +kernel
theorem dL_write_460 : decode cL_write 460 = .ok (.iastore, 1) := by decide +kernel
theorem dL_write_461 : decode cL_write 461 = .ok (.dup, 1) := by decide +kernel
theorem dL_write_462 : decode cL_write 462 = .ok (.iconst 1, 1) := by decide +kernel
theorem dL_write_463 : decode cL_write 463 = .ok (.iload 7, 2) := by decide +kernel
theorem dL_write_465 : decode cL_write 465 = .ok (.bipush 8, 2) := by decide +kernel
theorem dL_write_467 : decode cL_write 467 = .ok (.invokestatic 18, 3) := by decide +kernel
theorem dL_write_470 : decode cL_write 470 = .ok (.iastore, 1) := by decide +kernel
theorem dL_write_471 : decode cL_write 471 = .ok (.dup, 1) := by decide +kernel
theorem dL_write_472 : decode cL_write 472 = .ok (.iconst 2, 1) := by decide +kernel
theorem dL_write_473 : decode cL_write 473 = .ok (.iconst 0, 1) := by decide +kernel
theorem dL_write_474 : decode cL_write 474 = .ok (.iastore, 1) := by decide +kernel
theorem dL_write_475 : decode cL_write 475 = .ok (.aastore, 1) := by decide +kernel
theorem dL_write_476 : decode cL_write 476 = .ok (.astore 8, 2) := by decide +kernel
theorem dL_write_478 : decode cL_write 478 = .ok (.aload 8, 2) := by decide +kernel
theorem dL_write_480 : decode cL_write 480 = .ok (.iload 6, 2) := by decide +kernel
theorem dL_write_482 : decode cL_write 482 = .ok (.bipush 16, 2) := by decide +kernel
theorem dL_write_484 : decode cL_write 484 = .ok (.invokestatic 18, 3) := by decide +kernel
theorem dL_write_487 : decode cL_write 487 = .ok (.aaload, 1) := by decide +kernel
theorem dL_write_488 : decode cL_write 488 = .ok (.astore 9, 2) := by decide +kernel
theorem dL_write_490 : decode cL_write 490 = .ok (.aload_n 0, 1) := by decide +kernel
theorem dL_write_491 : decode cL_write 491 = .ok (.iload_n 2, 1) := by decide +kernel
theorem dL_write_492 : decode cL_write 492 = .ok (.aload 9, 2) := by decide +kernel
theorem dL_write_494 : decode cL_write 494 = .ok (.iconst 0, 1) := by decide +kernel
theorem dL_write_495 : decode cL_write 495 = .ok (.iaload, 1) := by decide +kernel
theorem dL_write_496 : decode cL_write 496 = .ok (.aload 9, 2) := by decide +kernel
theorem dL_write_498 : decode cL_write 498 = .ok (.iconst 1, 1) := by decide +kernel
theorem dL_write_499 : decode cL_write 499 = .ok (.iaload, 1) := by decide +kernel
theorem dL_write_500 : decode cL_write 500 = .ok (.aload 9, 2) := by decide +kernel
theorem dL_write_502 : decode cL_write 502 = .ok (.iconst 2, 1) := by decide +kernel
theorem dL_write_503 : decode cL_write 503 = .ok (.iaload, 1) := by decide +kernel
theorem dL_write_504 : decode cL_write 504 = .ok (.invokevirtual 65, 3) := by decide +kernel
theorem dL_write_507 : decode cL_write 507 = .ok (.iload 5, 2) := by decide +kernel
theorem dL_write_509 : decode cL_write 509 = .ok (.if_icmp .eq 5, 3) := by decide +kernel
theorem dL_write_512 : decode cL_write 512 = .ok (.iconst 0, 1) := by decide +kernel
theorem dL_write_513 : decode cL_write 513 = .ok (.ireturn, 1) := by decide +kernel
theorem dL_write_514 : decode cL_write 514 = .ok (.iinc 5 1, 3) := by decide +kernel
theorem dL_write_517 : decode cL_write 517 = .ok (.goto (-497), 3) := by decide +kernel
theorem dL_write_520 : decode cL_write 520 = .ok (.iconst 1, 1) := by decide +kernel
theorem dL_write_521 : decode cL_write 521 = .ok (.ireturn, 1) := by decide +kernel
