theorem dX5_doLineOut_222 : decode cX5_doLineOut 222 = .ok (.goto 27, 3) := by decide +kernel
theorem dX5_doLineOut_225 : decode cX5_doLineOut 225 = .ok (.aload_n 0, 1) := by decide +kernel
theorem dX5_doLineOut_226 : decode cX5_doLineOut 226 = .ok (.aload_n 1, 1) := by decide +kernel
theorem dX5_doLineOut_227 : decode cX5_doLineOut 227 = .ok (.iload_n 3, 1) := by decide +kernel
theorem dX5_doLineOut_228 : decode cX5_doLineOut 228 = .ok (.iload 4, 2) := by decide +kernel
theorem dX5_doLineOut_230 : decode cX5_doLineOut 230 = .ok (.invokevirtual 342, 3) := by decide +kernel
theorem dX5_doLineOut_233 : decode cX5_doLineOut 233 = .ok (.goto 16, 3) := by decide +kernel
theorem dX5_doLineOut_236 : decode cX5_doLineOut 236 = .ok (.aload_n 0, 1) := by decide +kernel
theorem dX5_doLineOut_237 : decode cX5_doLineOut 237 = .ok (.aload_n 1, 1) := by decide +kernel
theorem dX5_doLineOut_238 : decode cX5_doLineOut 238 = .ok (.getfield 307, 3) := by decide +kernel
theorem dX5_doLineOut_241 : decode cX5_doLineOut 241 = .ok (.aload_n 1, 1) := by decide +kernel
theorem dX5_doLineOut_242 : decode cX5_doLineOut 242 = .ok (.getfield 146, 3) := by decide +kernel
theorem dX5_doLineOut_245 : decode cX5_doLineOut 245 = .ok (.iload_n 3, 1) := by decide +kernel
theorem dX5_doLineOut_246 : decode cX5_doLineOut 246 = .ok (.invokevirtual 222, 3) := by decide +kernel
theorem dX5_doLineOut_249 : decode cX5_doLineOut 249 = .ok (.aload_n 1, 1) := by decide +kernel
theorem dX5_doLineOut_250 : decode cX5_doLineOut 250 = .ok (.getfield 125, 3) := by decide +kernel
theorem dX5_doLineOut_253 : decode cX5_doLineOut 253 = .ok (.iconst 1, 1) := by decide +kernel
theorem dX5_doLineOut_254 : decode cX5_doLineOut 254 = .ok (.iadd, 1) := by decide +kernel
theorem dX5_doLineOut_255 : decode cX5_doLineOut 255 = .ok (.ireturn, 1) := by decide +kernel
theorem dX5_doTurn_0 : decode cX5_doTurn 0 = .ok (.aload_n 0, 1) := by decide +kernel
theorem dX5_doTurn_1 : decode cX5_doTurn 1 = .ok (.invokevirtual 278, 3) := by decide +kernel
theorem dX5_doTurn_4 : decode cX5_doTurn 4 = .ok (.astore_n 1, 1) := by decide +kernel
theorem dX5_doTurn_5 : decode cX5_doTurn 5 = .ok (.aload_n 1, 1) := by decide +kernel
theorem dX5_doTurn_6 : decode cX5_doTurn 6 = .ok (.ifnonnull 5, 3) := by decide +kernel
theorem dX5_doTurn_9 : decode cX5_doTurn 9 = .ok (.iconst 0, 1) := by decide +kernel
theorem dX5_doTurn_10 : decode cX5_doTurn 10 = .ok (.ireturn, 1) := by decide +kernel
theorem dX5_doTurn_11 : decode cX5_doTurn 11 = .ok (.aload_n 0, 1) := by decide +kernel
theorem dX5_doTurn_12 : decode cX5_doTurn 12 = .ok (.dup, 1) := by decide +kernel
theorem dX5_doTurn_13 : decode cX5_doTurn 13 = .ok (.getfield 76, 3) := by decide +kernel
theorem dX5_doTurn_16 : decode cX5_doTurn 16 = .ok (.iconst 1, 1) := by decide +kernel
theorem dX5_doTurn_17 : decode cX5_doTurn 17 = .ok (.iadd, 1) := by decide +kernel
theorem dX5_doTurn_18 : decode cX5_doTurn 18 = .ok (.putfield 76, 3) := by decide +kernel
theorem dX5_doTurn_21 : decode cX5_doTurn 21 = .ok (.aload_n 1, 1) := by decide +kernel
theorem dX5_doTurn_22 : decode cX5_doTurn 22 = .ok (.invokevirtual 282, 3) := by decide +kernel
theorem dX5_doTurn_25 : decode cX5_doTurn 25 = .ok (.iconst 0, 1) := by decide +kernel
theorem dX5_doTurn_26 : decode cX5_doTurn 26 = .ok (.istore_n 2, 1) := by decide +kernel
theorem dX5_doTurn_27 : decode cX5_doTurn 27 = .ok (.iload_n 2, 1) := by decide +kernel
theorem dX5_doTurn_28 : decode cX5_doTurn 28 = .ok (.bipush 20, 2) := by decide +kernel
theorem dX5_doTurn_30 : decode cX5_doTurn 30 = .ok (.if_icmp .ge 115, 3) := by decide +kernel
theorem dX5_doTurn_33 : decode cX5_doTurn 33 = .ok (.aload_n 1, 1) := by decide +kernel
theorem dX5_doTurn_34 : decode cX5_doTurn 34 = .ok (.getfield 94, 3) := by decide +kernel
theorem dX5_doTurn_37 : decode cX5_doTurn 37 = .ok (.ifCond .ne 108, 3) := by decide +kernel
theorem dX5_doTurn_40 : decode cX5_doTurn 40 = .ok (.aload_n 0, 1) := by decide +kernel
theorem dX5_doTurn_41 : decode cX5_doTurn 41 = .ok (.getfield 33, 3) := by decide +kernel
theorem dX5_doTurn_44 : decode cX5_doTurn 44 = .ok (.aload_n 1, 1) := by decide +kernel
theorem dX5_doTurn_45 : decode cX5_doTurn 45 = .ok (.getfield 110, 3) := by decide +kernel
theorem dX5_doTurn_48 : decode cX5_doTurn 48 = .ok (.aload_n 1, 1) := by decide +kernel
theorem dX5_doTurn_49 : decode cX5_doTurn 49 = .ok (.getfield 113, 3) := by decide +kernel
theorem dX5_doTurn_52 : decode cX5_doTurn 52 = .ok (.aload_n 1, 1) := by decide +kernel
theorem dX5_doTurn_53 : decode cX5_doTurn 53 = .ok (.getfield 125, 3) := by decide +kernel
theorem dX5_doTurn_56 : decode cX5_doTurn 56 = .ok (.invokevirtual 285, 3) := by decide +kernel
theorem dX5_doTurn_59 : decode cX5_doTurn 59 = .ok (.istore_n 3, 1) := by decide +kernel
theorem dX5_doTurn_60 : decode cX5_doTurn 60 = .ok (.aload_n 1, 1) := by decide +kernel
theorem dX5_doTurn_61 : decode cX5_doTurn 61 = .ok (.getfield 125, 3) := by decide +kernel
theorem dX5_doTurn_64 : decode cX5_doTurn 64 = .ok (.istore 4, 2) := by decide +kernel
theorem dX5_doTurn_66 : decode cX5_doTurn 66 = .ok (.iload_n 3, 1) := by decide +kernel
theorem dX5_doTurn_67 : decode cX5_doTurn 67 = .ok (.iconst (-1), 1) := by decide +kernel
theorem dX5_doTurn_68 : decode cX5_doTurn 68 = .ok (.if_icmp .ne 12, 3) := by decide +kernel
theorem dX5_doTurn_71 : decode cX5_doTurn 71 = .ok (.aload_n 0, 1) := by decide +kernel
theorem dX5_doTurn_72 : decode cX5_doTurn 72 = .ok (.aload_n 1, 1) := by decide +kernel
theorem dX5_doTurn_73 : decode cX5_doTurn 73 = .ok (.iconst 0, 1) := by decide +kernel
theorem dX5_doTurn_74 : decode cX5_doTurn 74 = .ok (.invokevirtual 156, 3) := by decide +kernel
theorem dX5_doTurn_77 : decode cX5_doTurn 77 = .ok (.goto 45, 3) := by decide +kernel
theorem dX5_doTurn_80 : decode cX5_doTurn 80 = .ok (.aload_n 0, 1) := by decide +kernel
theorem dX5_doTurn_81 : decode cX5_doTurn 81 = .ok (.dup, 1) := by decide +kernel
theorem dX5_doTurn_82 : decode cX5_doTurn 82 = .ok (.getfield 79, 3) := by decide +kernel
theorem dX5_doTurn_85 : decode cX5_doTurn 85 = .ok (.iconst 1, 1) := by decide +kernel
theorem dX5_doTurn_86 : decode cX5_doTurn 86 = .ok (.iadd, 1) := by decide +kernel
theorem dX5_doTurn_87 : decode cX5_doTurn 87 = .ok (.putfield 79, 3) := by decide +kernel
theorem dX5_doTurn_90 : decode cX5_doTurn 90 = .ok (.aload_n 0, 1) := by decide +kernel
theorem dX5_doTurn_91 : decode cX5_doTurn 91 = .ok (.getfield 33, 3) := by decide +kernel
theorem dX5_doTurn_94 : decode cX5_doTurn 94 = .ok (.getfield 289, 3) := by decide +kernel
theorem dX5_doTurn_97 : decode cX5_doTurn 97 = .ok (.iload_n 3, 1) := by decide +kernel
theorem dX5_doTurn_98 : decode cX5_doTurn 98 = .ok (.iaload, 1) := by decide +kernel
theorem dX5_doTurn_99 : decode cX5_doTurn 99 = .ok (.invokestatic 292, 3) := by decide +kernel
theorem dX5_doTurn_102 : decode cX5_doTurn 102 = .ok (.ifCond .eq 12, 3) := by decide +kernel
theorem dX5_doTurn_105 : decode cX5_doTurn 105 = .ok (.aload_n 0, 1) := by decide +kernel
theorem dX5_doTurn_106 : decode cX5_doTurn 106 = .ok (.aload_n 1, 1) := by decide +kernel
theorem dX5_doTurn_107 : decode cX5_doTurn 107 = .ok (.iload_n 3, 1) := by decide +kernel
theorem dX5_doTurn_108 : decode cX5_doTurn 108 = .ok (.invokevirtual 295, 3) := by decide +kernel
theorem dX5_doTurn_111 : decode cX5_doTurn 111 = .ok (.goto 9, 3) := by decide +kernel
theorem dX5_doTurn_114 : decode cX5_doTurn 114 = .ok (.aload_n 0, 1) := by decide +kernel
theorem dX5_doTurn_115 : decode cX5_doTurn 115 = .ok (.aload_n 1, 1) := by decide +kernel
theorem dX5_doTurn_116 : decode cX5_doTurn 116 = .ok (.iload_n 3, 1) := by decide +kernel
theorem dX5_doTurn_117 : decode cX5_doTurn 117 = .ok (.invokevirtual 298, 3) := by decide +kernel
theorem dX5_doTurn_120 : decode cX5_doTurn 120 = .ok (.istore 4, 2) := by decide +kernel
theorem dX5_doTurn_122 : decode cX5_doTurn 122 = .ok (.aload_n 0, 1) := by decide +kernel
theorem dX5_doTurn_123 : decode cX5_doTurn 123 = .ok (.invokevirtual 167, 3) := by decide +kernel
theorem dX5_doTurn_126 : decode cX5_doTurn 126 = .ok (.aload_n 1, 1) := by decide +kernel
theorem dX5_doTurn_127 : decode cX5_doTurn 127 = .ok (.getfield 94, 3) := by decide +kernel
theorem dX5_doTurn_130 : decode cX5_doTurn 130 = .ok (.ifCond .ne 9, 3) := by decide +kernel
theorem dX5_doTurn_133 : decode cX5_doTurn 133 = .ok (.aload_n 1, 1) := by decide +kernel
theorem dX5_doTurn_134 : decode cX5_doTurn 134 = .ok (.iload 4, 2) := by decide +kernel
theorem dX5_doTurn_136 : decode cX5_doTurn 136 = .ok (.putfield 125, 3) := by decide +kernel
theorem dX5_doTurn_139 : decode cX5_doTurn 139 = .ok (.iinc 2 1, 3) := by decide +kernel
theorem dX5_doTurn_142 : decode cX5_doTurn 142 = .ok (.goto (-115), 3) := by decide +kernel
theorem dX5_doTurn_145 : decode cX5_doTurn 145 = .ok (.aload_n 1, 1) := by decide +kernel
theorem dX5_doTurn_146 : decode cX5_doTurn 146 = .ok (.getfield 94, 3) := by decide +kernel
theorem dX5_doTurn_149 : decode cX5_doTurn 149 = .ok (.ifCond .ne 8, 3) := by decide +kernel
theorem dX5_doTurn_152 : decode cX5_doTurn 152 = .ok (.aload_n 0, 1) := by decide +kernel
theorem dX5_doTurn_153 : decode cX5_doTurn 153 = .ok (.aload_n 1, 1) := by decide +kernel
theorem dX5_doTurn_154 : decode cX5_doTurn 154 = .ok (.invokevirtual 191, 3) := by decide +kernel
theorem dX5_doTurn_157 : decode cX5_doTurn 157 = .ok (.iconst 1, 1) := by decide +kernel
theorem dX5_doTurn_158 : decode cX5_doTurn 158 = .ok (.ireturn, 1) := by decide +kernel
theorem dX5_end_0 : decode cX5_end 0 = .ok (.aload_n 1, 1) := by decide +kernel
theorem dX5_end_1 : decode cX5_end 1 = .ok (.getfield 94, 3) := by decide +kernel
theorem dX5_end_4 : decode cX5_end 4 = .ok (.iconst 2, 1) := by decide +kernel
theorem dX5_end_5 : decode cX5_end 5 = .ok (.if_icmp .eq 12, 3) := by decide +kernel
theorem dX5_end_8 : decode cX5_end 8 = .ok (.aload_n 0, 1) := by decide +kernel
theorem dX5_end_9 : decode cX5_end 9 = .ok (.getfield 85, 3) := by decide +kernel
theorem dX5_end_12 : decode cX5_end 12 = .ok (.bipush 24, 2) := by decide +kernel
theorem dX5_end_14 : decode cX5_end 14 = .ok (.if_icmp .lt 4, 3) := by decide +kernel
theorem dX5_end_17 : decode cX5_end 17 = .ok (.return_, 1) := by decide +kernel
theorem dX5_end_18 : decode cX5_end 18 = .ok (.aload_n 1, 1) := by decide +kernel
theorem dX5_end_19 : decode cX5_end 19 = .ok (.iconst 2, 1) := by decide +kernel
theorem dX5_end_20 : decode cX5_end 20 = .ok (.putfield 94, 3) := by decide +kernel
theorem dX5_end_23 : decode cX5_end 23 = .ok (.aload_n 1, 1) := by decide +kernel
theorem dX5_end_24 : decode cX5_end 24 = .ok (.iload_n 2, 1) := by decide +kernel
theorem dX5_end_25 : decode cX5_end 25 = .ok (.putfield 201, 3) := by decide +kernel
theorem dX5_end_28 : decode cX5_end 28 = .ok (.aload_n 1, 1) := by decide +kernel
theorem dX5_end_29 : decode cX5_end 29 = .ok (.iconst (-1), 1) := by decide +kernel
theorem dX5_end_30 : decode cX5_end 30 = .ok (.putfield 128, 3) := by decide +kernel
theorem dX5_end_33 : decode cX5_end 33 = .ok (.aload_n 1, 1) := by decide +kernel
theorem dX5_end_34 : decode cX5_end 34 = .ok (.getfield 178, 3) := by decide +kernel
theorem dX5_end_37 : decode cX5_end 37 = .ok (.iconst 0, 1) := by decide +kernel
theorem dX5_end_38 : decode cX5_end 38 = .ok (.putfield 204, 3) := by decide +kernel
theorem dX5_end_41 : decode cX5_end 41 = .ok (.iconst 0, 1) := by decide +kernel
theorem dX5_end_42 : decode cX5_end 42 = .ok (.istore_n 3, 1) := by decide +kernel
theorem dX5_end_43 : decode cX5_end 43 = .ok (.iload_n 3, 1) := by decide +kernel
theorem dX5_end_44 : decode cX5_end 44 = .ok (.iconst 4, 1) := by decide +kernel
theorem dX5_end_45 : decode cX5_end 45 = .ok (.if_icmp .ge 29, 3) := by decide +kernel
theorem dX5_end_48 : decode cX5_end 48 = .ok (.aload_n 0, 1) := by decide +kernel
theorem dX5_end_49 : decode cX5_end 49 = .ok (.getfield 15, 3) := by decide +kernel
theorem dX5_end_52 : decode cX5_end 52 = .ok (.iload_n 3, 1) := by decide +kernel
theorem dX5_end_53 : decode cX5_end 53 = .ok (.iaload, 1) := by decide +kernel
theorem dX5_end_54 : decode cX5_end 54 = .ok (.aload_n 1, 1) := by decide +kernel
theorem dX5_end_55 : decode cX5_end 55 = .ok (.getfield 146, 3) := by decide +kernel
theorem dX5_end_58 : decode cX5_end 58 = .ok (.if_icmp .ne 10, 3) := by decide +kernel
theorem dX5_end_61 : decode cX5_end 61 = .ok (.aload_n 0, 1) := by decide +kernel
theorem dX5_end_62 : decode cX5_end 62 = .ok (.getfield 15, 3) := by decide +kernel
theorem dX5_end_65 : decode cX5_end 65 = .ok (.iload_n 3, 1) := by decide +kernel
theorem dX5_end_66 : decode cX5_end 66 = .ok (.iconst (-1), 1) := by decide +kernel
theorem dX5_end_67 : decode cX5_end 67 = .ok (.iastore, 1) := by decide +kernel
theorem dX5_end_68 : decode cX5_end 68 = .ok (.iinc 3 1, 3) := by decide +kernel
theorem dX5_end_71 : decode cX5_end 71 = .ok (.goto (-28), 3) := by decide +kernel
theorem dX5_end_74 : decode cX5_end 74 = .ok (.aload_n 0, 1) := by decide +kernel
theorem dX5_end_75 : decode cX5_end 75 = .ok (.getfield 24, 3) := by decide +kernel
theorem dX5_end_78 : decode cX5_end 78 = .ok (.aload_n 0, 1) := by decide +kernel
theorem dX5_end_79 : decode cX5_end 79 = .ok (.getfield 85, 3) := by decide +kernel
theorem dX5_end_82 : decode cX5_end 82 = .ok (.aload_n 1, 1) := by decide +kernel
theorem dX5_end_83 : decode cX5_end 83 = .ok (.getfield 146, 3) := by decide +kernel
theorem dX5_end_86 : decode cX5_end 86 = .ok (.iastore, 1) := by decide +kernel
theorem dX5_end_87 : decode cX5_end 87 = .ok (.aload_n 0, 1) := by decide +kernel
theorem dX5_end_88 : decode cX5_end 88 = .ok (.dup, 1) := by decide +kernel
theorem dX5_end_89 : decode cX5_end 89 = .ok (.getfield 85, 3) := by decide +kernel
theorem dX5_end_92 : decode cX5_end 92 = .ok (.iconst 1, 1) := by decide +kernel
theorem dX5_end_93 : decode cX5_end 93 = .ok (.iadd, 1) := by decide +kernel
theorem dX5_end_94 : decode cX5_end 94 = .ok (.putfield 85, 3) := by decide +kernel
theorem dX5_end_97 : decode cX5_end 97 = .ok (.return_, 1) := by decide +kernel
theorem dX5_endChildren_0 : decode cX5_endChildren 0 = .ok (.iconst 3, 1) := by decide +kernel
theorem dX5_endChildren_1 : decode cX5_endChildren 1 = .ok (.istore 4, 2) := by decide +kernel
theorem dX5_endChildren_3 : decode cX5_endChildren 3 = .ok (.iload 4, 2) := by decide +kernel
theorem dX5_endChildren_5 : decode cX5_endChildren 5 = .ok (.ifCond .lt 63, 3) := by decide +kernel
theorem dX5_endChildren_8 : decode cX5_endChildren 8 = .ok (.iload 4, 2) := by decide +kernel
theorem dX5_endChildren_10 : decode cX5_endChildren 10 = .ok (.iload_n 2, 1) := by decide +kernel
theorem dX5_endChildren_11 : decode cX5_endChildren 11 = .ok (.if_icmp .lt 57, 3) := by decide +kernel
theorem dX5_endChildren_14 : decode cX5_endChildren 14 = .ok (.aload_n 0, 1) := by decide +kernel
theorem dX5_endChildren_15 : decode cX5_endChildren 15 = .ok (.aload_n 1, 1) := by decide +kernel
theorem dX5_endChildren_16 : decode cX5_endChildren 16 = .ok (.getfield 160, 3) := by decide +kernel
theorem dX5_endChildren_19 : decode cX5_endChildren 19 = .ok (.iload 4, 2) := by decide +kernel
theorem dX5_endChildren_21 : decode cX5_endChildren 21 = .ok (.iaload, 1) := by decide +kernel
theorem dX5_endChildren_22 : decode cX5_endChildren 22 = .ok (.invokevirtual 205, 3) := by decide +kernel
theorem dX5_endChildren_25 : decode cX5_endChildren 25 = .ok (.astore 5, 2) := by decide +kernel
theorem dX5_endChildren_27 : decode cX5_endChildren 27 = .ok (.aload 5, 2) := by decide +kernel
theorem dX5_endChildren_29 : decode cX5_endChildren 29 = .ok (.ifnull 33, 3) := by decide +kernel
theorem dX5_endChildren_32 : decode cX5_endChildren 32 = .ok (.iload 4, 2) := by decide +kernel
theorem dX5_endChildren_34 : decode cX5_endChildren 34 = .ok (.iload_n 3, 1) := by decide +kernel
theorem dX5_endChildren_35 : decode cX5_endChildren 35 = .ok (.if_icmp .ne 6, 3) := by decide +kernel
theorem dX5_endChildren_38 : decode cX5_endChildren 38 = .ok (.goto 24, 3) := by decide +kernel
theorem dX5_endChildren_41 : decode cX5_endChildren 41 = .ok (.aload_n 0, 1) := by decide +kernel
theorem dX5_endChildren_42 : decode cX5_endChildren 42 = .ok (.aload 5, 2) := by decide +kernel
theorem dX5_endChildren_44 : decode cX5_endChildren 44 = .ok (.iconst 5, 1) := by decide +kernel
theorem dX5_endChildren_45 : decode cX5_endChildren 45 = .ok (.invokevirtual 156, 3) := by decide +kernel
theorem dX5_endChildren_48 : decode cX5_endChildren 48 = .ok (.aload 5, 2) := by decide +kernel
theorem dX5_endChildren_50 : decode cX5_endChildren 50 = .ok (.iconst (-1), 1) := by decide +kernel
theorem dX5_endChildren_51 : decode cX5_endChildren 51 = .ok (.putfield 116, 3) := by decide +kernel
theorem dX5_endChildren_54 : decode cX5_endChildren 54 = .ok (.aload_n 1, 1) := by decide +kernel
theorem dX5_endChildren_55 : decode cX5_endChildren 55 = .ok (.getfield 160, 3) := by decide +kernel
theorem dX5_endChildren_58 : decode cX5_endChildren 58 = .ok (.iload 4, 2) := by decide +kernel
theorem dX5_endChildren_60 : decode cX5_endChildren 60 = .ok (.iconst (-1), 1) := by decide +kernel
theorem dX5_endChildren_61 : decode cX5_endChildren 61 = .ok (.iastore, 1) := by decide +kernel
theorem dX5_endChildren_62 : decode cX5_endChildren 62 = .ok (.iinc 4 (-1), 3) := by decide +kernel
theorem dX5_endChildren_65 : decode cX5_endChildren 65 = .ok (.goto (-62), 3) := by decide +kernel
theorem dX5_endChildren_68 : decode cX5_endChildren 68 = .ok (.return_, 1) := by decide +kernel
theorem dX5_endedBehind_0 : decode cX5_endedBehind 0 = .ok (.iconst 0, 1) := by decide +kernel
theorem dX5_endedBehind_1 : decode cX5_endedBehind 1 = .ok (.istore_n 2, 1) := by decide +kernel
theorem dX5_endedBehind_2 : decode cX5_endedBehind 2 = .ok (.iconst 0, 1) := by decide +kernel
theorem dX5_endedBehind_3 : decode cX5_endedBehind 3 = .ok (.iload_n 1, 1) := by decide +kernel
theorem dX5_endedBehind_4 : decode cX5_endedBehind 4 = .ok (.invokestatic 60, 3) := by decide +kernel
theorem dX5_endedBehind_7 : decode cX5_endedBehind 7 = .ok (.istore_n 3, 1) := by decide +kernel
theorem dX5_endedBehind_8 : decode cX5_endedBehind 8 = .ok (.iload_n 3, 1) := by decide +kernel
theorem dX5_endedBehind_9 : decode cX5_endedBehind 9 = .ok (.aload_n 0, 1) := by decide +kernel
theorem dX5_endedBehind_10 : decode cX5_endedBehind 10 = .ok (.getfield 85, 3) := by decide +kernel
theorem dX5_endedBehind_13 : decode cX5_endedBehind 13 = .ok (.if_icmp .ge 26, 3) := by decide +kernel
theorem dX5_endedBehind_16 : decode cX5_endedBehind 16 = .ok (.iload_n 3, 1) := by decide +kernel
theorem dX5_endedBehind_17 : decode cX5_endedBehind 17 = .ok (.bipush 24, 2) := by decide +kernel
theorem dX5_endedBehind_19 : decode cX5_endedBehind 19 = .ok (.if_icmp .ge 20, 3) := by decide +kernel
theorem dX5_endedBehind_22 : decode cX5_endedBehind 22 = .ok (.iload_n 2, 1) := by decide +kernel
theorem dX5_endedBehind_23 : decode cX5_endedBehind 23 = .ok (.iconst 1, 1) := by decide +kernel
theorem dX5_endedBehind_24 : decode cX5_endedBehind 24 = .ok (.aload_n 0, 1) := by decide +kernel
theorem dX5_endedBehind_25 : decode cX5_endedBehind 25 = .ok (.getfield 24, 3) := by decide +kernel
theorem dX5_endedBehind_28 : decode cX5_endedBehind 28 = .ok (.iload_n 3, 1) := by decide +kernel
theorem dX5_endedBehind_29 : decode cX5_endedBehind 29 = .ok (.iaload, 1) := by decide +kernel
theorem dX5_endedBehind_30 : decode cX5_endedBehind 30 = .ok (.ishl, 1) := by decide +kernel
theorem dX5_endedBehind_31 : decode cX5_endedBehind 31 = .ok (.ior, 1) := by decide +kernel
theorem dX5_endedBehind_32 : decode cX5_endedBehind 32 = .ok (.istore_n 2, 1) := by decide +kernel
theorem dX5_endedBehind_33 : decode cX5_endedBehind 33 = .ok (.iinc 3 1, 3) := by decide +kernel
theorem dX5_endedBehind_36 : decode cX5_endedBehind 36 = .ok (.goto (-28), 3) := by decide +kernel
theorem dX5_endedBehind_39 : decode cX5_endedBehind 39 = .ok (.iload_n 2, 1) := by decide +kernel
theorem dX5_endedBehind_40 : decode cX5_endedBehind 40 = .ok (.ireturn, 1) := by decide +kernel
theorem dX5_firstReady_0 : decode cX5_firstReady 0 = .ok (.aconst_null, 1) := by decide +kernel
theorem dX5_firstReady_1 : decode cX5_firstReady 1 = .ok (.astore_n 1, 1) := by decide +kernel
theorem dX5_firstReady_2 : decode cX5_firstReady 2 = .ok (.iconst 0, 1) := by decide +kernel
theorem dX5_firstReady_3 : decode cX5_firstReady 3 = .ok (.istore_n 2, 1) := by decide +kernel
theorem dX5_firstReady_4 : decode cX5_firstReady 4 = .ok (.iload_n 2, 1) := by decide +kernel
theorem dX5_firstReady_5 : decode cX5_firstReady 5 = .ok (.aload_n 0, 1) := by decide +kernel
theorem dX5_firstReady_6 : decode cX5_firstReady 6 = .ok (.getfield 56, 3) := by decide +kernel
theorem dX5_firstReady_9 : decode cX5_firstReady 9 = .ok (.if_icmp .ge 46, 3) := by decide +kernel
theorem dX5_firstReady_12 : decode cX5_firstReady 12 = .ok (.iload_n 2, 1) := by decide +kernel
theorem dX5_firstReady_13 : decode cX5_firstReady 13 = .ok (.bipush 24, 2) := by decide +kernel
theorem dX5_firstReady_15 : decode cX5_firstReady 15 = .ok (.if_icmp .ge 40, 3) := by decide +kernel
theorem dX5_firstReady_18 : decode cX5_firstReady 18 = .ok (.aload_n 0, 1) := by decide +kernel
theorem dX5_firstReady_19 : decode cX5_firstReady 19 = .ok (.getfield 20, 3) := by decide +kernel
theorem dX5_firstReady_22 : decode cX5_firstReady 22 = .ok (.iload_n 2, 1) := by decide +kernel
theorem dX5_firstReady_23 : decode cX5_firstReady 23 = .ok (.aaload, 1) := by decide +kernel
theorem dX5_firstReady_24 : decode cX5_firstReady 24 = .ok (.astore_n 3, 1) := by decide +kernel
theorem dX5_firstReady_25 : decode cX5_firstReady 25 = .ok (.aload_n 3, 1) := by decide +kernel
theorem dX5_firstReady_26 : decode cX5_firstReady 26 = .ok (.getfield 94, 3) := by decide +kernel
theorem dX5_firstReady_29 : decode cX5_firstReady 29 = .ok (.ifCond .ne 20, 3) := by decide +kernel
theorem dX5_firstReady_32 : decode cX5_firstReady 32 = .ok (.aload_n 1, 1) := by decide +kernel
theorem dX5_firstReady_33 : decode cX5_firstReady 33 = .ok (.ifnull 14, 3) := by decide +kernel
theorem dX5_firstReady_36 : decode cX5_firstReady 36 = .ok (.aload_n 3, 1) := by decide +kernel
theorem dX5_firstReady_37 : decode cX5_firstReady 37 = .ok (.getfield 119, 3) := by decide +kernel
theorem dX5_firstReady_40 : decode cX5_firstReady 40 = .ok (.aload_n 1, 1) := by decide +kernel
theorem dX5_firstReady_41 : decode cX5_firstReady 41 = .ok (.getfield 119, 3) := by decide +kernel
theorem dX5_firstReady_44 : decode cX5_firstReady 44 = .ok (.if_icmp .ge 5, 3) := by decide +kernel
theorem dX5_firstReady_47 : decode cX5_firstReady 47 = .ok (.aload_n 3, 1) := by decide +kernel
theorem dX5_firstReady_48 : decode cX5_firstReady 48 = .ok (.astore_n 1, 1) := by decide +kernel
theorem dX5_firstReady_49 : decode cX5_firstReady 49 = .ok (.iinc 2 1, 3) := by decide +kernel
theorem dX5_firstReady_52 : decode cX5_firstReady 52 = .ok (.goto (-48), 3) := by decide +kernel
theorem dX5_firstReady_55 : decode cX5_firstReady 55 = .ok (.aload_n 1, 1) := by decide +kernel
theorem dX5_firstReady_56 : decode cX5_firstReady 56 = .ok (.areturn, 1) := by decide +kernel
theorem dX5_goesOut_0 : decode cX5_goesOut 0 = .ok (.iload_n 0, 1) := by decide +kernel
theorem dX5_goesOut_1 : decode cX5_goesOut 1 = .ok (.tableswitch 65 6 17 #[63, 63, 63, 63, 65, 63, 63, 63, 65, 65, 65, 63], 63) := by decide +kernel
theorem dX5_goesOut_64 : decode cX5_goesOut 64 = .ok (.iconst 1, 1) := by decide +kernel
theorem dX5_goesOut_65 : decode cX5_goesOut 65 = .ok (.ireturn, 1) := by decide +kernel
theorem dX5_goesOut_66 : decode cX5_goesOut 66 = .ok (.iconst 0, 1) := by decide +kernel
theorem dX5_goesOut_67 : decode cX5_goesOut 67 = .ok (.ireturn, 1) := by decide +kernel
theorem dX5_hadSupervisor_0 : decode cX5_hadSupervisor 0 = .ok (.iconst 0, 1) := by decide +kernel
theorem dX5_hadSupervisor_1 : decode cX5_hadSupervisor 1 = .ok (.istore_n 2, 1) := by decide +kernel
theorem dX5_hadSupervisor_2 : decode cX5_hadSupervisor 2 = .ok (.iload_n 2, 1) := by decide +kernel
theorem dX5_hadSupervisor_3 : decode cX5_hadSupervisor 3 = .ok (.aload_n 0, 1) := by decide +kernel
theorem dX5_hadSupervisor_4 : decode cX5_hadSupervisor 4 = .ok (.getfield 56, 3) := by decide +kernel
theorem dX5_hadSupervisor_7 : decode cX5_hadSupervisor 7 = .ok (.if_icmp .ge 30, 3) := by decide +kernel
theorem dX5_hadSupervisor_10 : decode cX5_hadSupervisor 10 = .ok (.iload_n 2, 1) := by decide +kernel
theorem dX5_hadSupervisor_11 : decode cX5_hadSupervisor 11 = .ok (.bipush 24, 2) := by decide +kernel
theorem dX5_hadSupervisor_13 : decode cX5_hadSupervisor 13 = .ok (.if_icmp .ge 24, 3) := by decide +kernel
theorem dX5_hadSupervisor_16 : decode cX5_hadSupervisor 16 = .ok (.aload_n 0, 1) := by decide +kernel
theorem dX5_hadSupervisor_17 : decode cX5_hadSupervisor 17 = .ok (.getfield 20, 3) := by decide +kernel
theorem dX5_hadSupervisor_20 : decode cX5_hadSupervisor 20 = .ok (.iload_n 2, 1) := by decide +kernel
theorem dX5_hadSupervisor_21 : decode cX5_hadSupervisor 21 = .ok (.aaload, 1) := by decide +kernel
theorem dX5_hadSupervisor_22 : decode cX5_hadSupervisor 22 = .ok (.getfield 122, 3) := by decide +kernel
theorem dX5_hadSupervisor_25 : decode cX5_hadSupervisor 25 = .ok (.iload_n 1, 1) := by decide +kernel
theorem dX5_hadSupervisor_26 : decode cX5_hadSupervisor 26 = .ok (.if_icmp .ne 5, 3) := by decide +kernel
theorem dX5_hadSupervisor_29 : decode cX5_hadSupervisor 29 = .ok (.iconst 1, 1) := by decide +kernel
theorem dX5_hadSupervisor_30 : decode cX5_hadSupervisor 30 = .ok (.ireturn, 1) := by decide +kernel
theorem dX5_hadSupervisor_31 : decode cX5_hadSupervisor 31 = .ok (.iinc 2 1, 3) := by decide +kernel
theorem dX5_hadSupervisor_34 : decode cX5_hadSupervisor 34 = .ok (.goto (-32), 3) := by decide +kernel
theorem dX5_hadSupervisor_37 : decode cX5_hadSupervisor 37 = .ok (.iconst 0, 1) := by decide +kernel
theorem dX5_hadSupervisor_38 : decode cX5_hadSupervisor 38 = .ok (.ireturn, 1) := by decide +kernel
theorem dX5_holderOf_0 : decode cX5_holderOf 0 = .ok (.iload_n 1, 1) := by decide +kernel
theorem dX5_holderOf_1 : decode cX5_holderOf 1 = .ok (.iconst 0, 1) := by decide +kernel
theorem dX5_holderOf_2 : decode cX5_holderOf 2 = .ok (.iconst 3, 1) := by decide +kernel
theorem dX5_holderOf_3 : decode cX5_holderOf 3 = .ok (.invokestatic 103, 3) := by decide +kernel
theorem dX5_holderOf_6 : decode cX5_holderOf 6 = .ok (.ifCond .eq 12, 3) := by decide +kernel
theorem dX5_holderOf_9 : decode cX5_holderOf 9 = .ok (.aload_n 0, 1) := by decide +kernel
theorem dX5_holderOf_10 : decode cX5_holderOf 10 = .ok (.getfield 15, 3) := by decide +kernel
theorem dX5_holderOf_13 : decode cX5_holderOf 13 = .ok (.iload_n 1, 1) := by decide +kernel
theorem dX5_holderOf_14 : decode cX5_holderOf 14 = .ok (.iaload, 1) := by decide +kernel
theorem dX5_holderOf_15 : decode cX5_holderOf 15 = .ok (.goto 4, 3) := by decide +kernel
theorem dX5_holderOf_18 : decode cX5_holderOf 18 = .ok (.iconst (-1), 1) := by decide +kernel
theorem dX5_holderOf_19 : decode cX5_holderOf 19 = .ok (.ireturn, 1) := by decide +kernel
theorem dX5_init_0 : decode cX5_init 0 = .ok (.aload_n 0, 1) := by decide +kernel
theorem dX5_init_1 : decode cX5_init 1 = .ok (.invokespecial 3, 3) := by decide +kernel
theorem dX5_init_4 : decode cX5_init 4 = .ok (.aload_n 0, 1) := by decide +kernel
theorem dX5_init_5 : decode cX5_init 5 = .ok (.iconst 4, 1) := by decide +kernel
theorem dX5_init_6 : decode cX5_init 6 = .ok (.newarray .int, 2) := by decide +kernel
theorem dX5_init_8 : decode cX5_init 8 = .ok (.putfield 9, 3) := by decide +kernel
theorem dX5_init_11 : decode cX5_init 11 = .ok (.aload_n 0, 1) := by decide +kernel
theorem dX5_init_12 : decode cX5_init 12 = .ok (.iconst 4, 1) := by decide +kernel
theorem dX5_init_13 : decode cX5_init 13 = .ok (.newarray .int, 2) := by decide +kernel
theorem dX5_init_15 : decode cX5_init 15 = .ok (.putfield 15, 3) := by decide +kernel
theorem dX5_init_18 : decode cX5_init 18 = .ok (.aload_n 0, 1) := by decide +kernel
theorem dX5_init_19 : decode cX5_init 19 = .ok (.bipush 24, 2) := by decide +kernel
theorem dX5_init_21 : decode cX5_init 21 = .ok (.anewarray 18, 3) := by decide +kernel
theorem dX5_init_24 : decode cX5_init 24 = .ok (.putfield 20, 3) := by decide +kernel
theorem dX5_init_27 : decode cX5_init 27 = .ok (.aload_n 0, 1) := by decide +kernel
theorem dX5_init_28 : decode cX5_init 28 = .ok (.bipush 24, 2) := by decide +kernel
theorem dX5_init_30 : decode cX5_init 30 = .ok (.newarray .int, 2) := by decide +kernel
theorem dX5_init_32 : decode cX5_init 32 = .ok (.putfield 24, 3) := by decide +kernel
theorem dX5_init_35 : decode cX5_init 35 = .ok (.aload_n 0, 1) := by decide +kernel
theorem dX5_init_36 : decode cX5_init 36 = .ok (.bipush 24, 2) := by decide +kernel
theorem dX5_init_38 : decode cX5_init 38 = .ok (.newarray .int, 2) := by decide +kernel
theorem dX5_init_40 : decode cX5_init 40 = .ok (.putfield 27, 3) := by decide +kernel
theorem dX5_init_43 : decode cX5_init 43 = .ok (.aload_n 0, 1) := by decide +kernel
theorem dX5_init_44 : decode cX5_init 44 = .ok (.bipush 24, 2) := by decide +kernel
theorem dX5_init_46 : decode cX5_init 46 = .ok (.newarray .int, 2) := by decide +kernel
theorem dX5_init_48 : decode cX5_init 48 = .ok (.putfield 30, 3) := by decide +kernel
theorem dX5_init_51 : decode cX5_init 51 = .ok (.aload_n 0, 1) := by decide +kernel
theorem dX5_init_52 : decode cX5_init 52 = .ok (.aload_n 1, 1) := by decide +kernel
theorem dX5_init_53 : decode cX5_init 53 = .ok (.putfield 33, 3) := by decide +kernel
theorem dX5_init_56 : decode cX5_init 56 = .ok (.aload_n 0, 1) := by decide +kernel
theorem dX5_init_57 : decode cX5_init 57 = .ok (.aload_n 2, 1) := by decide +kernel
theorem dX5_init_58 : decode cX5_init 58 = .ok (.putfield 37, 3) := by decide +kernel
theorem dX5_init_61 : decode cX5_init 61 = .ok (.aload_n 0, 1) := by decide +kernel
theorem dX5_init_62 : decode cX5_init 62 = .ok (.getfield 15, 3) := by decide +kernel
theorem dX5_init_65 : decode cX5_init 65 = .ok (.iconst (-1), 1) := by decide +kernel
theorem dX5_init_66 : decode cX5_init 66 = .ok (.invokestatic 41, 3) := by decide +kernel
theorem dX5_init_69 : decode cX5_init 69 = .ok (.iconst 0, 1) := by decide +kernel
theorem dX5_init_70 : decode cX5_init 70 = .ok (.istore_n 3, 1) := by decide +kernel
theorem dX5_init_71 : decode cX5_init 71 = .ok (.iload_n 3, 1) := by decide +kernel
theorem dX5_init_72 : decode cX5_init 72 = .ok (.bipush 24, 2) := by decide +kernel
theorem dX5_init_74 : decode cX5_init 74 = .ok (.if_icmp .ge 23, 3) := by decide +kernel
theorem dX5_init_77 : decode cX5_init 77 = .ok (.aload_n 0, 1) := by decide +kernel
theorem dX5_init_78 : decode cX5_init 78 = .ok (.getfield 20, 3) := by decide +kernel
theorem dX5_init_81 : decode cX5_init 81 = .ok (.iload_n 3, 1) := by decide +kernel
theorem dX5_init_82 : decode cX5_init 82 = .ok (.new 18, 3) := by decide +kernel
theorem dX5_init_85 : decode cX5_init 85 = .ok (.dup, 1) := by decide +kernel
theorem dX5_init_86 : decode cX5_init 86 = .ok (.iload_n 3, 1) := by decide +kernel
theorem dX5_init_87 : decode cX5_init 87 = .ok (.invokespecial 47, 3) := by decide +kernel
theorem dX5_init_90 : decode cX5_init 90 = .ok (.aastore, 1) := by decide +kernel
theorem dX5_init_91 : decode cX5_init 91 = .ok (.iinc 3 1, 3) := by decide +kernel
theorem dX5_init_94 : decode cX5_init 94 = .ok (.goto (-23), 3) := by decide +kernel
theorem dX5_init_97 : decode cX5_init 97 = .ok (.return_, 1) := by decide +kernel
theorem dX5_isCurrentUsed_0 : decode cX5_isCurrentUsed 0 = .ok (.iconst 0, 1) := by decide +kernel
theorem dX5_isCurrentUsed_1 : decode cX5_isCurrentUsed 1 = .ok (.istore_n 2, 1) := by decide +kernel
theorem dX5_isCurrentUsed_2 : decode cX5_isCurrentUsed 2 = .ok (.iload_n 2, 1) := by decide +kernel
theorem dX5_isCurrentUsed_3 : decode cX5_isCurrentUsed 3 = .ok (.aload_n 0, 1) := by decide +kernel
theorem dX5_isCurrentUsed_4 : decode cX5_isCurrentUsed 4 = .ok (.getfield 56, 3) := by decide +kernel
theorem dX5_isCurrentUsed_7 : decode cX5_isCurrentUsed 7 = .ok (.if_icmp .ge 47, 3) := by decide +kernel
theorem dX5_isCurrentUsed_10 : decode cX5_isCurrentUsed 10 = .ok (.iload_n 2, 1) := by decide +kernel
theorem dX5_isCurrentUsed_11 : decode cX5_isCurrentUsed 11 = .ok (.bipush 24, 2) := by decide +kernel
theorem dX5_isCurrentUsed_13 : decode cX5_isCurrentUsed 13 = .ok (.if_icmp .ge 41, 3) := by decide +kernel
theorem dX5_isCurrentUsed_16 : decode cX5_isCurrentUsed 16 = .ok (.aload_n 0, 1) := by decide +kernel
theorem dX5_isCurrentUsed_17 : decode cX5_isCurrentUsed 17 = .ok (.getfield 20, 3) := by decide +kernel
theorem dX5_isCurrentUsed_20 : decode cX5_isCurrentUsed 20 = .ok (.iload_n 2, 1) := by decide +kernel
theorem dX5_isCurrentUsed_21 : decode cX5_isCurrentUsed 21 = .ok (.aaload, 1) := by decide +kernel
theorem dX5_isCurrentUsed_22 : decode cX5_isCurrentUsed 22 = .ok (.getfield 110, 3) := by decide +kernel
theorem dX5_isCurrentUsed_25 : decode cX5_isCurrentUsed 25 = .ok (.iload_n 1, 1) := by decide +kernel
theorem dX5_isCurrentUsed_26 : decode cX5_isCurrentUsed 26 = .ok (.if_icmp .ne 22, 3) := by decide +kernel
theorem dX5_isCurrentUsed_29 : decode cX5_isCurrentUsed 29 = .ok (.aload_n 0, 1) := by decide +kernel
theorem dX5_isCurrentUsed_30 : decode cX5_isCurrentUsed 30 = .ok (.getfield 20, 3) := by decide +kernel
theorem dX5_isCurrentUsed_33 : decode cX5_isCurrentUsed 33 = .ok (.iload_n 2, 1) := by decide +kernel
theorem dX5_isCurrentUsed_34 : decode cX5_isCurrentUsed 34 = .ok (.aaload, 1) := by decide +kernel
theorem dX5_isCurrentUsed_35 : decode cX5_isCurrentUsed 35 = .ok (.getfield 113, 3) := by decide +kernel
theorem dX5_isCurrentUsed_38 : decode cX5_isCurrentUsed 38 = .ok (.aload_n 0, 1) := by decide +kernel
theorem dX5_isCurrentUsed_39 : decode cX5_isCurrentUsed 39 = .ok (.iload_n 1, 1) := by decide +kernel
theorem dX5_isCurrentUsed_40 : decode cX5_isCurrentUsed 40 = .ok (.invokevirtual 326, 3) := by decide +kernel
theorem dX5_isCurrentUsed_43 : decode cX5_isCurrentUsed 43 = .ok (.if_icmp .ne 5, 3) := by decide +kernel
theorem dX5_isCurrentUsed_46 : decode cX5_isCurrentUsed 46 = .ok (.iconst 1, 1) := by decide +kernel
theorem dX5_isCurrentUsed_47 : decode cX5_isCurrentUsed 47 = .ok (.ireturn, 1) := by decide +kernel
theorem dX5_isCurrentUsed_48 : decode cX5_isCurrentUsed 48 = .ok (.iinc 2 1, 3) := by decide +kernel
theorem dX5_isCurrentUsed_51 : decode cX5_isCurrentUsed 51 = .ok (.goto (-49), 3) := by decide +kernel
theorem dX5_isCurrentUsed_54 : decode cX5_isCurrentUsed 54 = .ok (.iconst 0, 1) := by decide +kernel
theorem dX5_isCurrentUsed_55 : decode cX5_isCurrentUsed 55 = .ok (.ireturn, 1) := by decide +kernel
theorem dX5_link_0 : decode cX5_link 0 = .ok (.aload_n 1, 1) := by decide +kernel
theorem dX5_link_1 : decode cX5_link 1 = .ok (.aload_n 2, 1) := by decide +kernel
theorem dX5_link_2 : decode cX5_link 2 = .ok (.if_acmp .eq 33, 3) := by decide +kernel
theorem dX5_link_5 : decode cX5_link 5 = .ok (.aload_n 1, 1) := by decide +kernel
theorem dX5_link_6 : decode cX5_link 6 = .ok (.dup, 1) := by decide +kernel
theorem dX5_link_7 : decode cX5_link 7 = .ok (.getfield 242, 3) := by decide +kernel
theorem dX5_link_10 : decode cX5_link 10 = .ok (.iconst 1, 1) := by decide +kernel
theorem dX5_link_11 : decode cX5_link 11 = .ok (.aload_n 2, 1) := by decide +kernel
theorem dX5_link_12 : decode cX5_link 12 = .ok (.getfield 146, 3) := by decide +kernel
theorem dX5_link_15 : decode cX5_link 15 = .ok (.ishl, 1) := by decide +kernel
theorem dX5_link_16 : decode cX5_link 16 = .ok (.ior, 1) := by decide +kernel
theorem dX5_link_17 : decode cX5_link 17 = .ok (.putfield 242, 3) := by decide +kernel
theorem dX5_link_20 : decode cX5_link 20 = .ok (.aload_n 2, 1) := by decide +kernel
theorem dX5_link_21 : decode cX5_link 21 = .ok (.dup, 1) := by decide +kernel
theorem dX5_link_22 : decode cX5_link 22 = .ok (.getfield 242, 3) := by decide +kernel
theorem dX5_link_25 : decode cX5_link 25 = .ok (.iconst 1, 1) := by decide +kernel
theorem dX5_link_26 : decode cX5_link 26 = .ok (.aload_n 1, 1) := by decide +kernel
theorem dX5_link_27 : decode cX5_link 27 = .ok (.getfield 146, 3) := by decide +kernel
theorem dX5_link_30 : decode cX5_link 30 = .ok (.ishl, 1) := by decide +kernel
theorem dX5_link_31 : decode cX5_link 31 = .ok (.ior, 1) := by decide +kernel
theorem dX5_link_32 : decode cX5_link 32 = .ok (.putfield 242, 3) := by decide +kernel
theorem dX5_link_35 : decode cX5_link 35 = .ok (.return_, 1) := by decide +kernel
theorem dX5_linkCount_0 : decode cX5_linkCount 0 = .ok (.iconst 0, 1) := by decide +kernel
theorem dX5_linkCount_1 : decode cX5_linkCount 1 = .ok (.istore_n 1, 1) := by decide +kernel
theorem dX5_linkCount_2 : decode cX5_linkCount 2 = .ok (.iconst 0, 1) := by decide +kernel
theorem dX5_linkCount_3 : decode cX5_linkCount 3 = .ok (.istore_n 2, 1) := by decide +kernel
theorem dX5_linkCount_4 : decode cX5_linkCount 4 = .ok (.iload_n 2, 1) := by decide +kernel
theorem dX5_linkCount_5 : decode cX5_linkCount 5 = .ok (.aload_n 0, 1) := by decide +kernel
theorem dX5_linkCount_6 : decode cX5_linkCount 6 = .ok (.getfield 56, 3) := by decide +kernel
theorem dX5_linkCount_9 : decode cX5_linkCount 9 = .ok (.if_icmp .ge 30, 3) := by decide +kernel
theorem dX5_linkCount_12 : decode cX5_linkCount 12 = .ok (.iload_n 2, 1) := by decide +kernel
theorem dX5_linkCount_13 : decode cX5_linkCount 13 = .ok (.bipush 24, 2) := by decide +kernel
theorem dX5_linkCount_15 : decode cX5_linkCount 15 = .ok (.if_icmp .ge 24, 3) := by decide +kernel
theorem dX5_linkCount_18 : decode cX5_linkCount 18 = .ok (.iload_n 1, 1) := by decide +kernel
theorem dX5_linkCount_19 : decode cX5_linkCount 19 = .ok (.aload_n 0, 1) := by decide +kernel
theorem dX5_linkCount_20 : decode cX5_linkCount 20 = .ok (.getfield 20, 3) := by decide +kernel
theorem dX5_linkCount_23 : decode cX5_linkCount 23 = .ok (.iload_n 2, 1) := by decide +kernel
theorem dX5_linkCount_24 : decode cX5_linkCount 24 = .ok (.aaload, 1) := by decide +kernel
theorem dX5_linkCount_25 : decode cX5_linkCount 25 = .ok (.getfield 242, 3) := by decide +kernel
theorem dX5_linkCount_28 : decode cX5_linkCount 28 = .ok (.invokestatic 348, 3) := by decide +kernel
theorem dX5_linkCount_31 : decode cX5_linkCount 31 = .ok (.iadd, 1) := by decide +kernel
theorem dX5_linkCount_32 : decode cX5_linkCount 32 = .ok (.istore_n 1, 1) := by decide +kernel
theorem dX5_linkCount_33 : decode cX5_linkCount 33 = .ok (.iinc 2 1, 3) := by decide +kernel
theorem dX5_linkCount_36 : decode cX5_linkCount 36 = .ok (.goto (-32), 3) := by decide +kernel
theorem dX5_linkCount_39 : decode cX5_linkCount 39 = .ok (.iload_n 1, 1) := by decide +kernel
theorem dX5_linkCount_40 : decode cX5_linkCount 40 = .ok (.iconst 2, 1) := by decide +kernel
theorem dX5_linkCount_41 : decode cX5_linkCount 41 = .ok (.idiv, 1) := by decide +kernel
theorem dX5_linkCount_42 : decode cX5_linkCount 42 = .ok (.ireturn, 1) := by decide +kernel
theorem dX5_living_0 : decode cX5_living 0 = .ok (.iload_n 1, 1) := by decide +kernel
theorem dX5_living_1 : decode cX5_living 1 = .ok (.ifCond .lt 17, 3) := by decide +kernel
theorem dX5_living_4 : decode cX5_living 4 = .ok (.iload_n 1, 1) := by decide +kernel
theorem dX5_living_5 : decode cX5_living 5 = .ok (.aload_n 0, 1) := by decide +kernel
theorem dX5_living_6 : decode cX5_living 6 = .ok (.getfield 56, 3) := by decide +kernel
theorem dX5_living_9 : decode cX5_living 9 = .ok (.if_icmp .ge 9, 3) := by decide +kernel
theorem dX5_living_12 : decode cX5_living 12 = .ok (.iload_n 1, 1) := by decide +kernel
theorem dX5_living_13 : decode cX5_living 13 = .ok (.bipush 24, 2) := by decide +kernel
theorem dX5_living_15 : decode cX5_living 15 = .ok (.if_icmp .lt 5, 3) := by decide +kernel
theorem dX5_living_18 : decode cX5_living 18 = .ok (.aconst_null, 1) := by decide +kernel
theorem dX5_living_19 : decode cX5_living 19 = .ok (.areturn, 1) := by decide +kernel
theorem dX5_living_20 : decode cX5_living 20 = .ok (.aload_n 0, 1) := by decide +kernel
theorem dX5_living_21 : decode cX5_living 21 = .ok (.getfield 20, 3) := by decide +kernel
theorem dX5_living_24 : decode cX5_living 24 = .ok (.iload_n 1, 1) := by decide +kernel
theorem dX5_living_25 : decode cX5_living 25 = .ok (.aaload, 1) := by decide +kernel
theorem dX5_living_26 : decode cX5_living 26 = .ok (.getfield 94, 3) := by decide +kernel
theorem dX5_living_29 : decode cX5_living 29 = .ok (.iconst 2, 1) := by decide +kernel
theorem dX5_living_30 : decode cX5_living 30 = .ok (.if_icmp .ne 7, 3) := by decide +kernel
theorem dX5_living_33 : decode cX5_living 33 = .ok (.aconst_null, 1) := by decide +kernel
theorem dX5_living_34 : decode cX5_living 34 = .ok (.goto 9, 3) := by decide +kernel
theorem dX5_living_37 : decode cX5_living 37 = .ok (.aload_n 0, 1) := by decide +kernel
theorem dX5_living_38 : decode cX5_living 38 = .ok (.getfield 20, 3) := by decide +kernel
theorem dX5_living_41 : decode cX5_living 41 = .ok (.iload_n 1, 1) := by decide +kernel
theorem dX5_living_42 : decode cX5_living 42 = .ok (.aaload, 1) := by decide +kernel
theorem dX5_living_43 : decode cX5_living 43 = .ok (.areturn, 1) := by decide +kernel
theorem dX5_loadModule_0 : decode cX5_loadModule 0 = .ok (.aload_n 0, 1) := by decide +kernel
theorem dX5_loadModule_1 : decode cX5_loadModule 1 = .ok (.getfield 33, 3) := by decide +kernel
theorem dX5_loadModule_4 : decode cX5_loadModule 4 = .ok (.iload_n 1, 1) := by decide +kernel
theorem dX5_loadModule_5 : decode cX5_loadModule 5 = .ok (.invokevirtual 97, 3) := by decide +kernel
theorem dX5_loadModule_8 : decode cX5_loadModule 8 = .ok (.ifCond .ne 4, 3) := by decide +kernel
theorem dX5_loadModule_11 : decode cX5_loadModule 11 = .ok (.return_, 1) := by decide +kernel
theorem dX5_loadModule_12 : decode cX5_loadModule 12 = .ok (.aload_n 0, 1) := by decide +kernel
theorem dX5_loadModule_13 : decode cX5_loadModule 13 = .ok (.getfield 9, 3) := by decide +kernel
theorem dX5_loadModule_16 : decode cX5_loadModule 16 = .ok (.iload_n 1, 1) := by decide +kernel
theorem dX5_loadModule_17 : decode cX5_loadModule 17 = .ok (.iaload, 1) := by decide +kernel
theorem dX5_loadModule_18 : decode cX5_loadModule 18 = .ok (.istore_n 2, 1) := by decide +kernel
theorem dX5_loadModule_19 : decode cX5_loadModule 19 = .ok (.aload_n 0, 1) := by decide +kernel
theorem dX5_loadModule_20 : decode cX5_loadModule 20 = .ok (.getfield 9, 3) := by decide +kernel
theorem dX5_loadModule_23 : decode cX5_loadModule 23 = .ok (.iload_n 1, 1) := by decide +kernel
theorem dX5_loadModule_24 : decode cX5_loadModule 24 = .ok (.iload_n 2, 1) := by decide +kernel
theorem dX5_loadModule_25 : decode cX5_loadModule 25 = .ok (.iconst 1, 1) := by decide +kernel
theorem dX5_loadModule_26 : decode cX5_loadModule 26 = .ok (.iadd, 1) := by decide +kernel
theorem dX5_loadModule_27 : decode cX5_loadModule 27 = .ok (.iastore, 1) := by decide +kernel
theorem dX5_loadModule_28 : decode cX5_loadModule 28 = .ok (.iconst 0, 1) := by decide +kernel
theorem dX5_loadModule_29 : decode cX5_loadModule 29 = .ok (.istore_n 3, 1) := by decide +kernel
theorem dX5_loadModule_30 : decode cX5_loadModule 30 = .ok (.iload_n 3, 1) := by decide +kernel
theorem dX5_loadModule_31 : decode cX5_loadModule 31 = .ok (.aload_n 0, 1) := by decide +kernel
theorem dX5_loadModule_32 : decode cX5_loadModule 32 = .ok (.getfield 56, 3) := by decide +kernel
theorem dX5_loadModule_35 : decode cX5_loadModule 35 = .ok (.if_icmp .ge 62, 3) := by decide +kernel
theorem dX5_loadModule_38 : decode cX5_loadModule 38 = .ok (.iload_n 3, 1) := by decide +kernel
theorem dX5_loadModule_39 : decode cX5_loadModule 39 = .ok (.bipush 24, 2) := by decide +kernel
theorem dX5_loadModule_41 : decode cX5_loadModule 41 = .ok (.if_icmp .ge 56, 3) := by decide +kernel
theorem dX5_loadModule_44 : decode cX5_loadModule 44 = .ok (.aload_n 0, 1) := by decide +kernel
theorem dX5_loadModule_45 : decode cX5_loadModule 45 = .ok (.getfield 20, 3) := by decide +kernel
theorem dX5_loadModule_48 : decode cX5_loadModule 48 = .ok (.iload_n 3, 1) := by decide +kernel
theorem dX5_loadModule_49 : decode cX5_loadModule 49 = .ok (.aaload, 1) := by decide +kernel
theorem dX5_loadModule_50 : decode cX5_loadModule 50 = .ok (.astore 4, 2) := by decide +kernel
theorem dX5_loadModule_52 : decode cX5_loadModule 52 = .ok (.aload 4, 2) := by decide +kernel
theorem dX5_loadModule_54 : decode cX5_loadModule 54 = .ok (.getfield 94, 3) := by decide +kernel
theorem dX5_loadModule_57 : decode cX5_loadModule 57 = .ok (.iconst 2, 1) := by decide +kernel
theorem dX5_loadModule_58 : decode cX5_loadModule 58 = .ok (.if_icmp .eq 33, 3) := by decide +kernel
theorem dX5_loadModule_61 : decode cX5_loadModule 61 = .ok (.aload 4, 2) := by decide +kernel
theorem dX5_loadModule_63 : decode cX5_loadModule 63 = .ok (.getfield 110, 3) := by decide +kernel
theorem dX5_loadModule_66 : decode cX5_loadModule 66 = .ok (.iload_n 1, 1) := by decide +kernel
theorem dX5_loadModule_67 : decode cX5_loadModule 67 = .ok (.if_icmp .ne 24, 3) := by decide +kernel
theorem dX5_loadModule_70 : decode cX5_loadModule 70 = .ok (.aload 4, 2) := by decide +kernel
theorem dX5_loadModule_72 : decode cX5_loadModule 72 = .ok (.getfield 113, 3) := by decide +kernel
theorem dX5_loadModule_75 : decode cX5_loadModule 75 = .ok (.iload_n 2, 1) := by decide +kernel
theorem dX5_loadModule_76 : decode cX5_loadModule 76 = .ok (.if_icmp .ge 15, 3) := by decide +kernel
theorem dX5_loadModule_79 : decode cX5_loadModule 79 = .ok (.aload_n 0, 1) := by decide +kernel
theorem dX5_loadModule_80 : decode cX5_loadModule 80 = .ok (.aload 4, 2) := by decide +kernel
theorem dX5_loadModule_82 : decode cX5_loadModule 82 = .ok (.bipush 8, 2) := by decide +kernel
theorem dX5_loadModule_84 : decode cX5_loadModule 84 = .ok (.invokevirtual 156, 3) := by decide +kernel
theorem dX5_loadModule_87 : decode cX5_loadModule 87 = .ok (.aload_n 0, 1) := by decide +kernel
theorem dX5_loadModule_88 : decode cX5_loadModule 88 = .ok (.invokevirtual 167, 3) := by decide +kernel
theorem dX5_loadModule_91 : decode cX5_loadModule 91 = .ok (.iinc 3 1, 3) := by decide +kernel
theorem dX5_loadModule_94 : decode cX5_loadModule 94 = .ok (.goto (-64), 3) := by decide +kernel
theorem dX5_loadModule_97 : decode cX5_loadModule 97 = .ok (.return_, 1) := by decide +kernel
theorem dX5_madeOf_0 : decode cX5_madeOf 0 = .ok (.iconst 0, 1) := by decide +kernel
theorem dX5_madeOf_1 : decode cX5_madeOf 1 = .ok (.istore_n 2, 1) := by decide +kernel
theorem dX5_madeOf_2 : decode cX5_madeOf 2 = .ok (.iconst 0, 1) := by decide +kernel
theorem dX5_madeOf_3 : decode cX5_madeOf 3 = .ok (.istore_n 3, 1) := by decide +kernel
theorem dX5_madeOf_4 : decode cX5_madeOf 4 = .ok (.iload_n 3, 1) := by decide +kernel
theorem dX5_madeOf_5 : decode cX5_madeOf 5 = .ok (.aload_n 0, 1) := by decide +kernel
theorem dX5_madeOf_6 : decode cX5_madeOf 6 = .ok (.getfield 56, 3) := by decide +kernel
theorem dX5_madeOf_9 : decode cX5_madeOf 9 = .ok (.if_icmp .ge 31, 3) := by decide +kernel
theorem dX5_madeOf_12 : decode cX5_madeOf 12 = .ok (.iload_n 3, 1) := by decide +kernel
theorem dX5_madeOf_13 : decode cX5_madeOf 13 = .ok (.bipush 24, 2) := by decide +kernel
theorem dX5_madeOf_15 : decode cX5_madeOf 15 = .ok (.if_icmp .ge 25, 3) := by decide +kernel
theorem dX5_madeOf_18 : decode cX5_madeOf 18 = .ok (.aload_n 0, 1) := by decide +kernel
theorem dX5_madeOf_19 : decode cX5_madeOf 19 = .ok (.getfield 20, 3) := by decide +kernel
theorem dX5_madeOf_22 : decode cX5_madeOf 22 = .ok (.iload_n 3, 1) := by decide +kernel
theorem dX5_madeOf_23 : decode cX5_madeOf 23 = .ok (.aaload, 1) := by decide +kernel
theorem dX5_madeOf_24 : decode cX5_madeOf 24 = .ok (.getfield 110, 3) := by decide +kernel
theorem dX5_madeOf_27 : decode cX5_madeOf 27 = .ok (.iload_n 1, 1) := by decide +kernel
theorem dX5_madeOf_28 : decode cX5_madeOf 28 = .ok (.if_icmp .ne 6, 3) := by decide +kernel
theorem dX5_madeOf_31 : decode cX5_madeOf 31 = .ok (.iinc 2 1, 3) := by decide +kernel
theorem dX5_madeOf_34 : decode cX5_madeOf 34 = .ok (.iinc 3 1, 3) := by decide +kernel
theorem dX5_madeOf_37 : decode cX5_madeOf 37 = .ok (.goto (-33), 3) := by decide +kernel
theorem dX5_madeOf_40 : decode cX5_madeOf 40 = .ok (.iload_n 2, 1) := by decide +kernel
theorem dX5_madeOf_41 : decode cX5_madeOf 41 = .ok (.ireturn, 1) := by decide +kernel
theorem dX5_mailCount_0 : decode cX5_mailCount 0 = .ok (.iconst 0, 1) := by decide +kernel
theorem dX5_mailCount_1 : decode cX5_mailCount 1 = .ok (.istore_n 1, 1) := by decide +kernel
theorem dX5_mailCount_2 : decode cX5_mailCount 2 = .ok (.iconst 0, 1) := by decide +kernel
theorem dX5_mailCount_3 : decode cX5_mailCount 3 = .ok (.istore_n 2, 1) := by decide +kernel
theorem dX5_mailCount_4 : decode cX5_mailCount 4 = .ok (.iload_n 2, 1) := by decide +kernel
theorem dX5_mailCount_5 : decode cX5_mailCount 5 = .ok (.aload_n 0, 1) := by decide +kernel
theorem dX5_mailCount_6 : decode cX5_mailCount 6 = .ok (.getfield 56, 3) := by decide +kernel
theorem dX5_mailCount_9 : decode cX5_mailCount 9 = .ok (.if_icmp .ge 30, 3) := by decide +kernel
theorem dX5_mailCount_12 : decode cX5_mailCount 12 = .ok (.iload_n 2, 1) := by decide +kernel
theorem dX5_mailCount_13 : decode cX5_mailCount 13 = .ok (.bipush 24, 2) := by decide +kernel
theorem dX5_mailCount_15 : decode cX5_mailCount 15 = .ok (.if_icmp .ge 24, 3) := by decide +kernel
theorem dX5_mailCount_18 : decode cX5_mailCount 18 = .ok (.iload_n 1, 1) := by decide +kernel
theorem dX5_mailCount_19 : decode cX5_mailCount 19 = .ok (.aload_n 0, 1) := by decide +kernel
theorem dX5_mailCount_20 : decode cX5_mailCount 20 = .ok (.getfield 20, 3) := by decide +kernel
theorem dX5_mailCount_23 : decode cX5_mailCount 23 = .ok (.iload_n 2, 1) := by decide +kernel
theorem dX5_mailCount_24 : decode cX5_mailCount 24 = .ok (.aaload, 1) := by decide +kernel
theorem dX5_mailCount_25 : decode cX5_mailCount 25 = .ok (.getfield 178, 3) := by decide +kernel
theorem dX5_mailCount_28 : decode cX5_mailCount 28 = .ok (.getfield 204, 3) := by decide +kernel
theorem dX5_mailCount_31 : decode cX5_mailCount 31 = .ok (.iadd, 1) := by decide +kernel
theorem dX5_mailCount_32 : decode cX5_mailCount 32 = .ok (.istore_n 1, 1) := by decide +kernel
theorem dX5_mailCount_33 : decode cX5_mailCount 33 = .ok (.iinc 2 1, 3) := by decide +kernel
theorem dX5_mailCount_36 : decode cX5_mailCount 36 = .ok (.goto (-32), 3) := by decide +kernel
theorem dX5_mailCount_39 : decode cX5_mailCount 39 = .ok (.iload_n 1, 1) := by decide +kernel
theorem dX5_mailCount_40 : decode cX5_mailCount 40 = .ok (.ireturn, 1) := by decide +kernel
theorem dX5_noteRestart_0 : decode cX5_noteRestart 0 = .ok (.aload_n 0, 1) := by decide +kernel
theorem dX5_noteRestart_1 : decode cX5_noteRestart 1 = .ok (.getfield 91, 3) := by decide +kernel
theorem dX5_noteRestart_4 : decode cX5_noteRestart 4 = .ok (.bipush 24, 2) := by decide +kernel
theorem dX5_noteRestart_6 : decode cX5_noteRestart 6 = .ok (.if_icmp .ge 36, 3) := by decide +kernel
theorem dX5_noteRestart_9 : decode cX5_noteRestart 9 = .ok (.aload_n 0, 1) := by decide +kernel
theorem dX5_noteRestart_10 : decode cX5_noteRestart 10 = .ok (.getfield 27, 3) := by decide +kernel
theorem dX5_noteRestart_13 : decode cX5_noteRestart 13 = .ok (.aload_n 0, 1) := by decide +kernel
theorem dX5_noteRestart_14 : decode cX5_noteRestart 14 = .ok (.getfield 91, 3) := by decide +kernel
theorem dX5_noteRestart_17 : decode cX5_noteRestart 17 = .ok (.iload_n 1, 1) := by decide +kernel
theorem dX5_noteRestart_18 : decode cX5_noteRestart 18 = .ok (.iastore, 1) := by decide +kernel
theorem dX5_noteRestart_19 : decode cX5_noteRestart 19 = .ok (.aload_n 0, 1) := by decide +kernel
theorem dX5_noteRestart_20 : decode cX5_noteRestart 20 = .ok (.getfield 30, 3) := by decide +kernel
theorem dX5_noteRestart_23 : decode cX5_noteRestart 23 = .ok (.aload_n 0, 1) := by decide +kernel
theorem dX5_noteRestart_24 : decode cX5_noteRestart 24 = .ok (.getfield 91, 3) := by decide +kernel
theorem dX5_noteRestart_27 : decode cX5_noteRestart 27 = .ok (.aload_n 0, 1) := by decide +kernel
theorem dX5_noteRestart_28 : decode cX5_noteRestart 28 = .ok (.getfield 70, 3) := by decide +kernel
theorem dX5_noteRestart_31 : decode cX5_noteRestart 31 = .ok (.iastore, 1) := by decide +kernel
theorem dX5_noteRestart_32 : decode cX5_noteRestart 32 = .ok (.aload_n 0, 1) := by decide +kernel
theorem dX5_noteRestart_33 : decode cX5_noteRestart 33 = .ok (.dup, 1) := by decide +kernel
theorem dX5_noteRestart_34 : decode cX5_noteRestart 34 = .ok (.getfield 91, 3) := by decide +kernel
theorem dX5_noteRestart_37 : decode cX5_noteRestart 37 = .ok (.iconst 1, 1) := by decide +kernel
theorem dX5_noteRestart_38 : decode cX5_noteRestart 38 = .ok (.iadd, 1) := by decide +kernel
theorem dX5_noteRestart_39 : decode cX5_noteRestart 39 = .ok (.putfield 91, 3) := by decide +kernel
theorem dX5_noteRestart_42 : decode cX5_noteRestart 42 = .ok (.return_, 1) := by decide +kernel
theorem dX5_passTime_0 : decode cX5_passTime 0 = .ok (.aload_n 0, 1) := by decide +kernel
theorem dX5_passTime_1 : decode cX5_passTime 1 = .ok (.dup, 1) := by decide +kernel
theorem dX5_passTime_2 : decode cX5_passTime 2 = .ok (.getfield 70, 3) := by decide +kernel
theorem dX5_passTime_5 : decode cX5_passTime 5 = .ok (.iconst 1, 1) := by decide +kernel
theorem dX5_passTime_6 : decode cX5_passTime 6 = .ok (.iadd, 1) := by decide +kernel
theorem dX5_passTime_7 : decode cX5_passTime 7 = .ok (.putfield 70, 3) := by decide +kernel
theorem dX5_passTime_10 : decode cX5_passTime 10 = .ok (.iconst 0, 1) := by decide +kernel
theorem dX5_passTime_11 : decode cX5_passTime 11 = .ok (.istore_n 1, 1) := by decide +kernel
theorem dX5_passTime_12 : decode cX5_passTime 12 = .ok (.iconst 0, 1) := by decide +kernel
theorem dX5_passTime_13 : decode cX5_passTime 13 = .ok (.istore_n 2, 1) := by decide +kernel
theorem dX5_passTime_14 : decode cX5_passTime 14 = .ok (.iload_n 2, 1) := by decide +kernel
theorem dX5_passTime_15 : decode cX5_passTime 15 = .ok (.aload_n 0, 1) := by decide +kernel
theorem dX5_passTime_16 : decode cX5_passTime 16 = .ok (.getfield 56, 3) := by decide +kernel
theorem dX5_passTime_19 : decode cX5_passTime 19 = .ok (.if_icmp .ge 57, 3) := by decide +kernel
theorem dX5_passTime_22 : decode cX5_passTime 22 = .ok (.iload_n 2, 1) := by decide +kernel
theorem dX5_passTime_23 : decode cX5_passTime 23 = .ok (.bipush 24, 2) := by decide +kernel
theorem dX5_passTime_25 : decode cX5_passTime 25 = .ok (.if_icmp .ge 51, 3) := by decide +kernel
theorem dX5_passTime_28 : decode cX5_passTime 28 = .ok (.aload_n 0, 1) := by decide +kernel
theorem dX5_passTime_29 : decode cX5_passTime 29 = .ok (.getfield 20, 3) := by decide +kernel
theorem dX5_passTime_32 : decode cX5_passTime 32 = .ok (.iload_n 2, 1) := by decide +kernel
theorem dX5_passTime_33 : decode cX5_passTime 33 = .ok (.aaload, 1) := by decide +kernel
theorem dX5_passTime_34 : decode cX5_passTime 34 = .ok (.getfield 94, 3) := by decide +kernel
theorem dX5_passTime_37 : decode cX5_passTime 37 = .ok (.iconst 1, 1) := by decide +kernel
theorem dX5_passTime_38 : decode cX5_passTime 38 = .ok (.if_icmp .ne 32, 3) := by decide +kernel
theorem dX5_passTime_41 : decode cX5_passTime 41 = .ok (.aload_n 0, 1) := by decide +kernel
theorem dX5_passTime_42 : decode cX5_passTime 42 = .ok (.getfield 20, 3) := by decide +kernel
theorem dX5_passTime_45 : decode cX5_passTime 45 = .ok (.iload_n 2, 1) := by decide +kernel
theorem dX5_passTime_46 : decode cX5_passTime 46 = .ok (.aaload, 1) := by decide +kernel
theorem dX5_passTime_47 : decode cX5_passTime 47 = .ok (.getfield 128, 3) := by decide +kernel
theorem dX5_passTime_50 : decode cX5_passTime 50 = .ok (.aload_n 0, 1) := by decide +kernel
theorem dX5_passTime_51 : decode cX5_passTime 51 = .ok (.getfield 70, 3) := by decide +kernel
theorem dX5_passTime_54 : decode cX5_passTime 54 = .ok (.if_icmp .ne 16, 3) := by decide +kernel
theorem dX5_passTime_57 : decode cX5_passTime 57 = .ok (.aload_n 0, 1) := by decide +kernel
theorem dX5_passTime_58 : decode cX5_passTime 58 = .ok (.aload_n 0, 1) := by decide +kernel
theorem dX5_passTime_59 : decode cX5_passTime 59 = .ok (.getfield 20, 3) := by decide +kernel
theorem dX5_passTime_62 : decode cX5_passTime 62 = .ok (.iload_n 2, 1) := by decide +kernel
theorem dX5_passTime_63 : decode cX5_passTime 63 = .ok (.aaload, 1) := by decide +kernel
theorem dX5_passTime_64 : decode cX5_passTime 64 = .ok (.invokevirtual 191, 3) := by decide +kernel
theorem dX5_passTime_67 : decode cX5_passTime 67 = .ok (.iinc 1 1, 3) := by decide +kernel
theorem dX5_passTime_70 : decode cX5_passTime 70 = .ok (.iinc 2 1, 3) := by decide +kernel
theorem dX5_passTime_73 : decode cX5_passTime 73 = .ok (.goto (-59), 3) := by decide +kernel
theorem dX5_passTime_76 : decode cX5_passTime 76 = .ok (.iload_n 1, 1) := by decide +kernel
theorem dX5_passTime_77 : decode cX5_passTime 77 = .ok (.ireturn, 1) := by decide +kernel
theorem dX5_placeInRow_0 : decode cX5_placeInRow 0 = .ok (.aload_n 1, 1) := by decide +kernel
theorem dX5_placeInRow_1 : decode cX5_placeInRow 1 = .ok (.getfield 94, 3) := by decide +kernel
theorem dX5_placeInRow_4 : decode cX5_placeInRow 4 = .ok (.ifCond .eq 5, 3) := by decide +kernel
theorem dX5_placeInRow_7 : decode cX5_placeInRow 7 = .ok (.iconst (-1), 1) := by decide +kernel
theorem dX5_placeInRow_8 : decode cX5_placeInRow 8 = .ok (.ireturn, 1) := by decide +kernel
theorem dX5_placeInRow_9 : decode cX5_placeInRow 9 = .ok (.iconst 0, 1) := by decide +kernel
theorem dX5_placeInRow_10 : decode cX5_placeInRow 10 = .ok (.istore_n 2, 1) := by decide +kernel
theorem dX5_placeInRow_11 : decode cX5_placeInRow 11 = .ok (.iconst 0, 1) := by decide +kernel
theorem dX5_placeInRow_12 : decode cX5_placeInRow 12 = .ok (.istore_n 3, 1) := by decide +kernel
theorem dX5_placeInRow_13 : decode cX5_placeInRow 13 = .ok (.iload_n 3, 1) := by decide +kernel
theorem dX5_placeInRow_14 : decode cX5_placeInRow 14 = .ok (.aload_n 0, 1) := by decide +kernel
theorem dX5_placeInRow_15 : decode cX5_placeInRow 15 = .ok (.getfield 56, 3) := by decide +kernel
theorem dX5_placeInRow_18 : decode cX5_placeInRow 18 = .ok (.if_icmp .ge 46, 3) := by decide +kernel
theorem dX5_placeInRow_21 : decode cX5_placeInRow 21 = .ok (.iload_n 3, 1) := by decide +kernel
theorem dX5_placeInRow_22 : decode cX5_placeInRow 22 = .ok (.bipush 24, 2) := by decide +kernel
theorem dX5_placeInRow_24 : decode cX5_placeInRow 24 = .ok (.if_icmp .ge 40, 3) := by decide +kernel
theorem dX5_placeInRow_27 : decode cX5_placeInRow 27 = .ok (.aload_n 0, 1) := by decide +kernel
theorem dX5_placeInRow_28 : decode cX5_placeInRow 28 = .ok (.getfield 20, 3) := by decide +kernel
theorem dX5_placeInRow_31 : decode cX5_placeInRow 31 = .ok (.iload_n 3, 1) := by decide +kernel
theorem dX5_placeInRow_32 : decode cX5_placeInRow 32 = .ok (.aaload, 1) := by decide +kernel
theorem dX5_placeInRow_33 : decode cX5_placeInRow 33 = .ok (.getfield 94, 3) := by decide +kernel
theorem dX5_placeInRow_36 : decode cX5_placeInRow 36 = .ok (.ifCond .ne 22, 3) := by decide +kernel
theorem dX5_placeInRow_39 : decode cX5_placeInRow 39 = .ok (.aload_n 0, 1) := by decide +kernel
theorem dX5_placeInRow_40 : decode cX5_placeInRow 40 = .ok (.getfield 20, 3) := by decide +kernel
theorem dX5_placeInRow_43 : decode cX5_placeInRow 43 = .ok (.iload_n 3, 1) := by decide +kernel
theorem dX5_placeInRow_44 : decode cX5_placeInRow 44 = .ok (.aaload, 1) := by decide +kernel
theorem dX5_placeInRow_45 : decode cX5_placeInRow 45 = .ok (.getfield 119, 3) := by decide +kernel
theorem dX5_placeInRow_48 : decode cX5_placeInRow 48 = .ok (.aload_n 1, 1) := by decide +kernel
theorem dX5_placeInRow_49 : decode cX5_placeInRow 49 = .ok (.getfield 119, 3) := by decide +kernel
theorem dX5_placeInRow_52 : decode cX5_placeInRow 52 = .ok (.if_icmp .ge 6, 3) := by decide +kernel
theorem dX5_placeInRow_55 : decode cX5_placeInRow 55 = .ok (.iinc 2 1, 3) := by decide +kernel
theorem dX5_placeInRow_58 : decode cX5_placeInRow 58 = .ok (.iinc 3 1, 3) := by decide +kernel
theorem dX5_placeInRow_61 : decode cX5_placeInRow 61 = .ok (.goto (-48), 3) := by decide +kernel
theorem dX5_placeInRow_64 : decode cX5_placeInRow 64 = .ok (.iload_n 2, 1) := by decide +kernel
theorem dX5_placeInRow_65 : decode cX5_placeInRow 65 = .ok (.ireturn, 1) := by decide +kernel
theorem dX5_procAt_0 : decode cX5_procAt 0 = .ok (.iload_n 1, 1) := by decide +kernel
theorem dX5_procAt_1 : decode cX5_procAt 1 = .ok (.ifCond .lt 26, 3) := by decide +kernel
theorem dX5_procAt_4 : decode cX5_procAt 4 = .ok (.iload_n 1, 1) := by decide +kernel
theorem dX5_procAt_5 : decode cX5_procAt 5 = .ok (.aload_n 0, 1) := by decide +kernel
theorem dX5_procAt_6 : decode cX5_procAt 6 = .ok (.getfield 56, 3) := by decide +kernel
theorem dX5_procAt_9 : decode cX5_procAt 9 = .ok (.if_icmp .ge 18, 3) := by decide +kernel
theorem dX5_procAt_12 : decode cX5_procAt 12 = .ok (.iload_n 1, 1) := by decide +kernel
theorem dX5_procAt_13 : decode cX5_procAt 13 = .ok (.bipush 24, 2) := by decide +kernel
theorem dX5_procAt_15 : decode cX5_procAt 15 = .ok (.if_icmp .ge 12, 3) := by decide +kernel
theorem dX5_procAt_18 : decode cX5_procAt 18 = .ok (.aload_n 0, 1) := by decide +kernel
theorem dX5_procAt_19 : decode cX5_procAt 19 = .ok (.getfield 20, 3) := by decide +kernel
theorem dX5_procAt_22 : decode cX5_procAt 22 = .ok (.iload_n 1, 1) := by decide +kernel
theorem dX5_procAt_23 : decode cX5_procAt 23 = .ok (.aaload, 1) := by decide +kernel
theorem dX5_procAt_24 : decode cX5_procAt 24 = .ok (.goto 4, 3) := by decide +kernel
theorem dX5_procAt_27 : decode cX5_procAt 27 = .ok (.aconst_null, 1) := by decide +kernel
theorem dX5_procAt_28 : decode cX5_procAt 28 = .ok (.areturn, 1) := by decide +kernel
theorem dX5_putMail_0 : decode cX5_putMail 0 = .ok (.aload_n 0, 1) := by decide +kernel
theorem dX5_putMail_1 : decode cX5_putMail 1 = .ok (.iload_n 1, 1) := by decide +kernel
theorem dX5_putMail_2 : decode cX5_putMail 2 = .ok (.invokevirtual 170, 3) := by decide +kernel
theorem dX5_putMail_5 : decode cX5_putMail 5 = .ok (.astore 4, 2) := by decide +kernel
theorem dX5_putMail_7 : decode cX5_putMail 7 = .ok (.aload 4, 2) := by decide +kernel
theorem dX5_putMail_9 : decode cX5_putMail 9 = .ok (.ifnull 24, 3) := by decide +kernel
theorem dX5_putMail_12 : decode cX5_putMail 12 = .ok (.aload 4, 2) := by decide +kernel
theorem dX5_putMail_14 : decode cX5_putMail 14 = .ok (.invokevirtual 174, 3) := by decide +kernel
theorem dX5_putMail_17 : decode cX5_putMail 17 = .ok (.ifCond .ne 16, 3) := by decide +kernel
theorem dX5_putMail_20 : decode cX5_putMail 20 = .ok (.aload 4, 2) := by decide +kernel
theorem dX5_putMail_22 : decode cX5_putMail 22 = .ok (.getfield 178, 3) := by decide +kernel
theorem dX5_putMail_25 : decode cX5_putMail 25 = .ok (.iload_n 2, 1) := by decide +kernel
theorem dX5_putMail_26 : decode cX5_putMail 26 = .ok (.iload_n 3, 1) := by decide +kernel
theorem dX5_putMail_27 : decode cX5_putMail 27 = .ok (.invokevirtual 182, 3) := by decide +kernel
theorem dX5_putMail_30 : decode cX5_putMail 30 = .ok (.ifCond .ne 15, 3) := by decide +kernel
theorem dX5_putMail_33 : decode cX5_putMail 33 = .ok (.aload_n 0, 1) := by decide +kernel
theorem dX5_putMail_34 : decode cX5_putMail 34 = .ok (.dup, 1) := by decide +kernel
theorem dX5_putMail_35 : decode cX5_putMail 35 = .ok (.getfield 73, 3) := by decide +kernel
theorem dX5_putMail_38 : decode cX5_putMail 38 = .ok (.iconst 1, 1) := by decide +kernel
theorem dX5_putMail_39 : decode cX5_putMail 39 = .ok (.iadd, 1) := by decide +kernel
theorem dX5_putMail_40 : decode cX5_putMail 40 = .ok (.putfield 73, 3) := by decide +kernel
theorem dX5_putMail_43 : decode cX5_putMail 43 = .ok (.iconst 0, 1) := by decide +kernel
theorem dX5_putMail_44 : decode cX5_putMail 44 = .ok (.ireturn, 1) := by decide +kernel
theorem dX5_putMail_45 : decode cX5_putMail 45 = .ok (.aload 4, 2) := by decide +kernel
theorem dX5_putMail_47 : decode cX5_putMail 47 = .ok (.iload_n 2, 1) := by decide +kernel
theorem dX5_putMail_48 : decode cX5_putMail 48 = .ok (.invokevirtual 188, 3) := by decide +kernel
theorem dX5_putMail_51 : decode cX5_putMail 51 = .ok (.ifCond .eq 9, 3) := by decide +kernel
theorem dX5_putMail_54 : decode cX5_putMail 54 = .ok (.aload_n 0, 1) := by decide +kernel
theorem dX5_putMail_55 : decode cX5_putMail 55 = .ok (.aload 4, 2) := by decide +kernel
theorem dX5_putMail_57 : decode cX5_putMail 57 = .ok (.invokevirtual 191, 3) := by decide +kernel
theorem dX5_putMail_60 : decode cX5_putMail 60 = .ok (.iconst 1, 1) := by decide +kernel
theorem dX5_putMail_61 : decode cX5_putMail 61 = .ok (.ireturn, 1) := by decide +kernel
theorem dX5_ready_0 : decode cX5_ready 0 = .ok (.aload_n 1, 1) := by decide +kernel
theorem dX5_ready_1 : decode cX5_ready 1 = .ok (.iconst 0, 1) := by decide +kernel
theorem dX5_ready_2 : decode cX5_ready 2 = .ok (.putfield 94, 3) := by decide +kernel
theorem dX5_ready_5 : decode cX5_ready 5 = .ok (.aload_n 1, 1) := by decide +kernel
theorem dX5_ready_6 : decode cX5_ready 6 = .ok (.iconst (-1), 1) := by decide +kernel
theorem dX5_ready_7 : decode cX5_ready 7 = .ok (.putfield 128, 3) := by decide +kernel
theorem dX5_ready_10 : decode cX5_ready 10 = .ok (.aload_n 1, 1) := by decide +kernel
theorem dX5_ready_11 : decode cX5_ready 11 = .ok (.aload_n 0, 1) := by decide +kernel
theorem dX5_ready_12 : decode cX5_ready 12 = .ok (.getfield 82, 3) := by decide +kernel
theorem dX5_ready_15 : decode cX5_ready 15 = .ok (.putfield 119, 3) := by decide +kernel
theorem dX5_ready_18 : decode cX5_ready 18 = .ok (.aload_n 0, 1) := by decide +kernel
theorem dX5_ready_19 : decode cX5_ready 19 = .ok (.dup, 1) := by decide +kernel
theorem dX5_ready_20 : decode cX5_ready 20 = .ok (.getfield 82, 3) := by decide +kernel
theorem dX5_ready_23 : decode cX5_ready 23 = .ok (.iconst 1, 1) := by decide +kernel
theorem dX5_ready_24 : decode cX5_ready 24 = .ok (.iadd, 1) := by decide +kernel
theorem dX5_ready_25 : decode cX5_ready 25 = .ok (.putfield 82, 3) := by decide +kernel
theorem dX5_ready_28 : decode cX5_ready 28 = .ok (.return_, 1) := by decide +kernel
theorem dX5_restartsAbove_0 : decode cX5_restartsAbove 0 = .ok (.iconst 0, 1) := by decide +kernel
theorem dX5_restartsAbove_1 : decode cX5_restartsAbove 1 = .ok (.istore_n 3, 1) := by decide +kernel
theorem dX5_restartsAbove_2 : decode cX5_restartsAbove 2 = .ok (.iconst 0, 1) := by decide +kernel
theorem dX5_restartsAbove_3 : decode cX5_restartsAbove 3 = .ok (.istore 4, 2) := by decide +kernel
theorem dX5_restartsAbove_5 : decode cX5_restartsAbove 5 = .ok (.iload 4, 2) := by decide +kernel
theorem dX5_restartsAbove_7 : decode cX5_restartsAbove 7 = .ok (.aload_n 0, 1) := by decide +kernel
theorem dX5_restartsAbove_8 : decode cX5_restartsAbove 8 = .ok (.getfield 91, 3) := by decide +kernel
theorem dX5_restartsAbove_11 : decode cX5_restartsAbove 11 = .ok (.if_icmp .ge 44, 3) := by decide +kernel
theorem dX5_restartsAbove_14 : decode cX5_restartsAbove 14 = .ok (.iload 4, 2) := by decide +kernel
theorem dX5_restartsAbove_16 : decode cX5_restartsAbove 16 = .ok (.bipush 24, 2) := by decide +kernel
theorem dX5_restartsAbove_18 : decode cX5_restartsAbove 18 = .ok (.if_icmp .ge 37, 3) := by decide +kernel
theorem dX5_restartsAbove_21 : decode cX5_restartsAbove 21 = .ok (.aload_n 0, 1) := by decide +kernel
theorem dX5_restartsAbove_22 : decode cX5_restartsAbove 22 = .ok (.getfield 27, 3) := by decide +kernel
theorem dX5_restartsAbove_25 : decode cX5_restartsAbove 25 = .ok (.iload 4, 2) := by decide +kernel
theorem dX5_restartsAbove_27 : decode cX5_restartsAbove 27 = .ok (.iaload, 1) := by decide +kernel
theorem dX5_restartsAbove_28 : decode cX5_restartsAbove 28 = .ok (.aload_n 1, 1) := by decide +kernel
theorem dX5_restartsAbove_29 : decode cX5_restartsAbove 29 = .ok (.getfield 146, 3) := by decide +kernel
theorem dX5_restartsAbove_32 : decode cX5_restartsAbove 32 = .ok (.if_icmp .ne 17, 3) := by decide +kernel
theorem dX5_restartsAbove_35 : decode cX5_restartsAbove 35 = .ok (.aload_n 0, 1) := by decide +kernel
theorem dX5_restartsAbove_36 : decode cX5_restartsAbove 36 = .ok (.getfield 30, 3) := by decide +kernel
theorem dX5_restartsAbove_39 : decode cX5_restartsAbove 39 = .ok (.iload 4, 2) := by decide +kernel
theorem dX5_restartsAbove_41 : decode cX5_restartsAbove 41 = .ok (.iaload, 1) := by decide +kernel
theorem dX5_restartsAbove_42 : decode cX5_restartsAbove 42 = .ok (.iload_n 2, 1) := by decide +kernel
theorem dX5_restartsAbove_43 : decode cX5_restartsAbove 43 = .ok (.if_icmp .le 6, 3) := by decide +kernel
theorem dX5_restartsAbove_46 : decode cX5_restartsAbove 46 = .ok (.iinc 3 1, 3) := by decide +kernel
theorem dX5_restartsAbove_49 : decode cX5_restartsAbove 49 = .ok (.iinc 4 1, 3) := by decide +kernel
theorem dX5_restartsAbove_52 : decode cX5_restartsAbove 52 = .ok (.goto (-47), 3) := by decide +kernel
theorem dX5_restartsAbove_55 : decode cX5_restartsAbove 55 = .ok (.iload_n 3, 1) := by decide +kernel
theorem dX5_restartsAbove_56 : decode cX5_restartsAbove 56 = .ok (.ireturn, 1) := by decide +kernel
theorem dX5_restartsEver_0 : decode cX5_restartsEver 0 = .ok (.aload_n 0, 1) := by decide +kernel
theorem dX5_restartsEver_1 : decode cX5_restartsEver 1 = .ok (.aload_n 1, 1) := by decide +kernel
theorem dX5_restartsEver_2 : decode cX5_restartsEver 2 = .ok (.iconst (-1), 1) := by decide +kernel
theorem dX5_restartsEver_3 : decode cX5_restartsEver 3 = .ok (.invokevirtual 271, 3) := by decide +kernel
theorem dX5_restartsEver_6 : decode cX5_restartsEver 6 = .ok (.ireturn, 1) := by decide +kernel
theorem dX5_restartsLately_0 : decode cX5_restartsLately 0 = .ok (.aload_n 0, 1) := by decide +kernel
theorem dX5_restartsLately_1 : decode cX5_restartsLately 1 = .ok (.getfield 37, 3) := by decide +kernel
theorem dX5_restartsLately_4 : decode cX5_restartsLately 4 = .ok (.aload_n 1, 1) := by decide +kernel
theorem dX5_restartsLately_5 : decode cX5_restartsLately 5 = .ok (.getfield 122, 3) := by decide +kernel
theorem dX5_restartsLately_8 : decode cX5_restartsLately 8 = .ok (.invokevirtual 249, 3) := by decide +kernel
theorem dX5_restartsLately_11 : decode cX5_restartsLately 11 = .ok (.ifCond .eq 28, 3) := by decide +kernel
theorem dX5_restartsLately_14 : decode cX5_restartsLately 14 = .ok (.aload_n 0, 1) := by decide +kernel
theorem dX5_restartsLately_15 : decode cX5_restartsLately 15 = .ok (.aload_n 1, 1) := by decide +kernel
theorem dX5_restartsLately_16 : decode cX5_restartsLately 16 = .ok (.aload_n 0, 1) := by decide +kernel
theorem dX5_restartsLately_17 : decode cX5_restartsLately 17 = .ok (.getfield 70, 3) := by decide +kernel
theorem dX5_restartsLately_20 : decode cX5_restartsLately 20 = .ok (.aload_n 0, 1) := by decide +kernel
theorem dX5_restartsLately_21 : decode cX5_restartsLately 21 = .ok (.getfield 37, 3) := by decide +kernel
theorem dX5_restartsLately_24 : decode cX5_restartsLately 24 = .ok (.getfield 275, 3) := by decide +kernel
theorem dX5_restartsLately_27 : decode cX5_restartsLately 27 = .ok (.aload_n 1, 1) := by decide +kernel
theorem dX5_restartsLately_28 : decode cX5_restartsLately 28 = .ok (.getfield 122, 3) := by decide +kernel
theorem dX5_restartsLately_31 : decode cX5_restartsLately 31 = .ok (.iaload, 1) := by decide +kernel
theorem dX5_restartsLately_32 : decode cX5_restartsLately 32 = .ok (.isub, 1) := by decide +kernel
theorem dX5_restartsLately_33 : decode cX5_restartsLately 33 = .ok (.invokevirtual 271, 3) := by decide +kernel
theorem dX5_restartsLately_36 : decode cX5_restartsLately 36 = .ok (.goto 4, 3) := by decide +kernel
theorem dX5_restartsLately_39 : decode cX5_restartsLately 39 = .ok (.iconst 0, 1) := by decide +kernel
theorem dX5_restartsLately_40 : decode cX5_restartsLately 40 = .ok (.ireturn, 1) := by decide +kernel
theorem dX5_runners_0 : decode cX5_runners 0 = .ok (.iconst 0, 1) := by decide +kernel
theorem dX5_runners_1 : decode cX5_runners 1 = .ok (.istore 4, 2) := by decide +kernel
theorem dX5_runners_3 : decode cX5_runners 3 = .ok (.iconst 0, 1) := by decide +kernel
theorem dX5_runners_4 : decode cX5_runners 4 = .ok (.istore 5, 2) := by decide +kernel
theorem dX5_runners_6 : decode cX5_runners 6 = .ok (.iload 5, 2) := by decide +kernel
theorem dX5_runners_8 : decode cX5_runners 8 = .ok (.aload_n 0, 1) := by decide +kernel
theorem dX5_runners_9 : decode cX5_runners 9 = .ok (.getfield 56, 3) := by decide +kernel
theorem dX5_runners_12 : decode cX5_runners 12 = .ok (.if_icmp .ge 65, 3) := by decide +kernel
theorem dX5_runners_15 : decode cX5_runners 15 = .ok (.iload 5, 2) := by decide +kernel
theorem dX5_runners_17 : decode cX5_runners 17 = .ok (.bipush 24, 2) := by decide +kernel
theorem dX5_runners_19 : decode cX5_runners 19 = .ok (.if_icmp .ge 58, 3) := by decide +kernel
theorem dX5_runners_22 : decode cX5_runners 22 = .ok (.aload_n 0, 1) := by decide +kernel
theorem dX5_runners_23 : decode cX5_runners 23 = .ok (.getfield 20, 3) := by decide +kernel
theorem dX5_runners_26 : decode cX5_runners 26 = .ok (.iload 5, 2) := by decide +kernel
theorem dX5_runners_28 : decode cX5_runners 28 = .ok (.aaload, 1) := by decide +kernel
theorem dX5_runners_29 : decode cX5_runners 29 = .ok (.astore 6, 2) := by decide +kernel
theorem dX5_runners_31 : decode cX5_runners 31 = .ok (.aload 6, 2) := by decide +kernel
theorem dX5_runners_33 : decode cX5_runners 33 = .ok (.getfield 94, 3) := by decide +kernel
theorem dX5_runners_36 : decode cX5_runners 36 = .ok (.iconst 2, 1) := by decide +kernel
theorem dX5_runners_37 : decode cX5_runners 37 = .ok (.if_icmp .eq 34, 3) := by decide +kernel
theorem dX5_runners_40 : decode cX5_runners 40 = .ok (.aload 6, 2) := by decide +kernel
theorem dX5_runners_42 : decode cX5_runners 42 = .ok (.getfield 110, 3) := by decide +kernel
theorem dX5_runners_45 : decode cX5_runners 45 = .ok (.iload_n 1, 1) := by decide +kernel
theorem dX5_runners_46 : decode cX5_runners 46 = .ok (.if_icmp .ne 25, 3) := by decide +kernel
theorem dX5_runners_49 : decode cX5_runners 49 = .ok (.aload 6, 2) := by decide +kernel
theorem dX5_runners_51 : decode cX5_runners 51 = .ok (.getfield 113, 3) := by decide +kernel
theorem dX5_runners_54 : decode cX5_runners 54 = .ok (.iload_n 2, 1) := by decide +kernel
theorem dX5_runners_55 : decode cX5_runners 55 = .ok (.iload_n 3, 1) := by decide +kernel
theorem dX5_runners_56 : decode cX5_runners 56 = .ok (.invokestatic 103, 3) := by decide +kernel
theorem dX5_runners_59 : decode cX5_runners 59 = .ok (.ifCond .eq 12, 3) := by decide +kernel
theorem dX5_runners_62 : decode cX5_runners 62 = .ok (.iload 4, 2) := by decide +kernel
theorem dX5_runners_64 : decode cX5_runners 64 = .ok (.iconst 1, 1) := by decide +kernel
theorem dX5_runners_65 : decode cX5_runners 65 = .ok (.iload 5, 2) := by decide +kernel
theorem dX5_runners_67 : decode cX5_runners 67 = .ok (.ishl, 1) := by decide +kernel
theorem dX5_runners_68 : decode cX5_runners 68 = .ok (.ior, 1) := by decide +kernel
theorem dX5_runners_69 : decode cX5_runners 69 = .ok (.istore 4, 2) := by decide +kernel
theorem dX5_runners_71 : decode cX5_runners 71 = .ok (.iinc 5 1, 3) := by decide +kernel
theorem dX5_runners_74 : decode cX5_runners 74 = .ok (.goto (-68), 3) := by decide +kernel
theorem dX5_runners_77 : decode cX5_runners 77 = .ok (.iload 4, 2) := by decide +kernel
theorem dX5_runners_79 : decode cX5_runners 79 = .ok (.ireturn, 1) := by decide +kernel
theorem dX5_settle_0 : decode cX5_settle 0 = .ok (.aload_n 0, 1) := by decide +kernel
theorem dX5_settle_1 : decode cX5_settle 1 = .ok (.getfield 88, 3) := by decide +kernel
theorem dX5_settle_4 : decode cX5_settle 4 = .ok (.aload_n 0, 1) := by decide +kernel
theorem dX5_settle_5 : decode cX5_settle 5 = .ok (.getfield 85, 3) := by decide +kernel
theorem dX5_settle_8 : decode cX5_settle 8 = .ok (.if_icmp .ge 124, 3) := by decide +kernel
theorem dX5_settle_11 : decode cX5_settle 11 = .ok (.aload_n 0, 1) := by decide +kernel
theorem dX5_settle_12 : decode cX5_settle 12 = .ok (.getfield 88, 3) := by decide +kernel
theorem dX5_settle_15 : decode cX5_settle 15 = .ok (.bipush 24, 2) := by decide +kernel
theorem dX5_settle_17 : decode cX5_settle 17 = .ok (.if_icmp .ge 115, 3) := by decide +kernel
theorem dX5_settle_20 : decode cX5_settle 20 = .ok (.aload_n 0, 1) := by decide +kernel
theorem dX5_settle_21 : decode cX5_settle 21 = .ok (.aload_n 0, 1) := by decide +kernel
theorem dX5_settle_22 : decode cX5_settle 22 = .ok (.getfield 24, 3) := by decide +kernel
theorem dX5_settle_25 : decode cX5_settle 25 = .ok (.aload_n 0, 1) := by decide +kernel
theorem dX5_settle_26 : decode cX5_settle 26 = .ok (.getfield 88, 3) := by decide +kernel
theorem dX5_settle_29 : decode cX5_settle 29 = .ok (.iaload, 1) := by decide +kernel
theorem dX5_settle_30 : decode cX5_settle 30 = .ok (.invokevirtual 205, 3) := by decide +kernel
theorem dX5_settle_33 : decode cX5_settle 33 = .ok (.astore_n 1, 1) := by decide +kernel
theorem dX5_settle_34 : decode cX5_settle 34 = .ok (.aload_n 1, 1) := by decide +kernel
theorem dX5_settle_35 : decode cX5_settle 35 = .ok (.ifnonnull 6, 3) := by decide +kernel
theorem dX5_settle_38 : decode cX5_settle 38 = .ok (.goto 81, 3) := by decide +kernel
theorem dX5_settle_41 : decode cX5_settle 41 = .ok (.aload_n 1, 1) := by decide +kernel
theorem dX5_settle_42 : decode cX5_settle 42 = .ok (.invokevirtual 174, 3) := by decide +kernel
theorem dX5_settle_45 : decode cX5_settle 45 = .ok (.ifCond .eq 10, 3) := by decide +kernel
theorem dX5_settle_48 : decode cX5_settle 48 = .ok (.aload_n 0, 1) := by decide +kernel
theorem dX5_settle_49 : decode cX5_settle 49 = .ok (.aload_n 1, 1) := by decide +kernel
theorem dX5_settle_50 : decode cX5_settle 50 = .ok (.iconst 0, 1) := by decide +kernel
theorem dX5_settle_51 : decode cX5_settle 51 = .ok (.iconst (-1), 1) := by decide +kernel
theorem dX5_settle_52 : decode cX5_settle 52 = .ok (.invokevirtual 208, 3) := by decide +kernel
theorem dX5_settle_55 : decode cX5_settle 55 = .ok (.aload_n 0, 1) := by decide +kernel
theorem dX5_settle_56 : decode cX5_settle 56 = .ok (.aload_n 1, 1) := by decide +kernel
theorem dX5_settle_57 : decode cX5_settle 57 = .ok (.invokevirtual 212, 3) := by decide +kernel
theorem dX5_settle_60 : decode cX5_settle 60 = .ok (.iconst 0, 1) := by decide +kernel
theorem dX5_settle_61 : decode cX5_settle 61 = .ok (.istore_n 2, 1) := by decide +kernel
theorem dX5_settle_62 : decode cX5_settle 62 = .ok (.iload_n 2, 1) := by decide +kernel
theorem dX5_settle_63 : decode cX5_settle 63 = .ok (.aload_n 0, 1) := by decide +kernel
theorem dX5_settle_64 : decode cX5_settle 64 = .ok (.getfield 56, 3) := by decide +kernel
theorem dX5_settle_67 : decode cX5_settle 67 = .ok (.if_icmp .ge 47, 3) := by decide +kernel
theorem dX5_settle_70 : decode cX5_settle 70 = .ok (.iload_n 2, 1) := by decide +kernel
theorem dX5_settle_71 : decode cX5_settle 71 = .ok (.bipush 24, 2) := by decide +kernel
theorem dX5_settle_73 : decode cX5_settle 73 = .ok (.if_icmp .ge 41, 3) := by decide +kernel
theorem dX5_settle_76 : decode cX5_settle 76 = .ok (.aload_n 1, 1) := by decide +kernel
theorem dX5_settle_77 : decode cX5_settle 77 = .ok (.iload_n 2, 1) := by decide +kernel
theorem dX5_settle_78 : decode cX5_settle 78 = .ok (.invokevirtual 215, 3) := by decide +kernel
theorem dX5_settle_81 : decode cX5_settle 81 = .ok (.ifCond .eq 27, 3) := by decide +kernel
theorem dX5_settle_84 : decode cX5_settle 84 = .ok (.aload_n 0, 1) := by decide +kernel
theorem dX5_settle_85 : decode cX5_settle 85 = .ok (.aload_n 1, 1) := by decide +kernel
theorem dX5_settle_86 : decode cX5_settle 86 = .ok (.aload_n 0, 1) := by decide +kernel
theorem dX5_settle_87 : decode cX5_settle 87 = .ok (.getfield 20, 3) := by decide +kernel
theorem dX5_settle_90 : decode cX5_settle 90 = .ok (.iload_n 2, 1) := by decide +kernel
theorem dX5_settle_91 : decode cX5_settle 91 = .ok (.aaload, 1) := by decide +kernel
theorem dX5_settle_92 : decode cX5_settle 92 = .ok (.invokevirtual 218, 3) := by decide +kernel
theorem dX5_settle_95 : decode cX5_settle 95 = .ok (.aload_n 0, 1) := by decide +kernel
theorem dX5_settle_96 : decode cX5_settle 96 = .ok (.iload_n 2, 1) := by decide +kernel
theorem dX5_settle_97 : decode cX5_settle 97 = .ok (.aload_n 1, 1) := by decide +kernel
theorem dX5_settle_98 : decode cX5_settle 98 = .ok (.getfield 146, 3) := by decide +kernel
theorem dX5_settle_101 : decode cX5_settle 101 = .ok (.aload_n 1, 1) := by decide +kernel
theorem dX5_settle_102 : decode cX5_settle 102 = .ok (.getfield 201, 3) := by decide +kernel
theorem dX5_settle_105 : decode cX5_settle 105 = .ok (.invokevirtual 222, 3) := by decide +kernel
theorem dX5_settle_108 : decode cX5_settle 108 = .ok (.iinc 2 1, 3) := by decide +kernel
theorem dX5_settle_111 : decode cX5_settle 111 = .ok (.goto (-49), 3) := by decide +kernel
theorem dX5_settle_114 : decode cX5_settle 114 = .ok (.aload_n 0, 1) := by decide +kernel
theorem dX5_settle_115 : decode cX5_settle 115 = .ok (.aload_n 1, 1) := by decide +kernel
theorem dX5_settle_116 : decode cX5_settle 116 = .ok (.invokevirtual 226, 3) := by decide +kernel
theorem dX5_settle_119 : decode cX5_settle 119 = .ok (.aload_n 0, 1) := by decide +kernel
theorem dX5_settle_120 : decode cX5_settle 120 = .ok (.dup, 1) := by decide +kernel
theorem dX5_settle_121 : decode cX5_settle 121 = .ok (.getfield 88, 3) := by decide +kernel
theorem dX5_settle_124 : decode cX5_settle 124 = .ok (.iconst 1, 1) := by decide +kernel
theorem dX5_settle_125 : decode cX5_settle 125 = .ok (.iadd, 1) := by decide +kernel
theorem dX5_settle_126 : decode cX5_settle 126 = .ok (.putfield 88, 3) := by decide +kernel
theorem dX5_settle_129 : decode cX5_settle 129 = .ok (.goto (-129), 3) := by decide +kernel
theorem dX5_settle_132 : decode cX5_settle 132 = .ok (.return_, 1) := by decide +kernel
theorem dX5_signalTo_0 : decode cX5_signalTo 0 = .ok (.aload_n 0, 1) := by decide +kernel
theorem dX5_signalTo_1 : decode cX5_signalTo 1 = .ok (.iload_n 1, 1) := by decide +kernel
theorem dX5_signalTo_2 : decode cX5_signalTo 2 = .ok (.invokevirtual 170, 3) := by decide +kernel
theorem dX5_signalTo_5 : decode cX5_signalTo 5 = .ok (.astore 4, 2) := by decide +kernel
theorem dX5_signalTo_7 : decode cX5_signalTo 7 = .ok (.aload 4, 2) := by decide +kernel
theorem dX5_signalTo_9 : decode cX5_signalTo 9 = .ok (.ifnonnull 4, 3) := by decide +kernel
theorem dX5_signalTo_12 : decode cX5_signalTo 12 = .ok (.return_, 1) := by decide +kernel
theorem dX5_signalTo_13 : decode cX5_signalTo 13 = .ok (.iload_n 3, 1) := by decide +kernel
theorem dX5_signalTo_14 : decode cX5_signalTo 14 = .ok (.bipush 9, 2) := by decide +kernel
theorem dX5_signalTo_16 : decode cX5_signalTo 16 = .ok (.if_icmp .ne 14, 3) := by decide +kernel
theorem dX5_signalTo_19 : decode cX5_signalTo 19 = .ok (.aload_n 0, 1) := by decide +kernel
theorem dX5_signalTo_20 : decode cX5_signalTo 20 = .ok (.aload 4, 2) := by decide +kernel
theorem dX5_signalTo_22 : decode cX5_signalTo 22 = .ok (.bipush 8, 2) := by decide +kernel
theorem dX5_signalTo_24 : decode cX5_signalTo 24 = .ok (.invokevirtual 156, 3) := by decide +kernel
theorem dX5_signalTo_27 : decode cX5_signalTo 27 = .ok (.goto 47, 3) := by decide +kernel
theorem dX5_signalTo_30 : decode cX5_signalTo 30 = .ok (.aload 4, 2) := by decide +kernel
theorem dX5_signalTo_32 : decode cX5_signalTo 32 = .ok (.invokevirtual 174, 3) := by decide +kernel
theorem dX5_signalTo_35 : decode cX5_signalTo 35 = .ok (.ifCond .eq 4, 3) := by decide +kernel
theorem dX5_signalTo_38 : decode cX5_signalTo 38 = .ok (.return_, 1) := by decide +kernel
theorem dX5_signalTo_39 : decode cX5_signalTo 39 = .ok (.aload 4, 2) := by decide +kernel
theorem dX5_signalTo_41 : decode cX5_signalTo 41 = .ok (.getfield 194, 3) := by decide +kernel
theorem dX5_signalTo_44 : decode cX5_signalTo 44 = .ok (.ifCond .eq 19, 3) := by decide +kernel
theorem dX5_signalTo_47 : decode cX5_signalTo 47 = .ok (.aload_n 0, 1) := by decide +kernel
theorem dX5_signalTo_48 : decode cX5_signalTo 48 = .ok (.iload_n 1, 1) := by decide +kernel
theorem dX5_signalTo_49 : decode cX5_signalTo 49 = .ok (.iconst 3, 1) := by decide +kernel
theorem dX5_signalTo_50 : decode cX5_signalTo 50 = .ok (.bipush 10, 2) := by decide +kernel
theorem dX5_signalTo_52 : decode cX5_signalTo 52 = .ok (.iload_n 2, 1) := by decide +kernel
theorem dX5_signalTo_53 : decode cX5_signalTo 53 = .ok (.imul, 1) := by decide +kernel
theorem dX5_signalTo_54 : decode cX5_signalTo 54 = .ok (.iload_n 3, 1) := by decide +kernel
theorem dX5_signalTo_55 : decode cX5_signalTo 55 = .ok (.iadd, 1) := by decide +kernel
theorem dX5_signalTo_56 : decode cX5_signalTo 56 = .ok (.invokevirtual 198, 3) := by decide +kernel
theorem dX5_signalTo_59 : decode cX5_signalTo 59 = .ok (.pop, 1) := by decide +kernel
theorem dX5_signalTo_60 : decode cX5_signalTo 60 = .ok (.goto 14, 3) := by decide +kernel
theorem dX5_signalTo_63 : decode cX5_signalTo 63 = .ok (.iload_n 3, 1) := by decide +kernel
theorem dX5_signalTo_64 : decode cX5_signalTo 64 = .ok (.ifCond .eq 10, 3) := by decide +kernel
theorem dX5_signalTo_67 : decode cX5_signalTo 67 = .ok (.aload_n 0, 1) := by decide +kernel
theorem dX5_signalTo_68 : decode cX5_signalTo 68 = .ok (.aload 4, 2) := by decide +kernel
theorem dX5_signalTo_70 : decode cX5_signalTo 70 = .ok (.iload_n 3, 1) := by decide +kernel
theorem dX5_signalTo_71 : decode cX5_signalTo 71 = .ok (.invokevirtual 156, 3) := by decide +kernel
theorem dX5_signalTo_74 : decode cX5_signalTo 74 = .ok (.return_, 1) := by decide +kernel
theorem dX5_spawn_0 : decode cX5_spawn 0 = .ok (.aload_n 0, 1) := by decide +kernel
theorem dX5_spawn_1 : decode cX5_spawn 1 = .ok (.iload_n 2, 1) := by decide +kernel
theorem dX5_spawn_2 : decode cX5_spawn 2 = .ok (.iconst (-1), 1) := by decide +kernel
theorem dX5_spawn_3 : decode cX5_spawn 3 = .ok (.invokevirtual 153, 3) := by decide +kernel
theorem dX5_spawn_6 : decode cX5_spawn 6 = .ok (.astore 4, 2) := by decide +kernel
theorem dX5_spawn_8 : decode cX5_spawn 8 = .ok (.aload 4, 2) := by decide +kernel
theorem dX5_spawn_10 : decode cX5_spawn 10 = .ok (.ifnonnull 10, 3) := by decide +kernel
theorem dX5_spawn_13 : decode cX5_spawn 13 = .ok (.aload_n 0, 1) := by decide +kernel
theorem dX5_spawn_14 : decode cX5_spawn 14 = .ok (.aload_n 1, 1) := by decide +kernel
theorem dX5_spawn_15 : decode cX5_spawn 15 = .ok (.iconst 5, 1) := by decide +kernel
theorem dX5_spawn_16 : decode cX5_spawn 16 = .ok (.invokevirtual 156, 3) := by decide +kernel
theorem dX5_spawn_19 : decode cX5_spawn 19 = .ok (.return_, 1) := by decide +kernel
theorem dX5_spawn_20 : decode cX5_spawn 20 = .ok (.iload_n 3, 1) := by decide +kernel
theorem dX5_spawn_21 : decode cX5_spawn 21 = .ok (.ifCond .eq 10, 3) := by decide +kernel
theorem dX5_spawn_24 : decode cX5_spawn 24 = .ok (.aload_n 0, 1) := by decide +kernel
theorem dX5_spawn_25 : decode cX5_spawn 25 = .ok (.aload_n 1, 1) := by decide +kernel
theorem dX5_spawn_26 : decode cX5_spawn 26 = .ok (.aload 4, 2) := by decide +kernel
theorem dX5_spawn_28 : decode cX5_spawn 28 = .ok (.invokevirtual 333, 3) := by decide +kernel
theorem dX5_spawn_31 : decode cX5_spawn 31 = .ok (.aload_n 1, 1) := by decide +kernel
theorem dX5_spawn_32 : decode cX5_spawn 32 = .ok (.aload 4, 2) := by decide +kernel
theorem dX5_spawn_34 : decode cX5_spawn 34 = .ok (.getfield 146, 3) := by decide +kernel
theorem dX5_spawn_37 : decode cX5_spawn 37 = .ok (.putfield 307, 3) := by decide +kernel
theorem dX5_spawn_40 : decode cX5_spawn 40 = .ok (.return_, 1) := by decide +kernel
theorem dX5_startPlaces_0 : decode cX5_startPlaces 0 = .ok (.iload_n 2, 1) := by decide +kernel
theorem dX5_startPlaces_1 : decode cX5_startPlaces 1 = .ok (.istore 5, 2) := by decide +kernel
theorem dX5_startPlaces_3 : decode cX5_startPlaces 3 = .ok (.iload 5, 2) := by decide +kernel
theorem dX5_startPlaces_5 : decode cX5_startPlaces 5 = .ok (.iload_n 3, 1) := by decide +kernel
theorem dX5_startPlaces_6 : decode cX5_startPlaces 6 = .ok (.if_icmp .ge 149, 3) := by decide +kernel
theorem dX5_startPlaces_9 : decode cX5_startPlaces 9 = .ok (.iload 5, 2) := by decide +kernel
theorem dX5_startPlaces_11 : decode cX5_startPlaces 11 = .ok (.iconst 4, 1) := by decide +kernel
theorem dX5_startPlaces_12 : decode cX5_startPlaces 12 = .ok (.if_icmp .ge 143, 3) := by decide +kernel
theorem dX5_startPlaces_15 : decode cX5_startPlaces 15 = .ok (.iload 4, 2) := by decide +kernel
theorem dX5_startPlaces_17 : decode cX5_startPlaces 17 = .ok (.iconst 5, 1) := by decide +kernel
theorem dX5_startPlaces_18 : decode cX5_startPlaces 18 = .ok (.if_icmp .ge 137, 3) := by decide +kernel
theorem dX5_startPlaces_21 : decode cX5_startPlaces 21 = .ok (.aload_n 0, 1) := by decide +kernel
theorem dX5_startPlaces_22 : decode cX5_startPlaces 22 = .ok (.getfield 37, 3) := by decide +kernel
theorem dX5_startPlaces_25 : decode cX5_startPlaces 25 = .ok (.aload_n 1, 1) := by decide +kernel
theorem dX5_startPlaces_26 : decode cX5_startPlaces 26 = .ok (.getfield 122, 3) := by decide +kernel
theorem dX5_startPlaces_29 : decode cX5_startPlaces 29 = .ok (.iload 5, 2) := by decide +kernel
theorem dX5_startPlaces_31 : decode cX5_startPlaces 31 = .ok (.invokevirtual 131, 3) := by decide +kernel
theorem dX5_startPlaces_34 : decode cX5_startPlaces 34 = .ok (.istore 6, 2) := by decide +kernel
theorem dX5_startPlaces_36 : decode cX5_startPlaces 36 = .ok (.iload 6, 2) := by decide +kernel
theorem dX5_startPlaces_38 : decode cX5_startPlaces 38 = .ok (.iconst (-1), 1) := by decide +kernel
theorem dX5_startPlaces_39 : decode cX5_startPlaces 39 = .ok (.if_icmp .eq 110, 3) := by decide +kernel
theorem dX5_startPlaces_42 : decode cX5_startPlaces 42 = .ok (.aload_n 1, 1) := by decide +kernel
theorem dX5_startPlaces_43 : decode cX5_startPlaces 43 = .ok (.iload 5, 2) := by decide +kernel
theorem dX5_startPlaces_45 : decode cX5_startPlaces 45 = .ok (.invokevirtual 136, 3) := by decide +kernel
theorem dX5_startPlaces_48 : decode cX5_startPlaces 48 = .ok (.ifCond .eq 6, 3) := by decide +kernel
theorem dX5_startPlaces_51 : decode cX5_startPlaces 51 = .ok (.goto 98, 3) := by decide +kernel
theorem dX5_startPlaces_54 : decode cX5_startPlaces 54 = .ok (.aload_n 0, 1) := by decide +kernel
theorem dX5_startPlaces_55 : decode cX5_startPlaces 55 = .ok (.getfield 37, 3) := by decide +kernel
theorem dX5_startPlaces_58 : decode cX5_startPlaces 58 = .ok (.getfield 139, 3) := by decide +kernel
theorem dX5_startPlaces_61 : decode cX5_startPlaces 61 = .ok (.iload 6, 2) := by decide +kernel
theorem dX5_startPlaces_63 : decode cX5_startPlaces 63 = .ok (.baload, 1) := by decide +kernel
theorem dX5_startPlaces_64 : decode cX5_startPlaces 64 = .ok (.istore 7, 2) := by decide +kernel
theorem dX5_startPlaces_66 : decode cX5_startPlaces 66 = .ok (.aload_n 0, 1) := by decide +kernel
theorem dX5_startPlaces_67 : decode cX5_startPlaces 67 = .ok (.getfield 37, 3) := by decide +kernel
theorem dX5_startPlaces_70 : decode cX5_startPlaces 70 = .ok (.getfield 143, 3) := by decide +kernel
theorem dX5_startPlaces_73 : decode cX5_startPlaces 73 = .ok (.iload 6, 2) := by decide +kernel
theorem dX5_startPlaces_75 : decode cX5_startPlaces 75 = .ok (.iaload, 1) := by decide +kernel
theorem dX5_startPlaces_76 : decode cX5_startPlaces 76 = .ok (.istore 8, 2) := by decide +kernel
theorem dX5_startPlaces_78 : decode cX5_startPlaces 78 = .ok (.iload 7, 2) := by decide +kernel
theorem dX5_startPlaces_80 : decode cX5_startPlaces 80 = .ok (.ifCond .eq 16, 3) := by decide +kernel
theorem dX5_startPlaces_83 : decode cX5_startPlaces 83 = .ok (.aload_n 0, 1) := by decide +kernel
theorem dX5_startPlaces_84 : decode cX5_startPlaces 84 = .ok (.iload 8, 2) := by decide +kernel
theorem dX5_startPlaces_86 : decode cX5_startPlaces 86 = .ok (.aload_n 1, 1) := by decide +kernel
theorem dX5_startPlaces_87 : decode cX5_startPlaces 87 = .ok (.getfield 146, 3) := by decide +kernel
theorem dX5_startPlaces_90 : decode cX5_startPlaces 90 = .ok (.invokevirtual 149, 3) := by decide +kernel
theorem dX5_startPlaces_93 : decode cX5_startPlaces 93 = .ok (.goto 13, 3) := by decide +kernel
theorem dX5_startPlaces_96 : decode cX5_startPlaces 96 = .ok (.aload_n 0, 1) := by decide +kernel
theorem dX5_startPlaces_97 : decode cX5_startPlaces 97 = .ok (.iload 8, 2) := by decide +kernel
theorem dX5_startPlaces_99 : decode cX5_startPlaces 99 = .ok (.aload_n 1, 1) := by decide +kernel
theorem dX5_startPlaces_100 : decode cX5_startPlaces 100 = .ok (.getfield 146, 3) := by decide +kernel
theorem dX5_startPlaces_103 : decode cX5_startPlaces 103 = .ok (.invokevirtual 153, 3) := by decide +kernel
theorem dX5_startPlaces_106 : decode cX5_startPlaces 106 = .ok (.astore 9, 2) := by decide +kernel
theorem dX5_startPlaces_108 : decode cX5_startPlaces 108 = .ok (.aload 9, 2) := by decide +kernel
theorem dX5_startPlaces_110 : decode cX5_startPlaces 110 = .ok (.ifnonnull 10, 3) := by decide +kernel
theorem dX5_startPlaces_113 : decode cX5_startPlaces 113 = .ok (.aload_n 0, 1) := by decide +kernel
theorem dX5_startPlaces_114 : decode cX5_startPlaces 114 = .ok (.aload_n 1, 1) := by decide +kernel
theorem dX5_startPlaces_115 : decode cX5_startPlaces 115 = .ok (.iconst 5, 1) := by decide +kernel
theorem dX5_startPlaces_116 : decode cX5_startPlaces 116 = .ok (.invokevirtual 156, 3) := by decide +kernel
theorem dX5_startPlaces_119 : decode cX5_startPlaces 119 = .ok (.return_, 1) := by decide +kernel
theorem dX5_startPlaces_120 : decode cX5_startPlaces 120 = .ok (.aload_n 1, 1) := by decide +kernel
theorem dX5_startPlaces_121 : decode cX5_startPlaces 121 = .ok (.getfield 160, 3) := by decide +kernel
theorem dX5_startPlaces_124 : decode cX5_startPlaces 124 = .ok (.iload 5, 2) := by decide +kernel
theorem dX5_startPlaces_126 : decode cX5_startPlaces 126 = .ok (.aload 9, 2) := by decide +kernel
theorem dX5_startPlaces_128 : decode cX5_startPlaces 128 = .ok (.getfield 146, 3) := by decide +kernel
theorem dX5_startPlaces_131 : decode cX5_startPlaces 131 = .ok (.iastore, 1) := by decide +kernel
theorem dX5_startPlaces_132 : decode cX5_startPlaces 132 = .ok (.iload 7, 2) := by decide +kernel
theorem dX5_startPlaces_134 : decode cX5_startPlaces 134 = .ok (.ifCond .eq 15, 3) := by decide +kernel
theorem dX5_startPlaces_137 : decode cX5_startPlaces 137 = .ok (.aload_n 0, 1) := by decide +kernel
theorem dX5_startPlaces_138 : decode cX5_startPlaces 138 = .ok (.aload 9, 2) := by decide +kernel
theorem dX5_startPlaces_140 : decode cX5_startPlaces 140 = .ok (.iconst 0, 1) := by decide +kernel
theorem dX5_startPlaces_141 : decode cX5_startPlaces 141 = .ok (.iconst 4, 1) := by decide +kernel
theorem dX5_startPlaces_142 : decode cX5_startPlaces 142 = .ok (.iload 4, 2) := by decide +kernel
theorem dX5_startPlaces_144 : decode cX5_startPlaces 144 = .ok (.iconst 1, 1) := by decide +kernel
theorem dX5_startPlaces_145 : decode cX5_startPlaces 145 = .ok (.iadd, 1) := by decide +kernel
theorem dX5_startPlaces_146 : decode cX5_startPlaces 146 = .ok (.invokestatic 163, 3) := by decide +kernel
theorem dX5_startPlaces_149 : decode cX5_startPlaces 149 = .ok (.iinc 5 1, 3) := by decide +kernel
theorem dX5_startPlaces_152 : decode cX5_startPlaces 152 = .ok (.goto (-149), 3) := by decide +kernel
theorem dX5_startPlaces_155 : decode cX5_startPlaces 155 = .ok (.return_, 1) := by decide +kernel
theorem dX5_superviseEnd_0 : decode cX5_superviseEnd 0 = .ok (.aload_n 0, 1) := by decide +kernel
theorem dX5_superviseEnd_1 : decode cX5_superviseEnd 1 = .ok (.aload_n 1, 1) := by decide +kernel
theorem dX5_superviseEnd_2 : decode cX5_superviseEnd 2 = .ok (.getfield 116, 3) := by decide +kernel
theorem dX5_superviseEnd_5 : decode cX5_superviseEnd 5 = .ok (.invokevirtual 170, 3) := by decide +kernel
theorem dX5_superviseEnd_8 : decode cX5_superviseEnd 8 = .ok (.astore_n 2, 1) := by decide +kernel
theorem dX5_superviseEnd_9 : decode cX5_superviseEnd 9 = .ok (.aload_n 2, 1) := by decide +kernel
theorem dX5_superviseEnd_10 : decode cX5_superviseEnd 10 = .ok (.ifnonnull 7, 3) := by decide +kernel
theorem dX5_superviseEnd_13 : decode cX5_superviseEnd 13 = .ok (.iconst (-1), 1) := by decide +kernel
theorem dX5_superviseEnd_14 : decode cX5_superviseEnd 14 = .ok (.goto 11, 3) := by decide +kernel
theorem dX5_superviseEnd_17 : decode cX5_superviseEnd 17 = .ok (.aload_n 2, 1) := by decide +kernel
theorem dX5_superviseEnd_18 : decode cX5_superviseEnd 18 = .ok (.aload_n 1, 1) := by decide +kernel
theorem dX5_superviseEnd_19 : decode cX5_superviseEnd 19 = .ok (.getfield 146, 3) := by decide +kernel
theorem dX5_superviseEnd_22 : decode cX5_superviseEnd 22 = .ok (.invokevirtual 245, 3) := by decide +kernel
theorem dX5_superviseEnd_25 : decode cX5_superviseEnd 25 = .ok (.istore_n 3, 1) := by decide +kernel
theorem dX5_superviseEnd_26 : decode cX5_superviseEnd 26 = .ok (.aload_n 2, 1) := by decide +kernel
theorem dX5_superviseEnd_27 : decode cX5_superviseEnd 27 = .ok (.ifnonnull 7, 3) := by decide +kernel
theorem dX5_superviseEnd_30 : decode cX5_superviseEnd 30 = .ok (.iconst (-1), 1) := by decide +kernel
theorem dX5_superviseEnd_31 : decode cX5_superviseEnd 31 = .ok (.goto 15, 3) := by decide +kernel
theorem dX5_superviseEnd_34 : decode cX5_superviseEnd 34 = .ok (.aload_n 0, 1) := by decide +kernel
theorem dX5_superviseEnd_35 : decode cX5_superviseEnd 35 = .ok (.getfield 37, 3) := by decide +kernel
theorem dX5_superviseEnd_38 : decode cX5_superviseEnd 38 = .ok (.aload_n 2, 1) := by decide +kernel
theorem dX5_superviseEnd_39 : decode cX5_superviseEnd 39 = .ok (.getfield 122, 3) := by decide +kernel
theorem dX5_superviseEnd_42 : decode cX5_superviseEnd 42 = .ok (.iload_n 3, 1) := by decide +kernel
theorem dX5_superviseEnd_43 : decode cX5_superviseEnd 43 = .ok (.invokevirtual 131, 3) := by decide +kernel
theorem dX5_superviseEnd_46 : decode cX5_superviseEnd 46 = .ok (.istore 4, 2) := by decide +kernel
theorem dX5_superviseEnd_48 : decode cX5_superviseEnd 48 = .ok (.aload_n 2, 1) := by decide +kernel
theorem dX5_superviseEnd_49 : decode cX5_superviseEnd 49 = .ok (.ifnull 23, 3) := by decide +kernel
theorem dX5_superviseEnd_52 : decode cX5_superviseEnd 52 = .ok (.iload 4, 2) := by decide +kernel
theorem dX5_superviseEnd_54 : decode cX5_superviseEnd 54 = .ok (.iconst (-1), 1) := by decide +kernel
theorem dX5_superviseEnd_55 : decode cX5_superviseEnd 55 = .ok (.if_icmp .eq 17, 3) := by decide +kernel
theorem dX5_superviseEnd_58 : decode cX5_superviseEnd 58 = .ok (.aload_n 0, 1) := by decide +kernel
theorem dX5_superviseEnd_59 : decode cX5_superviseEnd 59 = .ok (.getfield 37, 3) := by decide +kernel
theorem dX5_superviseEnd_62 : decode cX5_superviseEnd 62 = .ok (.aload_n 2, 1) := by decide +kernel
theorem dX5_superviseEnd_63 : decode cX5_superviseEnd 63 = .ok (.getfield 122, 3) := by decide +kernel
theorem dX5_superviseEnd_66 : decode cX5_superviseEnd 66 = .ok (.invokevirtual 249, 3) := by decide +kernel
theorem dX5_superviseEnd_69 : decode cX5_superviseEnd 69 = .ok (.ifCond .ne 4, 3) := by decide +kernel
theorem dX5_superviseEnd_72 : decode cX5_superviseEnd 72 = .ok (.return_, 1) := by decide +kernel
theorem dX5_superviseEnd_73 : decode cX5_superviseEnd 73 = .ok (.aload_n 0, 1) := by decide +kernel
theorem dX5_superviseEnd_74 : decode cX5_superviseEnd 74 = .ok (.getfield 37, 3) := by decide +kernel
theorem dX5_superviseEnd_77 : decode cX5_superviseEnd 77 = .ok (.getfield 252, 3) := by decide +kernel
theorem dX5_superviseEnd_80 : decode cX5_superviseEnd 80 = .ok (.iload 4, 2) := by decide +kernel
theorem dX5_superviseEnd_82 : decode cX5_superviseEnd 82 = .ok (.iaload, 1) := by decide +kernel
theorem dX5_superviseEnd_83 : decode cX5_superviseEnd 83 = .ok (.istore 5, 2) := by decide +kernel
theorem dX5_superviseEnd_85 : decode cX5_superviseEnd 85 = .ok (.iload 5, 2) := by decide +kernel
theorem dX5_superviseEnd_87 : decode cX5_superviseEnd 87 = .ok (.iconst 2, 1) := by decide +kernel
theorem dX5_superviseEnd_88 : decode cX5_superviseEnd 88 = .ok (.if_icmp .eq 16, 3) := by decide +kernel
theorem dX5_superviseEnd_91 : decode cX5_superviseEnd 91 = .ok (.iload 5, 2) := by decide +kernel
theorem dX5_superviseEnd_93 : decode cX5_superviseEnd 93 = .ok (.iconst 1, 1) := by decide +kernel
theorem dX5_superviseEnd_94 : decode cX5_superviseEnd 94 = .ok (.if_icmp .ne 30, 3) := by decide +kernel
theorem dX5_superviseEnd_97 : decode cX5_superviseEnd 97 = .ok (.aload_n 1, 1) := by decide +kernel
theorem dX5_superviseEnd_98 : decode cX5_superviseEnd 98 = .ok (.getfield 201, 3) := by decide +kernel
theorem dX5_superviseEnd_101 : decode cX5_superviseEnd 101 = .ok (.ifCond .ne 23, 3) := by decide +kernel
theorem dX5_superviseEnd_104 : decode cX5_superviseEnd 104 = .ok (.aload_n 2, 1) := by decide +kernel
theorem dX5_superviseEnd_105 : decode cX5_superviseEnd 105 = .ok (.getfield 160, 3) := by decide +kernel
theorem dX5_superviseEnd_108 : decode cX5_superviseEnd 108 = .ok (.iload_n 3, 1) := by decide +kernel
theorem dX5_superviseEnd_109 : decode cX5_superviseEnd 109 = .ok (.iconst (-1), 1) := by decide +kernel
theorem dX5_superviseEnd_110 : decode cX5_superviseEnd 110 = .ok (.iastore, 1) := by decide +kernel
theorem dX5_superviseEnd_111 : decode cX5_superviseEnd 111 = .ok (.aload_n 2, 1) := by decide +kernel
theorem dX5_superviseEnd_112 : decode cX5_superviseEnd 112 = .ok (.dup, 1) := by decide +kernel
theorem dX5_superviseEnd_113 : decode cX5_superviseEnd 113 = .ok (.getfield 255, 3) := by decide +kernel
theorem dX5_superviseEnd_116 : decode cX5_superviseEnd 116 = .ok (.iconst 1, 1) := by decide +kernel
theorem dX5_superviseEnd_117 : decode cX5_superviseEnd 117 = .ok (.iload_n 3, 1) := by decide +kernel
theorem dX5_superviseEnd_118 : decode cX5_superviseEnd 118 = .ok (.ishl, 1) := by decide +kernel
theorem dX5_superviseEnd_119 : decode cX5_superviseEnd 119 = .ok (.ior, 1) := by decide +kernel
theorem dX5_superviseEnd_120 : decode cX5_superviseEnd 120 = .ok (.putfield 255, 3) := by decide +kernel
theorem dX5_superviseEnd_123 : decode cX5_superviseEnd 123 = .ok (.return_, 1) := by decide +kernel
theorem dX5_superviseEnd_124 : decode cX5_superviseEnd 124 = .ok (.aload_n 0, 1) := by decide +kernel
theorem dX5_superviseEnd_125 : decode cX5_superviseEnd 125 = .ok (.aload_n 2, 1) := by decide +kernel
theorem dX5_superviseEnd_126 : decode cX5_superviseEnd 126 = .ok (.getfield 146, 3) := by decide +kernel
theorem dX5_superviseEnd_129 : decode cX5_superviseEnd 129 = .ok (.invokevirtual 258, 3) := by decide +kernel
theorem dX5_superviseEnd_132 : decode cX5_superviseEnd 132 = .ok (.aload_n 0, 1) := by decide +kernel
theorem dX5_superviseEnd_133 : decode cX5_superviseEnd 133 = .ok (.aload_n 2, 1) := by decide +kernel
theorem dX5_superviseEnd_134 : decode cX5_superviseEnd 134 = .ok (.invokevirtual 261, 3) := by decide +kernel
theorem dX5_superviseEnd_137 : decode cX5_superviseEnd 137 = .ok (.aload_n 0, 1) := by decide +kernel
theorem dX5_superviseEnd_138 : decode cX5_superviseEnd 138 = .ok (.getfield 37, 3) := by decide +kernel
theorem dX5_superviseEnd_141 : decode cX5_superviseEnd 141 = .ok (.getfield 265, 3) := by decide +kernel
theorem dX5_superviseEnd_144 : decode cX5_superviseEnd 144 = .ok (.aload_n 2, 1) := by decide +kernel
theorem dX5_superviseEnd_145 : decode cX5_superviseEnd 145 = .ok (.getfield 122, 3) := by decide +kernel
theorem dX5_superviseEnd_148 : decode cX5_superviseEnd 148 = .ok (.iaload, 1) := by decide +kernel
theorem dX5_superviseEnd_149 : decode cX5_superviseEnd 149 = .ok (.if_icmp .le 10, 3) := by decide +kernel
theorem dX5_superviseEnd_152 : decode cX5_superviseEnd 152 = .ok (.aload_n 0, 1) := by decide +kernel
theorem dX5_superviseEnd_153 : decode cX5_superviseEnd 153 = .ok (.aload_n 2, 1) := by decide +kernel
theorem dX5_superviseEnd_154 : decode cX5_superviseEnd 154 = .ok (.iconst 5, 1) := by decide +kernel
theorem dX5_superviseEnd_155 : decode cX5_superviseEnd 155 = .ok (.invokevirtual 156, 3) := by decide +kernel
theorem dX5_superviseEnd_158 : decode cX5_superviseEnd 158 = .ok (.return_, 1) := by decide +kernel
theorem dX5_superviseEnd_159 : decode cX5_superviseEnd 159 = .ok (.aload_n 0, 1) := by decide +kernel
theorem dX5_superviseEnd_160 : decode cX5_superviseEnd 160 = .ok (.getfield 37, 3) := by decide +kernel
theorem dX5_superviseEnd_163 : decode cX5_superviseEnd 163 = .ok (.getfield 268, 3) := by decide +kernel
theorem dX5_superviseEnd_166 : decode cX5_superviseEnd 166 = .ok (.aload_n 2, 1) := by decide +kernel
theorem dX5_superviseEnd_167 : decode cX5_superviseEnd 167 = .ok (.getfield 122, 3) := by decide +kernel
theorem dX5_superviseEnd_170 : decode cX5_superviseEnd 170 = .ok (.iaload, 1) := by decide +kernel
theorem dX5_superviseEnd_171 : decode cX5_superviseEnd 171 = .ok (.istore 6, 2) := by decide +kernel
theorem dX5_superviseEnd_173 : decode cX5_superviseEnd 173 = .ok (.iload 6, 2) := by decide +kernel
theorem dX5_superviseEnd_175 : decode cX5_superviseEnd 175 = .ok (.ifCond .ne 14, 3) := by decide +kernel
theorem dX5_superviseEnd_178 : decode cX5_superviseEnd 178 = .ok (.aload_n 0, 1) := by decide +kernel
theorem dX5_superviseEnd_179 : decode cX5_superviseEnd 179 = .ok (.aload_n 2, 1) := by decide +kernel
theorem dX5_superviseEnd_180 : decode cX5_superviseEnd 180 = .ok (.iload_n 3, 1) := by decide +kernel
theorem dX5_superviseEnd_181 : decode cX5_superviseEnd 181 = .ok (.iload_n 3, 1) := by decide +kernel
theorem dX5_superviseEnd_182 : decode cX5_superviseEnd 182 = .ok (.iconst 1, 1) := by decide +kernel
theorem dX5_superviseEnd_183 : decode cX5_superviseEnd 183 = .ok (.iadd, 1) := by decide +kernel
theorem dX5_superviseEnd_184 : decode cX5_superviseEnd 184 = .ok (.iconst 0, 1) := by decide +kernel
theorem dX5_superviseEnd_185 : decode cX5_superviseEnd 185 = .ok (.invokestatic 163, 3) := by decide +kernel
theorem dX5_superviseEnd_188 : decode cX5_superviseEnd 188 = .ok (.return_, 1) := by decide +kernel
theorem dX5_superviseEnd_189 : decode cX5_superviseEnd 189 = .ok (.iload 6, 2) := by decide +kernel
theorem dX5_superviseEnd_191 : decode cX5_superviseEnd 191 = .ok (.iconst 1, 1) := by decide +kernel
theorem dX5_superviseEnd_192 : decode cX5_superviseEnd 192 = .ok (.if_icmp .ne 7, 3) := by decide +kernel
theorem dX5_superviseEnd_195 : decode cX5_superviseEnd 195 = .ok (.iconst 0, 1) := by decide +kernel
theorem dX5_superviseEnd_196 : decode cX5_superviseEnd 196 = .ok (.goto 4, 3) := by decide +kernel
theorem dX5_superviseEnd_199 : decode cX5_superviseEnd 199 = .ok (.iload_n 3, 1) := by decide +kernel
theorem dX5_superviseEnd_200 : decode cX5_superviseEnd 200 = .ok (.istore 7, 2) := by decide +kernel
theorem dX5_superviseEnd_202 : decode cX5_superviseEnd 202 = .ok (.aload_n 0, 1) := by decide +kernel
theorem dX5_superviseEnd_203 : decode cX5_superviseEnd 203 = .ok (.aload_n 2, 1) := by decide +kernel
theorem dX5_superviseEnd_204 : decode cX5_superviseEnd 204 = .ok (.iload 7, 2) := by decide +kernel
theorem dX5_superviseEnd_206 : decode cX5_superviseEnd 206 = .ok (.iload_n 3, 1) := by decide +kernel
theorem dX5_superviseEnd_207 : decode cX5_superviseEnd 207 = .ok (.invokevirtual 208, 3) := by decide +kernel
theorem dX5_superviseEnd_210 : decode cX5_superviseEnd 210 = .ok (.aload_n 0, 1) := by decide +kernel
theorem dX5_superviseEnd_211 : decode cX5_superviseEnd 211 = .ok (.aload_n 2, 1) := by decide +kernel
theorem dX5_superviseEnd_212 : decode cX5_superviseEnd 212 = .ok (.iload 7, 2) := by decide +kernel
theorem dX5_superviseEnd_214 : decode cX5_superviseEnd 214 = .ok (.iconst 4, 1) := by decide +kernel
theorem dX5_superviseEnd_215 : decode cX5_superviseEnd 215 = .ok (.iconst 0, 1) := by decide +kernel
theorem dX5_superviseEnd_216 : decode cX5_superviseEnd 216 = .ok (.invokestatic 163, 3) := by decide +kernel
theorem dX5_superviseEnd_219 : decode cX5_superviseEnd 219 = .ok (.return_, 1) := by decide +kernel
theorem dX5_supervisors_0 : decode cX5_supervisors 0 = .ok (.iconst 0, 1) := by decide +kernel
theorem dX5_supervisors_1 : decode cX5_supervisors 1 = .ok (.istore_n 1, 1) := by decide +kernel
theorem dX5_supervisors_2 : decode cX5_supervisors 2 = .ok (.iconst 0, 1) := by decide +kernel
theorem dX5_supervisors_3 : decode cX5_supervisors 3 = .ok (.istore_n 2, 1) := by decide +kernel
theorem dX5_supervisors_4 : decode cX5_supervisors 4 = .ok (.iload_n 2, 1) := by decide +kernel
theorem dX5_supervisors_5 : decode cX5_supervisors 5 = .ok (.aload_n 0, 1) := by decide +kernel
theorem dX5_supervisors_6 : decode cX5_supervisors 6 = .ok (.getfield 56, 3) := by decide +kernel
theorem dX5_supervisors_9 : decode cX5_supervisors 9 = .ok (.if_icmp .ge 30, 3) := by decide +kernel
theorem dX5_supervisors_12 : decode cX5_supervisors 12 = .ok (.iload_n 2, 1) := by decide +kernel
theorem dX5_supervisors_13 : decode cX5_supervisors 13 = .ok (.bipush 24, 2) := by decide +kernel
theorem dX5_supervisors_15 : decode cX5_supervisors 15 = .ok (.if_icmp .ge 24, 3) := by decide +kernel
theorem dX5_supervisors_18 : decode cX5_supervisors 18 = .ok (.aload_n 0, 1) := by decide +kernel
theorem dX5_supervisors_19 : decode cX5_supervisors 19 = .ok (.getfield 20, 3) := by decide +kernel
theorem dX5_supervisors_22 : decode cX5_supervisors 22 = .ok (.iload_n 2, 1) := by decide +kernel
theorem dX5_supervisors_23 : decode cX5_supervisors 23 = .ok (.aaload, 1) := by decide +kernel
theorem dX5_supervisors_24 : decode cX5_supervisors 24 = .ok (.invokevirtual 174, 3) := by decide +kernel
theorem dX5_supervisors_27 : decode cX5_supervisors 27 = .ok (.ifCond .eq 6, 3) := by decide +kernel
theorem dX5_supervisors_30 : decode cX5_supervisors 30 = .ok (.iinc 1 1, 3) := by decide +kernel
theorem dX5_supervisors_33 : decode cX5_supervisors 33 = .ok (.iinc 2 1, 3) := by decide +kernel
theorem dX5_supervisors_36 : decode cX5_supervisors 36 = .ok (.goto (-32), 3) := by decide +kernel
theorem dX5_supervisors_39 : decode cX5_supervisors 39 = .ok (.iload_n 1, 1) := by decide +kernel
theorem dX5_supervisors_40 : decode cX5_supervisors 40 = .ok (.ireturn, 1) := by decide +kernel
theorem dX5_takeName_0 : decode cX5_takeName 0 = .ok (.aload_n 0, 1) := by decide +kernel
theorem dX5_takeName_1 : decode cX5_takeName 1 = .ok (.iload_n 2, 1) := by decide +kernel
theorem dX5_takeName_2 : decode cX5_takeName 2 = .ok (.invokevirtual 345, 3) := by decide +kernel
theorem dX5_takeName_5 : decode cX5_takeName 5 = .ok (.istore_n 3, 1) := by decide +kernel
theorem dX5_takeName_6 : decode cX5_takeName 6 = .ok (.iload_n 3, 1) := by decide +kernel
theorem dX5_takeName_7 : decode cX5_takeName 7 = .ok (.iconst (-1), 1) := by decide +kernel
theorem dX5_takeName_8 : decode cX5_takeName 8 = .ok (.if_icmp .eq 21, 3) := by decide +kernel
theorem dX5_takeName_11 : decode cX5_takeName 11 = .ok (.iload_n 3, 1) := by decide +kernel
theorem dX5_takeName_12 : decode cX5_takeName 12 = .ok (.aload_n 1, 1) := by decide +kernel
theorem dX5_takeName_13 : decode cX5_takeName 13 = .ok (.getfield 146, 3) := by decide +kernel
theorem dX5_takeName_16 : decode cX5_takeName 16 = .ok (.if_icmp .eq 13, 3) := by decide +kernel
theorem dX5_takeName_19 : decode cX5_takeName 19 = .ok (.aload_n 0, 1) := by decide +kernel
theorem dX5_takeName_20 : decode cX5_takeName 20 = .ok (.aload_n 1, 1) := by decide +kernel
theorem dX5_takeName_21 : decode cX5_takeName 21 = .ok (.bipush 6, 2) := by decide +kernel
theorem dX5_takeName_23 : decode cX5_takeName 23 = .ok (.invokevirtual 156, 3) := by decide +kernel
theorem dX5_takeName_26 : decode cX5_takeName 26 = .ok (.goto 22, 3) := by decide +kernel
theorem dX5_takeName_29 : decode cX5_takeName 29 = .ok (.iload_n 2, 1) := by decide +kernel
theorem dX5_takeName_30 : decode cX5_takeName 30 = .ok (.iconst 0, 1) := by decide +kernel
theorem dX5_takeName_31 : decode cX5_takeName 31 = .ok (.iconst 3, 1) := by decide +kernel
theorem dX5_takeName_32 : decode cX5_takeName 32 = .ok (.invokestatic 103, 3) := by decide +kernel
theorem dX5_takeName_35 : decode cX5_takeName 35 = .ok (.ifCond .eq 13, 3) := by decide +kernel
theorem dX5_takeName_38 : decode cX5_takeName 38 = .ok (.aload_n 0, 1) := by decide +kernel
theorem dX5_takeName_39 : decode cX5_takeName 39 = .ok (.getfield 15, 3) := by decide +kernel
theorem dX5_takeName_42 : decode cX5_takeName 42 = .ok (.iload_n 2, 1) := by decide +kernel
theorem dX5_takeName_43 : decode cX5_takeName 43 = .ok (.aload_n 1, 1) := by decide +kernel
theorem dX5_takeName_44 : decode cX5_takeName 44 = .ok (.getfield 146, 3) := by decide +kernel
theorem dX5_takeName_47 : decode cX5_takeName 47 = .ok (.iastore, 1) := by decide +kernel
theorem dX5_takeName_48 : decode cX5_takeName 48 = .ok (.return_, 1) := by decide +kernel
theorem dX5_tellWatchers_0 : decode cX5_tellWatchers 0 = .ok (.aload_n 1, 1) := by decide +kernel
theorem dX5_tellWatchers_1 : decode cX5_tellWatchers 1 = .ok (.getfield 229, 3) := by decide +kernel
theorem dX5_tellWatchers_4 : decode cX5_tellWatchers 4 = .ok (.astore_n 2, 1) := by decide +kernel
theorem dX5_tellWatchers_5 : decode cX5_tellWatchers 5 = .ok (.iconst 0, 1) := by decide +kernel
theorem dX5_tellWatchers_6 : decode cX5_tellWatchers 6 = .ok (.istore_n 3, 1) := by decide +kernel
theorem dX5_tellWatchers_7 : decode cX5_tellWatchers 7 = .ok (.iload_n 3, 1) := by decide +kernel
theorem dX5_tellWatchers_8 : decode cX5_tellWatchers 8 = .ok (.aload_n 2, 1) := by decide +kernel
theorem dX5_tellWatchers_9 : decode cX5_tellWatchers 9 = .ok (.getfield 233, 3) := by decide +kernel
theorem dX5_tellWatchers_12 : decode cX5_tellWatchers 12 = .ok (.if_icmp .ge 104, 3) := by decide +kernel
theorem dX5_tellWatchers_15 : decode cX5_tellWatchers 15 = .ok (.iload_n 3, 1) := by decide +kernel
theorem dX5_tellWatchers_16 : decode cX5_tellWatchers 16 = .ok (.bipush 24, 2) := by decide +kernel
theorem dX5_tellWatchers_18 : decode cX5_tellWatchers 18 = .ok (.if_icmp .ge 98, 3) := by decide +kernel
theorem dX5_tellWatchers_21 : decode cX5_tellWatchers 21 = .ok (.aload_n 2, 1) := by decide +kernel
theorem dX5_tellWatchers_22 : decode cX5_tellWatchers 22 = .ok (.getfield 236, 3) := by decide +kernel
theorem dX5_tellWatchers_25 : decode cX5_tellWatchers 25 = .ok (.iload_n 3, 1) := by decide +kernel
theorem dX5_tellWatchers_26 : decode cX5_tellWatchers 26 = .ok (.iaload, 1) := by decide +kernel
theorem dX5_tellWatchers_27 : decode cX5_tellWatchers 27 = .ok (.istore 4, 2) := by decide +kernel
theorem dX5_tellWatchers_29 : decode cX5_tellWatchers 29 = .ok (.aload_n 0, 1) := by decide +kernel
theorem dX5_tellWatchers_30 : decode cX5_tellWatchers 30 = .ok (.iload 4, 2) := by decide +kernel
theorem dX5_tellWatchers_32 : decode cX5_tellWatchers 32 = .ok (.invokevirtual 170, 3) := by decide +kernel
theorem dX5_tellWatchers_35 : decode cX5_tellWatchers 35 = .ok (.ifnonnull 6, 3) := by decide +kernel
theorem dX5_tellWatchers_38 : decode cX5_tellWatchers 38 = .ok (.goto 72, 3) := by decide +kernel
theorem dX5_tellWatchers_41 : decode cX5_tellWatchers 41 = .ok (.iconst 0, 1) := by decide +kernel
theorem dX5_tellWatchers_42 : decode cX5_tellWatchers 42 = .ok (.istore 5, 2) := by decide +kernel
theorem dX5_tellWatchers_44 : decode cX5_tellWatchers 44 = .ok (.iload 5, 2) := by decide +kernel
theorem dX5_tellWatchers_46 : decode cX5_tellWatchers 46 = .ok (.aload_n 2, 1) := by decide +kernel
theorem dX5_tellWatchers_47 : decode cX5_tellWatchers 47 = .ok (.getfield 239, 3) := by decide +kernel
theorem dX5_tellWatchers_50 : decode cX5_tellWatchers 50 = .ok (.iload_n 3, 1) := by decide +kernel
theorem dX5_tellWatchers_51 : decode cX5_tellWatchers 51 = .ok (.iaload, 1) := by decide +kernel
theorem dX5_tellWatchers_52 : decode cX5_tellWatchers 52 = .ok (.if_icmp .ge 36, 3) := by decide +kernel
theorem dX5_tellWatchers_55 : decode cX5_tellWatchers 55 = .ok (.iload 5, 2) := by decide +kernel
theorem dX5_tellWatchers_57 : decode cX5_tellWatchers 57 = .ok (.bipush 8, 2) := by decide +kernel
theorem dX5_tellWatchers_59 : decode cX5_tellWatchers 59 = .ok (.if_icmp .ge 29, 3) := by decide +kernel
theorem dX5_tellWatchers_62 : decode cX5_tellWatchers 62 = .ok (.aload_n 0, 1) := by decide +kernel
theorem dX5_tellWatchers_63 : decode cX5_tellWatchers 63 = .ok (.iload 4, 2) := by decide +kernel
theorem dX5_tellWatchers_65 : decode cX5_tellWatchers 65 = .ok (.iconst 2, 1) := by decide +kernel
theorem dX5_tellWatchers_66 : decode cX5_tellWatchers 66 = .ok (.bipush 10, 2) := by decide +kernel
theorem dX5_tellWatchers_68 : decode cX5_tellWatchers 68 = .ok (.aload_n 1, 1) := by decide +kernel
theorem dX5_tellWatchers_69 : decode cX5_tellWatchers 69 = .ok (.getfield 146, 3) := by decide +kernel
theorem dX5_tellWatchers_72 : decode cX5_tellWatchers 72 = .ok (.imul, 1) := by decide +kernel
theorem dX5_tellWatchers_73 : decode cX5_tellWatchers 73 = .ok (.aload_n 1, 1) := by decide +kernel
theorem dX5_tellWatchers_74 : decode cX5_tellWatchers 74 = .ok (.getfield 201, 3) := by decide +kernel
theorem dX5_tellWatchers_77 : decode cX5_tellWatchers 77 = .ok (.iadd, 1) := by decide +kernel
theorem dX5_tellWatchers_78 : decode cX5_tellWatchers 78 = .ok (.invokevirtual 198, 3) := by decide +kernel
theorem dX5_tellWatchers_81 : decode cX5_tellWatchers 81 = .ok (.pop, 1) := by decide +kernel
theorem dX5_tellWatchers_82 : decode cX5_tellWatchers 82 = .ok (.iinc 5 1, 3) := by decide +kernel
theorem dX5_tellWatchers_85 : decode cX5_tellWatchers 85 = .ok (.goto (-41), 3) := by decide +kernel
theorem dX5_tellWatchers_88 : decode cX5_tellWatchers 88 = .ok (.aload_n 0, 1) := by decide +kernel
theorem dX5_tellWatchers_89 : decode cX5_tellWatchers 89 = .ok (.dup, 1) := by decide +kernel
theorem dX5_tellWatchers_90 : decode cX5_tellWatchers 90 = .ok (.getfield 73, 3) := by decide +kernel
theorem dX5_tellWatchers_93 : decode cX5_tellWatchers 93 = .ok (.iconst 0, 1) := by decide +kernel
theorem dX5_tellWatchers_94 : decode cX5_tellWatchers 94 = .ok (.aload_n 2, 1) := by decide +kernel
theorem dX5_tellWatchers_95 : decode cX5_tellWatchers 95 = .ok (.getfield 239, 3) := by decide +kernel
theorem dX5_tellWatchers_98 : decode cX5_tellWatchers 98 = .ok (.iload_n 3, 1) := by decide +kernel
theorem dX5_tellWatchers_99 : decode cX5_tellWatchers 99 = .ok (.iaload, 1) := by decide +kernel
theorem dX5_tellWatchers_100 : decode cX5_tellWatchers 100 = .ok (.bipush 8, 2) := by decide +kernel
theorem dX5_tellWatchers_102 : decode cX5_tellWatchers 102 = .ok (.isub, 1) := by decide +kernel
theorem dX5_tellWatchers_103 : decode cX5_tellWatchers 103 = .ok (.invokestatic 60, 3) := by decide +kernel
theorem dX5_tellWatchers_106 : decode cX5_tellWatchers 106 = .ok (.iadd, 1) := by decide +kernel
theorem dX5_tellWatchers_107 : decode cX5_tellWatchers 107 = .ok (.putfield 73, 3) := by decide +kernel
theorem dX5_tellWatchers_110 : decode cX5_tellWatchers 110 = .ok (.iinc 3 1, 3) := by decide +kernel
theorem dX5_tellWatchers_113 : decode cX5_tellWatchers 113 = .ok (.goto (-106), 3) := by decide +kernel
theorem dX5_tellWatchers_116 : decode cX5_tellWatchers 116 = .ok (.return_, 1) := by decide +kernel
theorem dX5_unlink_0 : decode cX5_unlink 0 = .ok (.aload_n 1, 1) := by decide +kernel
theorem dX5_unlink_1 : decode cX5_unlink 1 = .ok (.dup, 1) := by decide +kernel
theorem dX5_unlink_2 : decode cX5_unlink 2 = .ok (.getfield 242, 3) := by decide +kernel
theorem dX5_unlink_5 : decode cX5_unlink 5 = .ok (.iconst 1, 1) := by decide +kernel
theorem dX5_unlink_6 : decode cX5_unlink 6 = .ok (.aload_n 2, 1) := by decide +kernel
theorem dX5_unlink_7 : decode cX5_unlink 7 = .ok (.getfield 146, 3) := by decide +kernel
theorem dX5_unlink_10 : decode cX5_unlink 10 = .ok (.ishl, 1) := by decide +kernel
theorem dX5_unlink_11 : decode cX5_unlink 11 = .ok (.iconst (-1), 1) := by decide +kernel
theorem dX5_unlink_12 : decode cX5_unlink 12 = .ok (.ixor, 1) := by decide +kernel
theorem dX5_unlink_13 : decode cX5_unlink 13 = .ok (.iand, 1) := by decide +kernel
theorem dX5_unlink_14 : decode cX5_unlink 14 = .ok (.putfield 242, 3) := by decide +kernel
theorem dX5_unlink_17 : decode cX5_unlink 17 = .ok (.aload_n 2, 1) := by decide +kernel
theorem dX5_unlink_18 : decode cX5_unlink 18 = .ok (.dup, 1) := by decide +kernel
theorem dX5_unlink_19 : decode cX5_unlink 19 = .ok (.getfield 242, 3) := by decide +kernel
theorem dX5_unlink_22 : decode cX5_unlink 22 = .ok (.iconst 1, 1) := by decide +kernel
theorem dX5_unlink_23 : decode cX5_unlink 23 = .ok (.aload_n 1, 1) := by decide +kernel
theorem dX5_unlink_24 : decode cX5_unlink 24 = .ok (.getfield 146, 3) := by decide +kernel
theorem dX5_unlink_27 : decode cX5_unlink 27 = .ok (.ishl, 1) := by decide +kernel
theorem dX5_unlink_28 : decode cX5_unlink 28 = .ok (.iconst (-1), 1) := by decide +kernel
theorem dX5_unlink_29 : decode cX5_unlink 29 = .ok (.ixor, 1) := by decide +kernel
theorem dX5_unlink_30 : decode cX5_unlink 30 = .ok (.iand, 1) := by decide +kernel
theorem dX5_unlink_31 : decode cX5_unlink 31 = .ok (.putfield 242, 3) := by decide +kernel
theorem dX5_unlink_34 : decode cX5_unlink 34 = .ok (.return_, 1) := by decide +kernel
theorem dX5_watchesOf_0 : decode cX5_watchesOf 0 = .ok (.aload_n 1, 1) := by decide +kernel
theorem dX5_watchesOf_1 : decode cX5_watchesOf 1 = .ok (.getfield 94, 3) := by decide +kernel
theorem dX5_watchesOf_4 : decode cX5_watchesOf 4 = .ok (.iconst 2, 1) := by decide +kernel
theorem dX5_watchesOf_5 : decode cX5_watchesOf 5 = .ok (.if_icmp .ne 5, 3) := by decide +kernel
theorem dX5_watchesOf_8 : decode cX5_watchesOf 8 = .ok (.iconst 0, 1) := by decide +kernel
theorem dX5_watchesOf_9 : decode cX5_watchesOf 9 = .ok (.ireturn, 1) := by decide +kernel
theorem dX5_watchesOf_10 : decode cX5_watchesOf 10 = .ok (.iconst 0, 1) := by decide +kernel
theorem dX5_watchesOf_11 : decode cX5_watchesOf 11 = .ok (.istore_n 2, 1) := by decide +kernel
theorem dX5_watchesOf_12 : decode cX5_watchesOf 12 = .ok (.iconst 0, 1) := by decide +kernel
theorem dX5_watchesOf_13 : decode cX5_watchesOf 13 = .ok (.istore_n 3, 1) := by decide +kernel
theorem dX5_watchesOf_14 : decode cX5_watchesOf 14 = .ok (.iload_n 3, 1) := by decide +kernel
theorem dX5_watchesOf_15 : decode cX5_watchesOf 15 = .ok (.aload_n 1, 1) := by decide +kernel
theorem dX5_watchesOf_16 : decode cX5_watchesOf 16 = .ok (.getfield 229, 3) := by decide +kernel
theorem dX5_watchesOf_19 : decode cX5_watchesOf 19 = .ok (.getfield 233, 3) := by decide +kernel
theorem dX5_watchesOf_22 : decode cX5_watchesOf 22 = .ok (.if_icmp .ge 43, 3) := by decide +kernel
theorem dX5_watchesOf_25 : decode cX5_watchesOf 25 = .ok (.iload_n 3, 1) := by decide +kernel
theorem dX5_watchesOf_26 : decode cX5_watchesOf 26 = .ok (.bipush 24, 2) := by decide +kernel
theorem dX5_watchesOf_28 : decode cX5_watchesOf 28 = .ok (.if_icmp .ge 37, 3) := by decide +kernel
theorem dX5_watchesOf_31 : decode cX5_watchesOf 31 = .ok (.aload_n 0, 1) := by decide +kernel
theorem dX5_watchesOf_32 : decode cX5_watchesOf 32 = .ok (.aload_n 1, 1) := by decide +kernel
