theorem dX5_watchesOf_33 : decode cX5_watchesOf 33 = .ok (.getfield 229, 3) := by decide +kernel
theorem dX5_watchesOf_36 : decode cX5_watchesOf 36 = .ok (.getfield 236, 3) := by decide +kernel
theorem dX5_watchesOf_39 : decode cX5_watchesOf 39 = .ok (.iload_n 3, 1) := by decide +kernel
theorem dX5_watchesOf_40 : decode cX5_watchesOf 40 = .ok (.iaload, 1) := by decide +kernel
theorem dX5_watchesOf_41 : decode cX5_watchesOf 41 = .ok (.invokevirtual 170, 3) := by decide +kernel
theorem dX5_watchesOf_44 : decode cX5_watchesOf 44 = .ok (.ifnull 15, 3) := by decide +kernel
theorem dX5_watchesOf_47 : decode cX5_watchesOf 47 = .ok (.iload_n 2, 1) := by decide +kernel
theorem dX5_watchesOf_48 : decode cX5_watchesOf 48 = .ok (.aload_n 1, 1) := by decide +kernel
theorem dX5_watchesOf_49 : decode cX5_watchesOf 49 = .ok (.getfield 229, 3) := by decide +kernel
theorem dX5_watchesOf_52 : decode cX5_watchesOf 52 = .ok (.getfield 239, 3) := by decide +kernel
theorem dX5_watchesOf_55 : decode cX5_watchesOf 55 = .ok (.iload_n 3, 1) := by decide +kernel
theorem dX5_watchesOf_56 : decode cX5_watchesOf 56 = .ok (.iaload, 1) := by decide +kernel
theorem dX5_watchesOf_57 : decode cX5_watchesOf 57 = .ok (.iadd, 1) := by decide +kernel
theorem dX5_watchesOf_58 : decode cX5_watchesOf 58 = .ok (.istore_n 2, 1) := by decide +kernel
theorem dX5_watchesOf_59 : decode cX5_watchesOf 59 = .ok (.iinc 3 1, 3) := by decide +kernel
theorem dX5_watchesOf_62 : decode cX5_watchesOf 62 = .ok (.goto (-48), 3) := by decide +kernel
theorem dX5_watchesOf_65 : decode cX5_watchesOf 65 = .ok (.iload_n 2, 1) := by decide +kernel
theorem dX5_watchesOf_66 : decode cX5_watchesOf 66 = .ok (.ireturn, 1) := by decide +kernel
theorem dX5_withStatus_0 : decode cX5_withStatus 0 = .ok (.iconst 0, 1) := by decide +kernel
theorem dX5_withStatus_1 : decode cX5_withStatus 1 = .ok (.istore_n 2, 1) := by decide +kernel
theorem dX5_withStatus_2 : decode cX5_withStatus 2 = .ok (.iconst 0, 1) := by decide +kernel
theorem dX5_withStatus_3 : decode cX5_withStatus 3 = .ok (.istore_n 3, 1) := by decide +kernel
theorem dX5_withStatus_4 : decode cX5_withStatus 4 = .ok (.iload_n 3, 1) := by decide +kernel
theorem dX5_withStatus_5 : decode cX5_withStatus 5 = .ok (.aload_n 0, 1) := by decide +kernel
theorem dX5_withStatus_6 : decode cX5_withStatus 6 = .ok (.getfield 56, 3) := by decide +kernel
theorem dX5_withStatus_9 : decode cX5_withStatus 9 = .ok (.if_icmp .ge 31, 3) := by decide +kernel
theorem dX5_withStatus_12 : decode cX5_withStatus 12 = .ok (.iload_n 3, 1) := by decide +kernel
theorem dX5_withStatus_13 : decode cX5_withStatus 13 = .ok (.bipush 24, 2) := by decide +kernel
theorem dX5_withStatus_15 : decode cX5_withStatus 15 = .ok (.if_icmp .ge 25, 3) := by decide +kernel
theorem dX5_withStatus_18 : decode cX5_withStatus 18 = .ok (.aload_n 0, 1) := by decide +kernel
theorem dX5_withStatus_19 : decode cX5_withStatus 19 = .ok (.getfield 20, 3) := by decide +kernel
theorem dX5_withStatus_22 : decode cX5_withStatus 22 = .ok (.iload_n 3, 1) := by decide +kernel
theorem dX5_withStatus_23 : decode cX5_withStatus 23 = .ok (.aaload, 1) := by decide +kernel
theorem dX5_withStatus_24 : decode cX5_withStatus 24 = .ok (.getfield 94, 3) := by decide +kernel
theorem dX5_withStatus_27 : decode cX5_withStatus 27 = .ok (.iload_n 1, 1) := by decide +kernel
theorem dX5_withStatus_28 : decode cX5_withStatus 28 = .ok (.if_icmp .ne 6, 3) := by decide +kernel
theorem dX5_withStatus_31 : decode cX5_withStatus 31 = .ok (.iinc 2 1, 3) := by decide +kernel
theorem dX5_withStatus_34 : decode cX5_withStatus 34 = .ok (.iinc 3 1, 3) := by decide +kernel
theorem dX5_withStatus_37 : decode cX5_withStatus 37 = .ok (.goto (-33), 3) := by decide +kernel
theorem dX5_withStatus_40 : decode cX5_withStatus 40 = .ok (.iload_n 2, 1) := by decide +kernel
theorem dX5_withStatus_41 : decode cX5_withStatus 41 = .ok (.ireturn, 1) := by decide +kernel
theorem dX6_checkArgument_0 : decode cX6_checkArgument 0 = .ok (.iload_n 0, 1) := by decide +kernel
theorem dX6_checkArgument_1 : decode cX6_checkArgument 1 = .ok (.ifCond .ne 11, 3) := by decide +kernel
theorem dX6_checkArgument_4 : decode cX6_checkArgument 4 = .ok (.new 295, 3) := by decide +kernel
theorem dX6_checkArgument_7 : decode cX6_checkArgument 7 = .ok (.dup, 1) := by decide +kernel
theorem dX6_checkArgument_8 : decode cX6_checkArgument 8 = .ok (.invokespecial 297, 3) := by decide +kernel
theorem dX6_checkArgument_11 : decode cX6_checkArgument 11 = .ok (.athrow, 1) := by decide +kernel
theorem dX6_checkArgument_12 : decode cX6_checkArgument 12 = .ok (.return_, 1) := by decide +kernel
theorem dX6_checkIndex_0 : decode cX6_checkIndex 0 = .ok (.iload_n 0, 1) := by decide +kernel
theorem dX6_checkIndex_1 : decode cX6_checkIndex 1 = .ok (.ifCond .ne 11, 3) := by decide +kernel
theorem dX6_checkIndex_4 : decode cX6_checkIndex 4 = .ok (.new 292, 3) := by decide +kernel
theorem dX6_checkIndex_7 : decode cX6_checkIndex 7 = .ok (.dup, 1) := by decide +kernel
theorem dX6_checkIndex_8 : decode cX6_checkIndex 8 = .ok (.invokespecial 294, 3) := by decide +kernel
theorem dX6_checkIndex_11 : decode cX6_checkIndex 11 = .ok (.athrow, 1) := by decide +kernel
theorem dX6_checkIndex_12 : decode cX6_checkIndex 12 = .ok (.return_, 1) := by decide +kernel
theorem dX6_checkProcess_0 : decode cX6_checkProcess 0 = .ok (.aload_n 0, 1) := by decide +kernel
theorem dX6_checkProcess_1 : decode cX6_checkProcess 1 = .ok (.getfield 28, 3) := by decide +kernel
theorem dX6_checkProcess_4 : decode cX6_checkProcess 4 = .ok (.iload_n 1, 1) := by decide +kernel
theorem dX6_checkProcess_5 : decode cX6_checkProcess 5 = .ok (.invokevirtual 301, 3) := by decide +kernel
theorem dX6_checkProcess_8 : decode cX6_checkProcess 8 = .ok (.astore_n 2, 1) := by decide +kernel
theorem dX6_checkProcess_9 : decode cX6_checkProcess 9 = .ok (.aload_n 2, 1) := by decide +kernel
theorem dX6_checkProcess_10 : decode cX6_checkProcess 10 = .ok (.ifnonnull 11, 3) := by decide +kernel
theorem dX6_checkProcess_13 : decode cX6_checkProcess 13 = .ok (.new 292, 3) := by decide +kernel
theorem dX6_checkProcess_16 : decode cX6_checkProcess 16 = .ok (.dup, 1) := by decide +kernel
theorem dX6_checkProcess_17 : decode cX6_checkProcess 17 = .ok (.invokespecial 294, 3) := by decide +kernel
theorem dX6_checkProcess_20 : decode cX6_checkProcess 20 = .ok (.athrow, 1) := by decide +kernel
theorem dX6_checkProcess_21 : decode cX6_checkProcess 21 = .ok (.aload_n 2, 1) := by decide +kernel
theorem dX6_checkProcess_22 : decode cX6_checkProcess 22 = .ok (.areturn, 1) := by decide +kernel
theorem dX6_checkState_0 : decode cX6_checkState 0 = .ok (.iload_n 0, 1) := by decide +kernel
theorem dX6_checkState_1 : decode cX6_checkState 1 = .ok (.ifCond .ne 11, 3) := by decide +kernel
theorem dX6_checkState_4 : decode cX6_checkState 4 = .ok (.new 298, 3) := by decide +kernel
theorem dX6_checkState_7 : decode cX6_checkState 7 = .ok (.dup, 1) := by decide +kernel
theorem dX6_checkState_8 : decode cX6_checkState 8 = .ok (.invokespecial 300, 3) := by decide +kernel
theorem dX6_checkState_11 : decode cX6_checkState 11 = .ok (.athrow, 1) := by decide +kernel
theorem dX6_checkState_12 : decode cX6_checkState 12 = .ok (.return_, 1) := by decide +kernel
theorem dX6_digest_0 : decode cX6_digest 0 = .ok (.ldc2_w 251, 3) := by decide +kernel
theorem dX6_digest_3 : decode cX6_digest 3 = .ok (.lstore_n 1, 1) := by decide +kernel
theorem dX6_digest_4 : decode cX6_digest 4 = .ok (.iconst 0, 1) := by decide +kernel
theorem dX6_digest_5 : decode cX6_digest 5 = .ok (.istore_n 3, 1) := by decide +kernel
theorem dX6_digest_6 : decode cX6_digest 6 = .ok (.iload_n 3, 1) := by decide +kernel
theorem dX6_digest_7 : decode cX6_digest 7 = .ok (.bipush 12, 2) := by decide +kernel
theorem dX6_digest_9 : decode cX6_digest 9 = .ok (.if_icmp .gt 22, 3) := by decide +kernel
theorem dX6_digest_12 : decode cX6_digest 12 = .ok (.lload_n 1, 1) := by decide +kernel
theorem dX6_digest_13 : decode cX6_digest 13 = .ok (.ldc2_w 253, 3) := by decide +kernel
theorem dX6_digest_16 : decode cX6_digest 16 = .ok (.lmul, 1) := by decide +kernel
theorem dX6_digest_17 : decode cX6_digest 17 = .ok (.aload_n 0, 1) := by decide +kernel
theorem dX6_digest_18 : decode cX6_digest 18 = .ok (.iload_n 3, 1) := by decide +kernel
theorem dX6_digest_19 : decode cX6_digest 19 = .ok (.invokevirtual 255, 3) := by decide +kernel
theorem dX6_digest_22 : decode cX6_digest 22 = .ok (.i2l, 1) := by decide +kernel
theorem dX6_digest_23 : decode cX6_digest 23 = .ok (.ladd, 1) := by decide +kernel
theorem dX6_digest_24 : decode cX6_digest 24 = .ok (.lstore_n 1, 1) := by decide +kernel
theorem dX6_digest_25 : decode cX6_digest 25 = .ok (.iinc 3 1, 3) := by decide +kernel
theorem dX6_digest_28 : decode cX6_digest 28 = .ok (.goto (-22), 3) := by decide +kernel
theorem dX6_digest_31 : decode cX6_digest 31 = .ok (.iconst 0, 1) := by decide +kernel
theorem dX6_digest_32 : decode cX6_digest 32 = .ok (.istore_n 3, 1) := by decide +kernel
theorem dX6_digest_33 : decode cX6_digest 33 = .ok (.iload_n 3, 1) := by decide +kernel
theorem dX6_digest_34 : decode cX6_digest 34 = .ok (.aload_n 0, 1) := by decide +kernel
theorem dX6_digest_35 : decode cX6_digest 35 = .ok (.getfield 12, 3) := by decide +kernel
theorem dX6_digest_38 : decode cX6_digest 38 = .ok (.getfield 35, 3) := by decide +kernel
theorem dX6_digest_41 : decode cX6_digest 41 = .ok (.if_icmp .ge 52, 3) := by decide +kernel
theorem dX6_digest_44 : decode cX6_digest 44 = .ok (.iconst 0, 1) := by decide +kernel
theorem dX6_digest_45 : decode cX6_digest 45 = .ok (.istore 4, 2) := by decide +kernel
theorem dX6_digest_47 : decode cX6_digest 47 = .ok (.iload 4, 2) := by decide +kernel
theorem dX6_digest_49 : decode cX6_digest 49 = .ok (.iconst 4, 1) := by decide +kernel
theorem dX6_digest_50 : decode cX6_digest 50 = .ok (.if_icmp .gt 24, 3) := by decide +kernel
theorem dX6_digest_53 : decode cX6_digest 53 = .ok (.lload_n 1, 1) := by decide +kernel
theorem dX6_digest_54 : decode cX6_digest 54 = .ok (.ldc2_w 253, 3) := by decide +kernel
theorem dX6_digest_57 : decode cX6_digest 57 = .ok (.lmul, 1) := by decide +kernel
theorem dX6_digest_58 : decode cX6_digest 58 = .ok (.aload_n 0, 1) := by decide +kernel
theorem dX6_digest_59 : decode cX6_digest 59 = .ok (.iload_n 3, 1) := by decide +kernel
theorem dX6_digest_60 : decode cX6_digest 60 = .ok (.iload 4, 2) := by decide +kernel
theorem dX6_digest_62 : decode cX6_digest 62 = .ok (.invokevirtual 258, 3) := by decide +kernel
theorem dX6_digest_65 : decode cX6_digest 65 = .ok (.i2l, 1) := by decide +kernel
theorem dX6_digest_66 : decode cX6_digest 66 = .ok (.ladd, 1) := by decide +kernel
theorem dX6_digest_67 : decode cX6_digest 67 = .ok (.lstore_n 1, 1) := by decide +kernel
theorem dX6_digest_68 : decode cX6_digest 68 = .ok (.iinc 4 1, 3) := by decide +kernel
theorem dX6_digest_71 : decode cX6_digest 71 = .ok (.goto (-24), 3) := by decide +kernel
theorem dX6_digest_74 : decode cX6_digest 74 = .ok (.lload_n 1, 1) := by decide +kernel
theorem dX6_digest_75 : decode cX6_digest 75 = .ok (.ldc2_w 253, 3) := by decide +kernel
theorem dX6_digest_78 : decode cX6_digest 78 = .ok (.lmul, 1) := by decide +kernel
theorem dX6_digest_79 : decode cX6_digest 79 = .ok (.aload_n 0, 1) := by decide +kernel
theorem dX6_digest_80 : decode cX6_digest 80 = .ok (.iload_n 3, 1) := by decide +kernel
theorem dX6_digest_81 : decode cX6_digest 81 = .ok (.invokevirtual 261, 3) := by decide +kernel
theorem dX6_digest_84 : decode cX6_digest 84 = .ok (.i2l, 1) := by decide +kernel
theorem dX6_digest_85 : decode cX6_digest 85 = .ok (.ladd, 1) := by decide +kernel
theorem dX6_digest_86 : decode cX6_digest 86 = .ok (.lstore_n 1, 1) := by decide +kernel
theorem dX6_digest_87 : decode cX6_digest 87 = .ok (.iinc 3 1, 3) := by decide +kernel
theorem dX6_digest_90 : decode cX6_digest 90 = .ok (.goto (-57), 3) := by decide +kernel
theorem dX6_digest_93 : decode cX6_digest 93 = .ok (.iconst 0, 1) := by decide +kernel
theorem dX6_digest_94 : decode cX6_digest 94 = .ok (.istore_n 3, 1) := by decide +kernel
theorem dX6_digest_95 : decode cX6_digest 95 = .ok (.iload_n 3, 1) := by decide +kernel
theorem dX6_digest_96 : decode cX6_digest 96 = .ok (.aload_n 0, 1) := by decide +kernel
theorem dX6_digest_97 : decode cX6_digest 97 = .ok (.getfield 28, 3) := by decide +kernel
theorem dX6_digest_100 : decode cX6_digest 100 = .ok (.getfield 118, 3) := by decide +kernel
theorem dX6_digest_103 : decode cX6_digest 103 = .ok (.if_icmp .ge 16, 3) := by decide +kernel
theorem dX6_digest_106 : decode cX6_digest 106 = .ok (.aload_n 0, 1) := by decide +kernel
theorem dX6_digest_107 : decode cX6_digest 107 = .ok (.lload_n 1, 1) := by decide +kernel
theorem dX6_digest_108 : decode cX6_digest 108 = .ok (.iload_n 3, 1) := by decide +kernel
theorem dX6_digest_109 : decode cX6_digest 109 = .ok (.invokevirtual 264, 3) := by decide +kernel
theorem dX6_digest_112 : decode cX6_digest 112 = .ok (.lstore_n 1, 1) := by decide +kernel
theorem dX6_digest_113 : decode cX6_digest 113 = .ok (.iinc 3 1, 3) := by decide +kernel
theorem dX6_digest_116 : decode cX6_digest 116 = .ok (.goto (-21), 3) := by decide +kernel
theorem dX6_digest_119 : decode cX6_digest 119 = .ok (.iconst 0, 1) := by decide +kernel
theorem dX6_digest_120 : decode cX6_digest 120 = .ok (.istore_n 3, 1) := by decide +kernel
theorem dX6_digest_121 : decode cX6_digest 121 = .ok (.iload_n 3, 1) := by decide +kernel
theorem dX6_digest_122 : decode cX6_digest 122 = .ok (.iconst 4, 1) := by decide +kernel
theorem dX6_digest_123 : decode cX6_digest 123 = .ok (.if_icmp .ge 22, 3) := by decide +kernel
theorem dX6_digest_126 : decode cX6_digest 126 = .ok (.lload_n 1, 1) := by decide +kernel
theorem dX6_digest_127 : decode cX6_digest 127 = .ok (.ldc2_w 253, 3) := by decide +kernel
theorem dX6_digest_130 : decode cX6_digest 130 = .ok (.lmul, 1) := by decide +kernel
theorem dX6_digest_131 : decode cX6_digest 131 = .ok (.aload_n 0, 1) := by decide +kernel
theorem dX6_digest_132 : decode cX6_digest 132 = .ok (.iload_n 3, 1) := by decide +kernel
theorem dX6_digest_133 : decode cX6_digest 133 = .ok (.invokevirtual 268, 3) := by decide +kernel
theorem dX6_digest_136 : decode cX6_digest 136 = .ok (.i2l, 1) := by decide +kernel
theorem dX6_digest_137 : decode cX6_digest 137 = .ok (.ladd, 1) := by decide +kernel
theorem dX6_digest_138 : decode cX6_digest 138 = .ok (.lstore_n 1, 1) := by decide +kernel
theorem dX6_digest_139 : decode cX6_digest 139 = .ok (.iinc 3 1, 3) := by decide +kernel
theorem dX6_digest_142 : decode cX6_digest 142 = .ok (.goto (-21), 3) := by decide +kernel
theorem dX6_digest_145 : decode cX6_digest 145 = .ok (.lload_n 1, 1) := by decide +kernel
theorem dX6_digest_146 : decode cX6_digest 146 = .ok (.ldc2_w 253, 3) := by decide +kernel
theorem dX6_digest_149 : decode cX6_digest 149 = .ok (.lmul, 1) := by decide +kernel
theorem dX6_digest_150 : decode cX6_digest 150 = .ok (.aload_n 0, 1) := by decide +kernel
theorem dX6_digest_151 : decode cX6_digest 151 = .ok (.iconst 1, 1) := by decide +kernel
theorem dX6_digest_152 : decode cX6_digest 152 = .ok (.iconst 5, 1) := by decide +kernel
theorem dX6_digest_153 : decode cX6_digest 153 = .ok (.invokevirtual 271, 3) := by decide +kernel
theorem dX6_digest_156 : decode cX6_digest 156 = .ok (.i2l, 1) := by decide +kernel
theorem dX6_digest_157 : decode cX6_digest 157 = .ok (.ladd, 1) := by decide +kernel
theorem dX6_digest_158 : decode cX6_digest 158 = .ok (.lstore_n 1, 1) := by decide +kernel
theorem dX6_digest_159 : decode cX6_digest 159 = .ok (.lload_n 1, 1) := by decide +kernel
theorem dX6_digest_160 : decode cX6_digest 160 = .ok (.ldc2_w 253, 3) := by decide +kernel
theorem dX6_digest_163 : decode cX6_digest 163 = .ok (.lmul, 1) := by decide +kernel
theorem dX6_digest_164 : decode cX6_digest 164 = .ok (.aload_n 0, 1) := by decide +kernel
theorem dX6_digest_165 : decode cX6_digest 165 = .ok (.iconst 3, 1) := by decide +kernel
theorem dX6_digest_166 : decode cX6_digest 166 = .ok (.bipush 10, 2) := by decide +kernel
theorem dX6_digest_168 : decode cX6_digest 168 = .ok (.invokevirtual 271, 3) := by decide +kernel
theorem dX6_digest_171 : decode cX6_digest 171 = .ok (.i2l, 1) := by decide +kernel
theorem dX6_digest_172 : decode cX6_digest 172 = .ok (.ladd, 1) := by decide +kernel
theorem dX6_digest_173 : decode cX6_digest 173 = .ok (.lreturn, 1) := by decide +kernel
theorem dX6_digestOfProcess_0 : decode cX6_digestOfProcess 0 = .ok (.lload_n 1, 1) := by decide +kernel
theorem dX6_digestOfProcess_1 : decode cX6_digestOfProcess 1 = .ok (.lstore 4, 2) := by decide +kernel
theorem dX6_digestOfProcess_3 : decode cX6_digestOfProcess 3 = .ok (.iconst 0, 1) := by decide +kernel
theorem dX6_digestOfProcess_4 : decode cX6_digestOfProcess 4 = .ok (.istore 6, 2) := by decide +kernel
theorem dX6_digestOfProcess_6 : decode cX6_digestOfProcess 6 = .ok (.iload 6, 2) := by decide +kernel
theorem dX6_digestOfProcess_8 : decode cX6_digestOfProcess 8 = .ok (.bipush 12, 2) := by decide +kernel
theorem dX6_digestOfProcess_10 : decode cX6_digestOfProcess 10 = .ok (.if_icmp .gt 26, 3) := by decide +kernel
theorem dX6_digestOfProcess_13 : decode cX6_digestOfProcess 13 = .ok (.lload 4, 2) := by decide +kernel
theorem dX6_digestOfProcess_15 : decode cX6_digestOfProcess 15 = .ok (.ldc2_w 253, 3) := by decide +kernel
theorem dX6_digestOfProcess_18 : decode cX6_digestOfProcess 18 = .ok (.lmul, 1) := by decide +kernel
theorem dX6_digestOfProcess_19 : decode cX6_digestOfProcess 19 = .ok (.aload_n 0, 1) := by decide +kernel
theorem dX6_digestOfProcess_20 : decode cX6_digestOfProcess 20 = .ok (.iload_n 3, 1) := by decide +kernel
theorem dX6_digestOfProcess_21 : decode cX6_digestOfProcess 21 = .ok (.iload 6, 2) := by decide +kernel
theorem dX6_digestOfProcess_23 : decode cX6_digestOfProcess 23 = .ok (.invokevirtual 274, 3) := by decide +kernel
theorem dX6_digestOfProcess_26 : decode cX6_digestOfProcess 26 = .ok (.i2l, 1) := by decide +kernel
theorem dX6_digestOfProcess_27 : decode cX6_digestOfProcess 27 = .ok (.ladd, 1) := by decide +kernel
theorem dX6_digestOfProcess_28 : decode cX6_digestOfProcess 28 = .ok (.lstore 4, 2) := by decide +kernel
theorem dX6_digestOfProcess_30 : decode cX6_digestOfProcess 30 = .ok (.iinc 6 1, 3) := by decide +kernel
theorem dX6_digestOfProcess_33 : decode cX6_digestOfProcess 33 = .ok (.goto (-27), 3) := by decide +kernel
theorem dX6_digestOfProcess_36 : decode cX6_digestOfProcess 36 = .ok (.iconst 0, 1) := by decide +kernel
theorem dX6_digestOfProcess_37 : decode cX6_digestOfProcess 37 = .ok (.istore 6, 2) := by decide +kernel
theorem dX6_digestOfProcess_39 : decode cX6_digestOfProcess 39 = .ok (.iload 6, 2) := by decide +kernel
theorem dX6_digestOfProcess_41 : decode cX6_digestOfProcess 41 = .ok (.iconst 4, 1) := by decide +kernel
theorem dX6_digestOfProcess_42 : decode cX6_digestOfProcess 42 = .ok (.if_icmp .ge 26, 3) := by decide +kernel
theorem dX6_digestOfProcess_45 : decode cX6_digestOfProcess 45 = .ok (.lload 4, 2) := by decide +kernel
theorem dX6_digestOfProcess_47 : decode cX6_digestOfProcess 47 = .ok (.ldc2_w 253, 3) := by decide +kernel
theorem dX6_digestOfProcess_50 : decode cX6_digestOfProcess 50 = .ok (.lmul, 1) := by decide +kernel
theorem dX6_digestOfProcess_51 : decode cX6_digestOfProcess 51 = .ok (.aload_n 0, 1) := by decide +kernel
theorem dX6_digestOfProcess_52 : decode cX6_digestOfProcess 52 = .ok (.iload_n 3, 1) := by decide +kernel
theorem dX6_digestOfProcess_53 : decode cX6_digestOfProcess 53 = .ok (.iload 6, 2) := by decide +kernel
theorem dX6_digestOfProcess_55 : decode cX6_digestOfProcess 55 = .ok (.invokevirtual 277, 3) := by decide +kernel
theorem dX6_digestOfProcess_58 : decode cX6_digestOfProcess 58 = .ok (.i2l, 1) := by decide +kernel
theorem dX6_digestOfProcess_59 : decode cX6_digestOfProcess 59 = .ok (.ladd, 1) := by decide +kernel
theorem dX6_digestOfProcess_60 : decode cX6_digestOfProcess 60 = .ok (.lstore 4, 2) := by decide +kernel
theorem dX6_digestOfProcess_62 : decode cX6_digestOfProcess 62 = .ok (.iinc 6 1, 3) := by decide +kernel
theorem dX6_digestOfProcess_65 : decode cX6_digestOfProcess 65 = .ok (.goto (-26), 3) := by decide +kernel
theorem dX6_digestOfProcess_68 : decode cX6_digestOfProcess 68 = .ok (.aload_n 0, 1) := by decide +kernel
theorem dX6_digestOfProcess_69 : decode cX6_digestOfProcess 69 = .ok (.iload_n 3, 1) := by decide +kernel
theorem dX6_digestOfProcess_70 : decode cX6_digestOfProcess 70 = .ok (.bipush 8, 2) := by decide +kernel
theorem dX6_digestOfProcess_72 : decode cX6_digestOfProcess 72 = .ok (.invokevirtual 274, 3) := by decide +kernel
theorem dX6_digestOfProcess_75 : decode cX6_digestOfProcess 75 = .ok (.istore 6, 2) := by decide +kernel
theorem dX6_digestOfProcess_77 : decode cX6_digestOfProcess 77 = .ok (.iconst 0, 1) := by decide +kernel
theorem dX6_digestOfProcess_78 : decode cX6_digestOfProcess 78 = .ok (.istore 7, 2) := by decide +kernel
theorem dX6_digestOfProcess_80 : decode cX6_digestOfProcess 80 = .ok (.iload 7, 2) := by decide +kernel
theorem dX6_digestOfProcess_82 : decode cX6_digestOfProcess 82 = .ok (.iload 6, 2) := by decide +kernel
theorem dX6_digestOfProcess_84 : decode cX6_digestOfProcess 84 = .ok (.if_icmp .ge 45, 3) := by decide +kernel
theorem dX6_digestOfProcess_87 : decode cX6_digestOfProcess 87 = .ok (.lload 4, 2) := by decide +kernel
theorem dX6_digestOfProcess_89 : decode cX6_digestOfProcess 89 = .ok (.ldc2_w 253, 3) := by decide +kernel
theorem dX6_digestOfProcess_92 : decode cX6_digestOfProcess 92 = .ok (.lmul, 1) := by decide +kernel
theorem dX6_digestOfProcess_93 : decode cX6_digestOfProcess 93 = .ok (.aload_n 0, 1) := by decide +kernel
theorem dX6_digestOfProcess_94 : decode cX6_digestOfProcess 94 = .ok (.iload_n 3, 1) := by decide +kernel
theorem dX6_digestOfProcess_95 : decode cX6_digestOfProcess 95 = .ok (.iload 7, 2) := by decide +kernel
theorem dX6_digestOfProcess_97 : decode cX6_digestOfProcess 97 = .ok (.iconst 0, 1) := by decide +kernel
theorem dX6_digestOfProcess_98 : decode cX6_digestOfProcess 98 = .ok (.invokevirtual 280, 3) := by decide +kernel
theorem dX6_digestOfProcess_101 : decode cX6_digestOfProcess 101 = .ok (.i2l, 1) := by decide +kernel
theorem dX6_digestOfProcess_102 : decode cX6_digestOfProcess 102 = .ok (.ladd, 1) := by decide +kernel
theorem dX6_digestOfProcess_103 : decode cX6_digestOfProcess 103 = .ok (.lstore 4, 2) := by decide +kernel
theorem dX6_digestOfProcess_105 : decode cX6_digestOfProcess 105 = .ok (.lload 4, 2) := by decide +kernel
theorem dX6_digestOfProcess_107 : decode cX6_digestOfProcess 107 = .ok (.ldc2_w 253, 3) := by decide +kernel
theorem dX6_digestOfProcess_110 : decode cX6_digestOfProcess 110 = .ok (.lmul, 1) := by decide +kernel
theorem dX6_digestOfProcess_111 : decode cX6_digestOfProcess 111 = .ok (.aload_n 0, 1) := by decide +kernel
theorem dX6_digestOfProcess_112 : decode cX6_digestOfProcess 112 = .ok (.iload_n 3, 1) := by decide +kernel
theorem dX6_digestOfProcess_113 : decode cX6_digestOfProcess 113 = .ok (.iload 7, 2) := by decide +kernel
theorem dX6_digestOfProcess_115 : decode cX6_digestOfProcess 115 = .ok (.iconst 1, 1) := by decide +kernel
theorem dX6_digestOfProcess_116 : decode cX6_digestOfProcess 116 = .ok (.invokevirtual 280, 3) := by decide +kernel
theorem dX6_digestOfProcess_119 : decode cX6_digestOfProcess 119 = .ok (.i2l, 1) := by decide +kernel
theorem dX6_digestOfProcess_120 : decode cX6_digestOfProcess 120 = .ok (.ladd, 1) := by decide +kernel
theorem dX6_digestOfProcess_121 : decode cX6_digestOfProcess 121 = .ok (.lstore 4, 2) := by decide +kernel
theorem dX6_digestOfProcess_123 : decode cX6_digestOfProcess 123 = .ok (.iinc 7 1, 3) := by decide +kernel
theorem dX6_digestOfProcess_126 : decode cX6_digestOfProcess 126 = .ok (.goto (-46), 3) := by decide +kernel
theorem dX6_digestOfProcess_129 : decode cX6_digestOfProcess 129 = .ok (.iconst 0, 1) := by decide +kernel
theorem dX6_digestOfProcess_130 : decode cX6_digestOfProcess 130 = .ok (.istore 7, 2) := by decide +kernel
theorem dX6_digestOfProcess_132 : decode cX6_digestOfProcess 132 = .ok (.iload 7, 2) := by decide +kernel
theorem dX6_digestOfProcess_134 : decode cX6_digestOfProcess 134 = .ok (.bipush 6, 2) := by decide +kernel
theorem dX6_digestOfProcess_136 : decode cX6_digestOfProcess 136 = .ok (.if_icmp .gt 26, 3) := by decide +kernel
theorem dX6_digestOfProcess_139 : decode cX6_digestOfProcess 139 = .ok (.lload 4, 2) := by decide +kernel
theorem dX6_digestOfProcess_141 : decode cX6_digestOfProcess 141 = .ok (.ldc2_w 253, 3) := by decide +kernel
theorem dX6_digestOfProcess_144 : decode cX6_digestOfProcess 144 = .ok (.lmul, 1) := by decide +kernel
theorem dX6_digestOfProcess_145 : decode cX6_digestOfProcess 145 = .ok (.aload_n 0, 1) := by decide +kernel
theorem dX6_digestOfProcess_146 : decode cX6_digestOfProcess 146 = .ok (.iload_n 3, 1) := by decide +kernel
theorem dX6_digestOfProcess_147 : decode cX6_digestOfProcess 147 = .ok (.iload 7, 2) := by decide +kernel
theorem dX6_digestOfProcess_149 : decode cX6_digestOfProcess 149 = .ok (.invokevirtual 283, 3) := by decide +kernel
theorem dX6_digestOfProcess_152 : decode cX6_digestOfProcess 152 = .ok (.i2l, 1) := by decide +kernel
theorem dX6_digestOfProcess_153 : decode cX6_digestOfProcess 153 = .ok (.ladd, 1) := by decide +kernel
theorem dX6_digestOfProcess_154 : decode cX6_digestOfProcess 154 = .ok (.lstore 4, 2) := by decide +kernel
theorem dX6_digestOfProcess_156 : decode cX6_digestOfProcess 156 = .ok (.iinc 7 1, 3) := by decide +kernel
theorem dX6_digestOfProcess_159 : decode cX6_digestOfProcess 159 = .ok (.goto (-27), 3) := by decide +kernel
theorem dX6_digestOfProcess_162 : decode cX6_digestOfProcess 162 = .ok (.lload 4, 2) := by decide +kernel
theorem dX6_digestOfProcess_164 : decode cX6_digestOfProcess 164 = .ok (.ldc2_w 253, 3) := by decide +kernel
theorem dX6_digestOfProcess_167 : decode cX6_digestOfProcess 167 = .ok (.lmul, 1) := by decide +kernel
theorem dX6_digestOfProcess_168 : decode cX6_digestOfProcess 168 = .ok (.aload_n 0, 1) := by decide +kernel
theorem dX6_digestOfProcess_169 : decode cX6_digestOfProcess 169 = .ok (.iload_n 3, 1) := by decide +kernel
theorem dX6_digestOfProcess_170 : decode cX6_digestOfProcess 170 = .ok (.iconst 0, 1) := by decide +kernel
theorem dX6_digestOfProcess_171 : decode cX6_digestOfProcess 171 = .ok (.invokevirtual 286, 3) := by decide +kernel
theorem dX6_digestOfProcess_174 : decode cX6_digestOfProcess 174 = .ok (.i2l, 1) := by decide +kernel
theorem dX6_digestOfProcess_175 : decode cX6_digestOfProcess 175 = .ok (.ladd, 1) := by decide +kernel
theorem dX6_digestOfProcess_176 : decode cX6_digestOfProcess 176 = .ok (.lstore 4, 2) := by decide +kernel
theorem dX6_digestOfProcess_178 : decode cX6_digestOfProcess 178 = .ok (.lload 4, 2) := by decide +kernel
theorem dX6_digestOfProcess_180 : decode cX6_digestOfProcess 180 = .ok (.ldc2_w 253, 3) := by decide +kernel
theorem dX6_digestOfProcess_183 : decode cX6_digestOfProcess 183 = .ok (.lmul, 1) := by decide +kernel
theorem dX6_digestOfProcess_184 : decode cX6_digestOfProcess 184 = .ok (.aload_n 0, 1) := by decide +kernel
theorem dX6_digestOfProcess_185 : decode cX6_digestOfProcess 185 = .ok (.iload_n 3, 1) := by decide +kernel
theorem dX6_digestOfProcess_186 : decode cX6_digestOfProcess 186 = .ok (.iconst 1, 1) := by decide +kernel
theorem dX6_digestOfProcess_187 : decode cX6_digestOfProcess 187 = .ok (.invokevirtual 286, 3) := by decide +kernel
theorem dX6_digestOfProcess_190 : decode cX6_digestOfProcess 190 = .ok (.i2l, 1) := by decide +kernel
theorem dX6_digestOfProcess_191 : decode cX6_digestOfProcess 191 = .ok (.ladd, 1) := by decide +kernel
theorem dX6_digestOfProcess_192 : decode cX6_digestOfProcess 192 = .ok (.lstore 4, 2) := by decide +kernel
theorem dX6_digestOfProcess_194 : decode cX6_digestOfProcess 194 = .ok (.lload 4, 2) := by decide +kernel
theorem dX6_digestOfProcess_196 : decode cX6_digestOfProcess 196 = .ok (.ldc2_w 253, 3) := by decide +kernel
theorem dX6_digestOfProcess_199 : decode cX6_digestOfProcess 199 = .ok (.lmul, 1) := by decide +kernel
theorem dX6_digestOfProcess_200 : decode cX6_digestOfProcess 200 = .ok (.aload_n 0, 1) := by decide +kernel
theorem dX6_digestOfProcess_201 : decode cX6_digestOfProcess 201 = .ok (.iload_n 3, 1) := by decide +kernel
theorem dX6_digestOfProcess_202 : decode cX6_digestOfProcess 202 = .ok (.bipush 9, 2) := by decide +kernel
theorem dX6_digestOfProcess_204 : decode cX6_digestOfProcess 204 = .ok (.invokevirtual 286, 3) := by decide +kernel
theorem dX6_digestOfProcess_207 : decode cX6_digestOfProcess 207 = .ok (.i2l, 1) := by decide +kernel
theorem dX6_digestOfProcess_208 : decode cX6_digestOfProcess 208 = .ok (.ladd, 1) := by decide +kernel
theorem dX6_digestOfProcess_209 : decode cX6_digestOfProcess 209 = .ok (.lstore 4, 2) := by decide +kernel
theorem dX6_digestOfProcess_211 : decode cX6_digestOfProcess 211 = .ok (.lload 4, 2) := by decide +kernel
theorem dX6_digestOfProcess_213 : decode cX6_digestOfProcess 213 = .ok (.ldc2_w 253, 3) := by decide +kernel
theorem dX6_digestOfProcess_216 : decode cX6_digestOfProcess 216 = .ok (.lmul, 1) := by decide +kernel
theorem dX6_digestOfProcess_217 : decode cX6_digestOfProcess 217 = .ok (.aload_n 0, 1) := by decide +kernel
theorem dX6_digestOfProcess_218 : decode cX6_digestOfProcess 218 = .ok (.iload_n 3, 1) := by decide +kernel
theorem dX6_digestOfProcess_219 : decode cX6_digestOfProcess 219 = .ok (.iconst 1, 1) := by decide +kernel
theorem dX6_digestOfProcess_220 : decode cX6_digestOfProcess 220 = .ok (.invokevirtual 289, 3) := by decide +kernel
theorem dX6_digestOfProcess_223 : decode cX6_digestOfProcess 223 = .ok (.i2l, 1) := by decide +kernel
theorem dX6_digestOfProcess_224 : decode cX6_digestOfProcess 224 = .ok (.ladd, 1) := by decide +kernel
theorem dX6_digestOfProcess_225 : decode cX6_digestOfProcess 225 = .ok (.lreturn, 1) := by decide +kernel
theorem dX6_init_0 : decode cX6_init 0 = .ok (.aload_n 0, 1) := by decide +kernel
theorem dX6_init_1 : decode cX6_init 1 = .ok (.invokespecial 3, 3) := by decide +kernel
theorem dX6_init_4 : decode cX6_init 4 = .ok (.aload_n 0, 1) := by decide +kernel
theorem dX6_init_5 : decode cX6_init 5 = .ok (.new 9, 3) := by decide +kernel
theorem dX6_init_8 : decode cX6_init 8 = .ok (.dup, 1) := by decide +kernel
theorem dX6_init_9 : decode cX6_init 9 = .ok (.invokespecial 11, 3) := by decide +kernel
theorem dX6_init_12 : decode cX6_init 12 = .ok (.putfield 12, 3) := by decide +kernel
theorem dX6_init_15 : decode cX6_init 15 = .ok (.aload_n 0, 1) := by decide +kernel
theorem dX6_init_16 : decode cX6_init 16 = .ok (.new 16, 3) := by decide +kernel
theorem dX6_init_19 : decode cX6_init 19 = .ok (.dup, 1) := by decide +kernel
theorem dX6_init_20 : decode cX6_init 20 = .ok (.invokespecial 18, 3) := by decide +kernel
theorem dX6_init_23 : decode cX6_init 23 = .ok (.putfield 19, 3) := by decide +kernel
theorem dX6_init_26 : decode cX6_init 26 = .ok (.aload_n 0, 1) := by decide +kernel
theorem dX6_init_27 : decode cX6_init 27 = .ok (.new 23, 3) := by decide +kernel
theorem dX6_init_30 : decode cX6_init 30 = .ok (.dup, 1) := by decide +kernel
theorem dX6_init_31 : decode cX6_init 31 = .ok (.aload_n 0, 1) := by decide +kernel
theorem dX6_init_32 : decode cX6_init 32 = .ok (.getfield 12, 3) := by decide +kernel
theorem dX6_init_35 : decode cX6_init 35 = .ok (.aload_n 0, 1) := by decide +kernel
theorem dX6_init_36 : decode cX6_init 36 = .ok (.getfield 19, 3) := by decide +kernel
theorem dX6_init_39 : decode cX6_init 39 = .ok (.invokespecial 25, 3) := by decide +kernel
theorem dX6_init_42 : decode cX6_init 42 = .ok (.putfield 28, 3) := by decide +kernel
theorem dX6_init_45 : decode cX6_init 45 = .ok (.aload_n 0, 1) := by decide +kernel
theorem dX6_init_46 : decode cX6_init 46 = .ok (.new 23, 3) := by decide +kernel
theorem dX6_init_49 : decode cX6_init 49 = .ok (.dup, 1) := by decide +kernel
theorem dX6_init_50 : decode cX6_init 50 = .ok (.aload_n 0, 1) := by decide +kernel
theorem dX6_init_51 : decode cX6_init 51 = .ok (.getfield 12, 3) := by decide +kernel
theorem dX6_init_54 : decode cX6_init 54 = .ok (.aload_n 0, 1) := by decide +kernel
theorem dX6_init_55 : decode cX6_init 55 = .ok (.getfield 19, 3) := by decide +kernel
theorem dX6_init_58 : decode cX6_init 58 = .ok (.invokespecial 25, 3) := by decide +kernel
theorem dX6_init_61 : decode cX6_init 61 = .ok (.putfield 32, 3) := by decide +kernel
theorem dX6_init_64 : decode cX6_init 64 = .ok (.return_, 1) := by decide +kernel
theorem dX6_isWithin_0 : decode cX6_isWithin 0 = .ok (.iload_n 0, 1) := by decide +kernel
theorem dX6_isWithin_1 : decode cX6_isWithin 1 = .ok (.iload_n 1, 1) := by decide +kernel
theorem dX6_isWithin_2 : decode cX6_isWithin 2 = .ok (.if_icmp .lt 12, 3) := by decide +kernel
theorem dX6_isWithin_5 : decode cX6_isWithin 5 = .ok (.iload_n 0, 1) := by decide +kernel
theorem dX6_isWithin_6 : decode cX6_isWithin 6 = .ok (.iload_n 2, 1) := by decide +kernel
theorem dX6_isWithin_7 : decode cX6_isWithin 7 = .ok (.if_icmp .gt 7, 3) := by decide +kernel
theorem dX6_isWithin_10 : decode cX6_isWithin 10 = .ok (.iconst 1, 1) := by decide +kernel
theorem dX6_isWithin_11 : decode cX6_isWithin 11 = .ok (.goto 4, 3) := by decide +kernel
theorem dX6_isWithin_14 : decode cX6_isWithin 14 = .ok (.iconst 0, 1) := by decide +kernel
theorem dX6_isWithin_15 : decode cX6_isWithin 15 = .ok (.ireturn, 1) := by decide +kernel
theorem dX6_line_0 : decode cX6_line 0 = .ok (.aload_n 0, 1) := by decide +kernel
theorem dX6_line_1 : decode cX6_line 1 = .ok (.getfield 12, 3) := by decide +kernel
theorem dX6_line_4 : decode cX6_line 4 = .ok (.iload_n 1, 1) := by decide +kernel
theorem dX6_line_5 : decode cX6_line 5 = .ok (.invokevirtual 43, 3) := by decide +kernel
theorem dX6_line_8 : decode cX6_line 8 = .ok (.invokestatic 47, 3) := by decide +kernel
theorem dX6_line_11 : decode cX6_line 11 = .ok (.aload_n 0, 1) := by decide +kernel
theorem dX6_line_12 : decode cX6_line 12 = .ok (.getfield 28, 3) := by decide +kernel
theorem dX6_line_15 : decode cX6_line 15 = .ok (.iload_n 1, 1) := by decide +kernel
theorem dX6_line_16 : decode cX6_line 16 = .ok (.invokevirtual 50, 3) := by decide +kernel
theorem dX6_line_19 : decode cX6_line 19 = .ok (.istore 5, 2) := by decide +kernel
theorem dX6_line_21 : decode cX6_line 21 = .ok (.aload_n 0, 1) := by decide +kernel
theorem dX6_line_22 : decode cX6_line 22 = .ok (.getfield 12, 3) := by decide +kernel
theorem dX6_line_25 : decode cX6_line 25 = .ok (.iload_n 1, 1) := by decide +kernel
theorem dX6_line_26 : decode cX6_line 26 = .ok (.iload 5, 2) := by decide +kernel
theorem dX6_line_28 : decode cX6_line 28 = .ok (.invokevirtual 54, 3) := by decide +kernel
theorem dX6_line_31 : decode cX6_line 31 = .ok (.istore 6, 2) := by decide +kernel
theorem dX6_line_33 : decode cX6_line 33 = .ok (.aload_n 0, 1) := by decide +kernel
theorem dX6_line_34 : decode cX6_line 34 = .ok (.getfield 12, 3) := by decide +kernel
theorem dX6_line_37 : decode cX6_line 37 = .ok (.iload_n 2, 1) := by decide +kernel
theorem dX6_line_38 : decode cX6_line 38 = .ok (.iload_n 3, 1) := by decide +kernel
theorem dX6_line_39 : decode cX6_line 39 = .ok (.iload 4, 2) := by decide +kernel
theorem dX6_line_41 : decode cX6_line 41 = .ok (.iload 6, 2) := by decide +kernel
theorem dX6_line_43 : decode cX6_line 43 = .ok (.invokevirtual 58, 3) := by decide +kernel
theorem dX6_line_46 : decode cX6_line 46 = .ok (.invokestatic 62, 3) := by decide +kernel
theorem dX6_line_49 : decode cX6_line 49 = .ok (.iload 6, 2) := by decide +kernel
theorem dX6_line_51 : decode cX6_line 51 = .ok (.bipush 12, 2) := by decide +kernel
theorem dX6_line_53 : decode cX6_line 53 = .ok (.if_icmp .ge 18, 3) := by decide +kernel
theorem dX6_line_56 : decode cX6_line 56 = .ok (.aload_n 0, 1) := by decide +kernel
theorem dX6_line_57 : decode cX6_line 57 = .ok (.getfield 28, 3) := by decide +kernel
theorem dX6_line_60 : decode cX6_line 60 = .ok (.iload_n 1, 1) := by decide +kernel
theorem dX6_line_61 : decode cX6_line 61 = .ok (.invokevirtual 65, 3) := by decide +kernel
theorem dX6_line_64 : decode cX6_line 64 = .ok (.ifCond .ne 7, 3) := by decide +kernel
theorem dX6_line_67 : decode cX6_line 67 = .ok (.iconst 1, 1) := by decide +kernel
theorem dX6_line_68 : decode cX6_line 68 = .ok (.goto 4, 3) := by decide +kernel
theorem dX6_line_71 : decode cX6_line 71 = .ok (.iconst 0, 1) := by decide +kernel
theorem dX6_line_72 : decode cX6_line 72 = .ok (.invokestatic 39, 3) := by decide +kernel
theorem dX6_line_75 : decode cX6_line 75 = .ok (.aload_n 0, 1) := by decide +kernel
theorem dX6_line_76 : decode cX6_line 76 = .ok (.getfield 12, 3) := by decide +kernel
theorem dX6_line_79 : decode cX6_line 79 = .ok (.iload_n 1, 1) := by decide +kernel
theorem dX6_line_80 : decode cX6_line 80 = .ok (.iload 5, 2) := by decide +kernel
theorem dX6_line_82 : decode cX6_line 82 = .ok (.iload_n 2, 1) := by decide +kernel
theorem dX6_line_83 : decode cX6_line 83 = .ok (.iload_n 3, 1) := by decide +kernel
theorem dX6_line_84 : decode cX6_line 84 = .ok (.iload 4, 2) := by decide +kernel
theorem dX6_line_86 : decode cX6_line 86 = .ok (.invokevirtual 68, 3) := by decide +kernel
theorem dX6_line_89 : decode cX6_line 89 = .ok (.ireturn, 1) := by decide +kernel
theorem dX6_load_0 : decode cX6_load 0 = .ok (.aload_n 0, 1) := by decide +kernel
theorem dX6_load_1 : decode cX6_load 1 = .ok (.getfield 12, 3) := by decide +kernel
theorem dX6_load_4 : decode cX6_load 4 = .ok (.iload_n 1, 1) := by decide +kernel
theorem dX6_load_5 : decode cX6_load 5 = .ok (.invokevirtual 43, 3) := by decide +kernel
theorem dX6_load_8 : decode cX6_load 8 = .ok (.invokestatic 47, 3) := by decide +kernel
theorem dX6_load_11 : decode cX6_load 11 = .ok (.aload_n 0, 1) := by decide +kernel
theorem dX6_load_12 : decode cX6_load 12 = .ok (.getfield 28, 3) := by decide +kernel
theorem dX6_load_15 : decode cX6_load 15 = .ok (.iload_n 1, 1) := by decide +kernel
theorem dX6_load_16 : decode cX6_load 16 = .ok (.invokevirtual 50, 3) := by decide +kernel
theorem dX6_load_19 : decode cX6_load 19 = .ok (.iconst 1, 1) := by decide +kernel
theorem dX6_load_20 : decode cX6_load 20 = .ok (.iadd, 1) := by decide +kernel
theorem dX6_load_21 : decode cX6_load 21 = .ok (.iconst 4, 1) := by decide +kernel
theorem dX6_load_22 : decode cX6_load 22 = .ok (.if_icmp .ge 7, 3) := by decide +kernel
theorem dX6_load_25 : decode cX6_load 25 = .ok (.iconst 1, 1) := by decide +kernel
theorem dX6_load_26 : decode cX6_load 26 = .ok (.goto 4, 3) := by decide +kernel
theorem dX6_load_29 : decode cX6_load 29 = .ok (.iconst 0, 1) := by decide +kernel
theorem dX6_load_30 : decode cX6_load 30 = .ok (.invokestatic 39, 3) := by decide +kernel
theorem dX6_load_33 : decode cX6_load 33 = .ok (.aload_n 0, 1) := by decide +kernel
theorem dX6_load_34 : decode cX6_load 34 = .ok (.getfield 28, 3) := by decide +kernel
theorem dX6_load_37 : decode cX6_load 37 = .ok (.getfield 72, 3) := by decide +kernel
theorem dX6_load_40 : decode cX6_load 40 = .ok (.istore_n 2, 1) := by decide +kernel
theorem dX6_load_41 : decode cX6_load 41 = .ok (.aload_n 0, 1) := by decide +kernel
theorem dX6_load_42 : decode cX6_load 42 = .ok (.getfield 28, 3) := by decide +kernel
theorem dX6_load_45 : decode cX6_load 45 = .ok (.iload_n 1, 1) := by decide +kernel
theorem dX6_load_46 : decode cX6_load 46 = .ok (.invokevirtual 75, 3) := by decide +kernel
theorem dX6_load_49 : decode cX6_load 49 = .ok (.aload_n 0, 1) := by decide +kernel
theorem dX6_load_50 : decode cX6_load 50 = .ok (.getfield 28, 3) := by decide +kernel
theorem dX6_load_53 : decode cX6_load 53 = .ok (.getfield 72, 3) := by decide +kernel
theorem dX6_load_56 : decode cX6_load 56 = .ok (.iload_n 2, 1) := by decide +kernel
theorem dX6_load_57 : decode cX6_load 57 = .ok (.isub, 1) := by decide +kernel
theorem dX6_load_58 : decode cX6_load 58 = .ok (.ireturn, 1) := by decide +kernel
theorem dX6_local_0 : decode cX6_local 0 = .ok (.aload_n 0, 1) := by decide +kernel
theorem dX6_local_1 : decode cX6_local 1 = .ok (.iload_n 1, 1) := by decide +kernel
theorem dX6_local_2 : decode cX6_local 2 = .ok (.invokevirtual 130, 3) := by decide +kernel
theorem dX6_local_5 : decode cX6_local 5 = .ok (.astore_n 3, 1) := by decide +kernel
theorem dX6_local_6 : decode cX6_local 6 = .ok (.iload_n 2, 1) := by decide +kernel
theorem dX6_local_7 : decode cX6_local 7 = .ok (.iconst 0, 1) := by decide +kernel
theorem dX6_local_8 : decode cX6_local 8 = .ok (.iconst 3, 1) := by decide +kernel
theorem dX6_local_9 : decode cX6_local 9 = .ok (.invokestatic 79, 3) := by decide +kernel
theorem dX6_local_12 : decode cX6_local 12 = .ok (.invokestatic 47, 3) := by decide +kernel
theorem dX6_local_15 : decode cX6_local 15 = .ok (.aload_n 3, 1) := by decide +kernel
theorem dX6_local_16 : decode cX6_local 16 = .ok (.iload_n 2, 1) := by decide +kernel
theorem dX6_local_17 : decode cX6_local 17 = .ok (.invokevirtual 189, 3) := by decide +kernel
theorem dX6_local_20 : decode cX6_local 20 = .ok (.ireturn, 1) := by decide +kernel
theorem dX6_mail_0 : decode cX6_mail 0 = .ok (.aload_n 0, 1) := by decide +kernel
theorem dX6_mail_1 : decode cX6_mail 1 = .ok (.iload_n 1, 1) := by decide +kernel
theorem dX6_mail_2 : decode cX6_mail 2 = .ok (.invokevirtual 130, 3) := by decide +kernel
theorem dX6_mail_5 : decode cX6_mail 5 = .ok (.getfield 169, 3) := by decide +kernel
theorem dX6_mail_8 : decode cX6_mail 8 = .ok (.astore 4, 2) := by decide +kernel
theorem dX6_mail_10 : decode cX6_mail 10 = .ok (.iload_n 2, 1) := by decide +kernel
theorem dX6_mail_11 : decode cX6_mail 11 = .ok (.iconst 0, 1) := by decide +kernel
theorem dX6_mail_12 : decode cX6_mail 12 = .ok (.aload 4, 2) := by decide +kernel
theorem dX6_mail_14 : decode cX6_mail 14 = .ok (.getfield 173, 3) := by decide +kernel
theorem dX6_mail_17 : decode cX6_mail 17 = .ok (.iconst 1, 1) := by decide +kernel
theorem dX6_mail_18 : decode cX6_mail 18 = .ok (.isub, 1) := by decide +kernel
theorem dX6_mail_19 : decode cX6_mail 19 = .ok (.invokestatic 79, 3) := by decide +kernel
theorem dX6_mail_22 : decode cX6_mail 22 = .ok (.invokestatic 47, 3) := by decide +kernel
theorem dX6_mail_25 : decode cX6_mail 25 = .ok (.iload_n 3, 1) := by decide +kernel
theorem dX6_mail_26 : decode cX6_mail 26 = .ok (.iconst 0, 1) := by decide +kernel
theorem dX6_mail_27 : decode cX6_mail 27 = .ok (.iconst 1, 1) := by decide +kernel
theorem dX6_mail_28 : decode cX6_mail 28 = .ok (.invokestatic 79, 3) := by decide +kernel
theorem dX6_mail_31 : decode cX6_mail 31 = .ok (.invokestatic 62, 3) := by decide +kernel
theorem dX6_mail_34 : decode cX6_mail 34 = .ok (.iload_n 2, 1) := by decide +kernel
theorem dX6_mail_35 : decode cX6_mail 35 = .ok (.ifCond .lt 9, 3) := by decide +kernel
theorem dX6_mail_38 : decode cX6_mail 38 = .ok (.iload_n 2, 1) := by decide +kernel
theorem dX6_mail_39 : decode cX6_mail 39 = .ok (.bipush 8, 2) := by decide +kernel
theorem dX6_mail_41 : decode cX6_mail 41 = .ok (.if_icmp .lt 5, 3) := by decide +kernel
theorem dX6_mail_44 : decode cX6_mail 44 = .ok (.iconst (-1), 1) := by decide +kernel
theorem dX6_mail_45 : decode cX6_mail 45 = .ok (.ireturn, 1) := by decide +kernel
theorem dX6_mail_46 : decode cX6_mail 46 = .ok (.iload_n 3, 1) := by decide +kernel
theorem dX6_mail_47 : decode cX6_mail 47 = .ok (.ifCond .ne 13, 3) := by decide +kernel
theorem dX6_mail_50 : decode cX6_mail 50 = .ok (.aload 4, 2) := by decide +kernel
theorem dX6_mail_52 : decode cX6_mail 52 = .ok (.getfield 192, 3) := by decide +kernel
theorem dX6_mail_55 : decode cX6_mail 55 = .ok (.iload_n 2, 1) := by decide +kernel
theorem dX6_mail_56 : decode cX6_mail 56 = .ok (.iaload, 1) := by decide +kernel
theorem dX6_mail_57 : decode cX6_mail 57 = .ok (.goto 10, 3) := by decide +kernel
theorem dX6_mail_60 : decode cX6_mail 60 = .ok (.aload 4, 2) := by decide +kernel
theorem dX6_mail_62 : decode cX6_mail 62 = .ok (.getfield 196, 3) := by decide +kernel
theorem dX6_mail_65 : decode cX6_mail 65 = .ok (.iload_n 2, 1) := by decide +kernel
theorem dX6_mail_66 : decode cX6_mail 66 = .ok (.iaload, 1) := by decide +kernel
theorem dX6_mail_67 : decode cX6_mail 67 = .ok (.ireturn, 1) := by decide +kernel
theorem dX6_many_0 : decode cX6_many 0 = .ok (.iload_n 1, 1) := by decide +kernel
theorem dX6_many_1 : decode cX6_many 1 = .ok (.iconst 0, 1) := by decide +kernel
theorem dX6_many_2 : decode cX6_many 2 = .ok (.bipush 12, 2) := by decide +kernel
theorem dX6_many_4 : decode cX6_many 4 = .ok (.invokestatic 79, 3) := by decide +kernel
theorem dX6_many_7 : decode cX6_many 7 = .ok (.invokestatic 62, 3) := by decide +kernel
theorem dX6_many_10 : decode cX6_many 10 = .ok (.iload_n 1, 1) := by decide +kernel
theorem dX6_many_11 : decode cX6_many 11 = .ok (.tableswitch 160 0 11 #[61, 69, 77, 85, 94, 103, 112, 120, 128, 136, 144, 152], 61) := by decide +kernel
theorem dX6_many_72 : decode cX6_many 72 = .ok (.aload_n 0, 1) := by decide +kernel
theorem dX6_many_73 : decode cX6_many 73 = .ok (.getfield 12, 3) := by decide +kernel
theorem dX6_many_76 : decode cX6_many 76 = .ok (.getfield 35, 3) := by decide +kernel
theorem dX6_many_79 : decode cX6_many 79 = .ok (.ireturn, 1) := by decide +kernel
theorem dX6_many_80 : decode cX6_many 80 = .ok (.aload_n 0, 1) := by decide +kernel
theorem dX6_many_81 : decode cX6_many 81 = .ok (.getfield 19, 3) := by decide +kernel
theorem dX6_many_84 : decode cX6_many 84 = .ok (.getfield 83, 3) := by decide +kernel
theorem dX6_many_87 : decode cX6_many 87 = .ok (.ireturn, 1) := by decide +kernel
theorem dX6_many_88 : decode cX6_many 88 = .ok (.aload_n 0, 1) := by decide +kernel
theorem dX6_many_89 : decode cX6_many 89 = .ok (.getfield 28, 3) := by decide +kernel
theorem dX6_many_92 : decode cX6_many 92 = .ok (.getfield 118, 3) := by decide +kernel
theorem dX6_many_95 : decode cX6_many 95 = .ok (.ireturn, 1) := by decide +kernel
theorem dX6_many_96 : decode cX6_many 96 = .ok (.aload_n 0, 1) := by decide +kernel
theorem dX6_many_97 : decode cX6_many 97 = .ok (.getfield 28, 3) := by decide +kernel
theorem dX6_many_100 : decode cX6_many 100 = .ok (.iconst 0, 1) := by decide +kernel
theorem dX6_many_101 : decode cX6_many 101 = .ok (.invokevirtual 217, 3) := by decide +kernel
theorem dX6_many_104 : decode cX6_many 104 = .ok (.ireturn, 1) := by decide +kernel
theorem dX6_many_105 : decode cX6_many 105 = .ok (.aload_n 0, 1) := by decide +kernel
theorem dX6_many_106 : decode cX6_many 106 = .ok (.getfield 28, 3) := by decide +kernel
theorem dX6_many_109 : decode cX6_many 109 = .ok (.iconst 1, 1) := by decide +kernel
theorem dX6_many_110 : decode cX6_many 110 = .ok (.invokevirtual 217, 3) := by decide +kernel
theorem dX6_many_113 : decode cX6_many 113 = .ok (.ireturn, 1) := by decide +kernel
theorem dX6_many_114 : decode cX6_many 114 = .ok (.aload_n 0, 1) := by decide +kernel
theorem dX6_many_115 : decode cX6_many 115 = .ok (.getfield 28, 3) := by decide +kernel
theorem dX6_many_118 : decode cX6_many 118 = .ok (.iconst 2, 1) := by decide +kernel
theorem dX6_many_119 : decode cX6_many 119 = .ok (.invokevirtual 217, 3) := by decide +kernel
theorem dX6_many_122 : decode cX6_many 122 = .ok (.ireturn, 1) := by decide +kernel
theorem dX6_many_123 : decode cX6_many 123 = .ok (.aload_n 0, 1) := by decide +kernel
theorem dX6_many_124 : decode cX6_many 124 = .ok (.getfield 28, 3) := by decide +kernel
theorem dX6_many_127 : decode cX6_many 127 = .ok (.invokevirtual 220, 3) := by decide +kernel
theorem dX6_many_130 : decode cX6_many 130 = .ok (.ireturn, 1) := by decide +kernel
theorem dX6_many_131 : decode cX6_many 131 = .ok (.aload_n 0, 1) := by decide +kernel
theorem dX6_many_132 : decode cX6_many 132 = .ok (.getfield 28, 3) := by decide +kernel
theorem dX6_many_135 : decode cX6_many 135 = .ok (.invokevirtual 223, 3) := by decide +kernel
theorem dX6_many_138 : decode cX6_many 138 = .ok (.ireturn, 1) := by decide +kernel
theorem dX6_many_139 : decode cX6_many 139 = .ok (.aload_n 0, 1) := by decide +kernel
theorem dX6_many_140 : decode cX6_many 140 = .ok (.getfield 28, 3) := by decide +kernel
theorem dX6_many_143 : decode cX6_many 143 = .ok (.invokevirtual 226, 3) := by decide +kernel
theorem dX6_many_146 : decode cX6_many 146 = .ok (.ireturn, 1) := by decide +kernel
theorem dX6_many_147 : decode cX6_many 147 = .ok (.aload_n 0, 1) := by decide +kernel
theorem dX6_many_148 : decode cX6_many 148 = .ok (.getfield 28, 3) := by decide +kernel
theorem dX6_many_151 : decode cX6_many 151 = .ok (.getfield 229, 3) := by decide +kernel
theorem dX6_many_154 : decode cX6_many 154 = .ok (.ireturn, 1) := by decide +kernel
theorem dX6_many_155 : decode cX6_many 155 = .ok (.aload_n 0, 1) := by decide +kernel
theorem dX6_many_156 : decode cX6_many 156 = .ok (.getfield 28, 3) := by decide +kernel
theorem dX6_many_159 : decode cX6_many 159 = .ok (.getfield 232, 3) := by decide +kernel
theorem dX6_many_162 : decode cX6_many 162 = .ok (.ireturn, 1) := by decide +kernel
theorem dX6_many_163 : decode cX6_many 163 = .ok (.aload_n 0, 1) := by decide +kernel
theorem dX6_many_164 : decode cX6_many 164 = .ok (.getfield 28, 3) := by decide +kernel
theorem dX6_many_167 : decode cX6_many 167 = .ok (.getfield 235, 3) := by decide +kernel
theorem dX6_many_170 : decode cX6_many 170 = .ok (.ireturn, 1) := by decide +kernel
theorem dX6_many_171 : decode cX6_many 171 = .ok (.aload_n 0, 1) := by decide +kernel
theorem dX6_many_172 : decode cX6_many 172 = .ok (.getfield 28, 3) := by decide +kernel
theorem dX6_many_175 : decode cX6_many 175 = .ok (.getfield 238, 3) := by decide +kernel
theorem dX6_many_178 : decode cX6_many 178 = .ok (.ireturn, 1) := by decide +kernel
theorem dX6_module_0 : decode cX6_module 0 = .ok (.aload_n 0, 1) := by decide +kernel
theorem dX6_module_1 : decode cX6_module 1 = .ok (.getfield 12, 3) := by decide +kernel
theorem dX6_module_4 : decode cX6_module 4 = .ok (.getfield 35, 3) := by decide +kernel
theorem dX6_module_7 : decode cX6_module 7 = .ok (.iconst 4, 1) := by decide +kernel
theorem dX6_module_8 : decode cX6_module 8 = .ok (.if_icmp .ge 7, 3) := by decide +kernel
theorem dX6_module_11 : decode cX6_module 11 = .ok (.iconst 1, 1) := by decide +kernel
theorem dX6_module_12 : decode cX6_module 12 = .ok (.goto 4, 3) := by decide +kernel
theorem dX6_module_15 : decode cX6_module 15 = .ok (.iconst 0, 1) := by decide +kernel
theorem dX6_module_16 : decode cX6_module 16 = .ok (.invokestatic 39, 3) := by decide +kernel
theorem dX6_module_19 : decode cX6_module 19 = .ok (.aload_n 0, 1) := by decide +kernel
theorem dX6_module_20 : decode cX6_module 20 = .ok (.getfield 12, 3) := by decide +kernel
theorem dX6_module_23 : decode cX6_module 23 = .ok (.getfield 35, 3) := by decide +kernel
theorem dX6_module_26 : decode cX6_module 26 = .ok (.istore_n 1, 1) := by decide +kernel
theorem dX6_module_27 : decode cX6_module 27 = .ok (.aload_n 0, 1) := by decide +kernel
theorem dX6_module_28 : decode cX6_module 28 = .ok (.getfield 12, 3) := by decide +kernel
theorem dX6_module_31 : decode cX6_module 31 = .ok (.iload_n 1, 1) := by decide +kernel
theorem dX6_module_32 : decode cX6_module 32 = .ok (.iconst 1, 1) := by decide +kernel
theorem dX6_module_33 : decode cX6_module 33 = .ok (.iadd, 1) := by decide +kernel
theorem dX6_module_34 : decode cX6_module 34 = .ok (.putfield 35, 3) := by decide +kernel
theorem dX6_module_37 : decode cX6_module 37 = .ok (.iload_n 1, 1) := by decide +kernel
theorem dX6_module_38 : decode cX6_module 38 = .ok (.ireturn, 1) := by decide +kernel
theorem dX6_named_0 : decode cX6_named 0 = .ok (.iload_n 1, 1) := by decide +kernel
theorem dX6_named_1 : decode cX6_named 1 = .ok (.iconst 0, 1) := by decide +kernel
theorem dX6_named_2 : decode cX6_named 2 = .ok (.iconst 3, 1) := by decide +kernel
theorem dX6_named_3 : decode cX6_named 3 = .ok (.invokestatic 79, 3) := by decide +kernel
theorem dX6_named_6 : decode cX6_named 6 = .ok (.invokestatic 47, 3) := by decide +kernel
theorem dX6_named_9 : decode cX6_named 9 = .ok (.aload_n 0, 1) := by decide +kernel
theorem dX6_named_10 : decode cX6_named 10 = .ok (.getfield 28, 3) := by decide +kernel
theorem dX6_named_13 : decode cX6_named 13 = .ok (.iload_n 1, 1) := by decide +kernel
theorem dX6_named_14 : decode cX6_named 14 = .ok (.invokevirtual 214, 3) := by decide +kernel
theorem dX6_named_17 : decode cX6_named 17 = .ok (.ireturn, 1) := by decide +kernel
theorem dX6_ofModule_0 : decode cX6_ofModule 0 = .ok (.aload_n 0, 1) := by decide +kernel
theorem dX6_ofModule_1 : decode cX6_ofModule 1 = .ok (.getfield 12, 3) := by decide +kernel
theorem dX6_ofModule_4 : decode cX6_ofModule 4 = .ok (.iload_n 1, 1) := by decide +kernel
theorem dX6_ofModule_5 : decode cX6_ofModule 5 = .ok (.invokevirtual 43, 3) := by decide +kernel
theorem dX6_ofModule_8 : decode cX6_ofModule 8 = .ok (.invokestatic 47, 3) := by decide +kernel
theorem dX6_ofModule_11 : decode cX6_ofModule 11 = .ok (.iload_n 2, 1) := by decide +kernel
theorem dX6_ofModule_12 : decode cX6_ofModule 12 = .ok (.iconst 0, 1) := by decide +kernel
theorem dX6_ofModule_13 : decode cX6_ofModule 13 = .ok (.iconst 4, 1) := by decide +kernel
theorem dX6_ofModule_14 : decode cX6_ofModule 14 = .ok (.invokestatic 79, 3) := by decide +kernel
theorem dX6_ofModule_17 : decode cX6_ofModule 17 = .ok (.invokestatic 62, 3) := by decide +kernel
theorem dX6_ofModule_20 : decode cX6_ofModule 20 = .ok (.aload_n 0, 1) := by decide +kernel
theorem dX6_ofModule_21 : decode cX6_ofModule 21 = .ok (.getfield 28, 3) := by decide +kernel
theorem dX6_ofModule_24 : decode cX6_ofModule 24 = .ok (.iload_n 1, 1) := by decide +kernel
theorem dX6_ofModule_25 : decode cX6_ofModule 25 = .ok (.invokevirtual 50, 3) := by decide +kernel
theorem dX6_ofModule_28 : decode cX6_ofModule 28 = .ok (.istore_n 3, 1) := by decide +kernel
theorem dX6_ofModule_29 : decode cX6_ofModule 29 = .ok (.iload_n 2, 1) := by decide +kernel
theorem dX6_ofModule_30 : decode cX6_ofModule 30 = .ok (.tableswitch 68 0 3 #[30, 34, 44, 55], 30) := by decide +kernel
theorem dX6_ofModule_60 : decode cX6_ofModule 60 = .ok (.iload_n 3, 1) := by decide +kernel
theorem dX6_ofModule_61 : decode cX6_ofModule 61 = .ok (.iconst 1, 1) := by decide +kernel
theorem dX6_ofModule_62 : decode cX6_ofModule 62 = .ok (.iadd, 1) := by decide +kernel
theorem dX6_ofModule_63 : decode cX6_ofModule 63 = .ok (.ireturn, 1) := by decide +kernel
theorem dX6_ofModule_64 : decode cX6_ofModule 64 = .ok (.aload_n 0, 1) := by decide +kernel
theorem dX6_ofModule_65 : decode cX6_ofModule 65 = .ok (.getfield 12, 3) := by decide +kernel
theorem dX6_ofModule_68 : decode cX6_ofModule 68 = .ok (.iload_n 1, 1) := by decide +kernel
theorem dX6_ofModule_69 : decode cX6_ofModule 69 = .ok (.iload_n 3, 1) := by decide +kernel
theorem dX6_ofModule_70 : decode cX6_ofModule 70 = .ok (.invokevirtual 54, 3) := by decide +kernel
theorem dX6_ofModule_73 : decode cX6_ofModule 73 = .ok (.ireturn, 1) := by decide +kernel
theorem dX6_ofModule_74 : decode cX6_ofModule 74 = .ok (.aload_n 0, 1) := by decide +kernel
theorem dX6_ofModule_75 : decode cX6_ofModule 75 = .ok (.getfield 28, 3) := by decide +kernel
theorem dX6_ofModule_78 : decode cX6_ofModule 78 = .ok (.iload_n 1, 1) := by decide +kernel
theorem dX6_ofModule_79 : decode cX6_ofModule 79 = .ok (.iload_n 3, 1) := by decide +kernel
theorem dX6_ofModule_80 : decode cX6_ofModule 80 = .ok (.iload_n 3, 1) := by decide +kernel
theorem dX6_ofModule_81 : decode cX6_ofModule 81 = .ok (.invokevirtual 103, 3) := by decide +kernel
theorem dX6_ofModule_84 : decode cX6_ofModule 84 = .ok (.ireturn, 1) := by decide +kernel
theorem dX6_ofModule_85 : decode cX6_ofModule 85 = .ok (.aload_n 0, 1) := by decide +kernel
theorem dX6_ofModule_86 : decode cX6_ofModule 86 = .ok (.getfield 28, 3) := by decide +kernel
theorem dX6_ofModule_89 : decode cX6_ofModule 89 = .ok (.iload_n 1, 1) := by decide +kernel
theorem dX6_ofModule_90 : decode cX6_ofModule 90 = .ok (.iconst 0, 1) := by decide +kernel
theorem dX6_ofModule_91 : decode cX6_ofModule 91 = .ok (.iload_n 3, 1) := by decide +kernel
theorem dX6_ofModule_92 : decode cX6_ofModule 92 = .ok (.iconst 1, 1) := by decide +kernel
theorem dX6_ofModule_93 : decode cX6_ofModule 93 = .ok (.isub, 1) := by decide +kernel
theorem dX6_ofModule_94 : decode cX6_ofModule 94 = .ok (.invokevirtual 103, 3) := by decide +kernel
theorem dX6_ofModule_97 : decode cX6_ofModule 97 = .ok (.ireturn, 1) := by decide +kernel
theorem dX6_ofModule_98 : decode cX6_ofModule 98 = .ok (.aload_n 0, 1) := by decide +kernel
theorem dX6_ofModule_99 : decode cX6_ofModule 99 = .ok (.getfield 28, 3) := by decide +kernel
theorem dX6_ofModule_102 : decode cX6_ofModule 102 = .ok (.iload_n 1, 1) := by decide +kernel
theorem dX6_ofModule_103 : decode cX6_ofModule 103 = .ok (.invokevirtual 106, 3) := by decide +kernel
theorem dX6_ofModule_106 : decode cX6_ofModule 106 = .ok (.ireturn, 1) := by decide +kernel
theorem dX6_ofProcess_0 : decode cX6_ofProcess 0 = .ok (.aload_n 0, 1) := by decide +kernel
theorem dX6_ofProcess_1 : decode cX6_ofProcess 1 = .ok (.iload_n 1, 1) := by decide +kernel
theorem dX6_ofProcess_2 : decode cX6_ofProcess 2 = .ok (.invokevirtual 130, 3) := by decide +kernel
theorem dX6_ofProcess_5 : decode cX6_ofProcess 5 = .ok (.astore_n 3, 1) := by decide +kernel
theorem dX6_ofProcess_6 : decode cX6_ofProcess 6 = .ok (.iload_n 2, 1) := by decide +kernel
theorem dX6_ofProcess_7 : decode cX6_ofProcess 7 = .ok (.iconst 0, 1) := by decide +kernel
theorem dX6_ofProcess_8 : decode cX6_ofProcess 8 = .ok (.bipush 12, 2) := by decide +kernel
theorem dX6_ofProcess_10 : decode cX6_ofProcess 10 = .ok (.invokestatic 79, 3) := by decide +kernel
theorem dX6_ofProcess_13 : decode cX6_ofProcess 13 = .ok (.invokestatic 62, 3) := by decide +kernel
theorem dX6_ofProcess_16 : decode cX6_ofProcess 16 = .ok (.iload_n 2, 1) := by decide +kernel
theorem dX6_ofProcess_17 : decode cX6_ofProcess 17 = .ok (.tableswitch 150 0 11 #[63, 68, 73, 78, 83, 92, 97, 102, 107, 115, 120, 133], 63) := by decide +kernel
theorem dX6_ofProcess_80 : decode cX6_ofProcess 80 = .ok (.aload_n 3, 1) := by decide +kernel
theorem dX6_ofProcess_81 : decode cX6_ofProcess 81 = .ok (.getfield 144, 3) := by decide +kernel
theorem dX6_ofProcess_84 : decode cX6_ofProcess 84 = .ok (.ireturn, 1) := by decide +kernel
theorem dX6_ofProcess_85 : decode cX6_ofProcess 85 = .ok (.aload_n 3, 1) := by decide +kernel
theorem dX6_ofProcess_86 : decode cX6_ofProcess 86 = .ok (.getfield 147, 3) := by decide +kernel
theorem dX6_ofProcess_89 : decode cX6_ofProcess 89 = .ok (.ireturn, 1) := by decide +kernel
theorem dX6_ofProcess_90 : decode cX6_ofProcess 90 = .ok (.aload_n 3, 1) := by decide +kernel
theorem dX6_ofProcess_91 : decode cX6_ofProcess 91 = .ok (.getfield 150, 3) := by decide +kernel
theorem dX6_ofProcess_94 : decode cX6_ofProcess 94 = .ok (.ireturn, 1) := by decide +kernel
theorem dX6_ofProcess_95 : decode cX6_ofProcess 95 = .ok (.aload_n 3, 1) := by decide +kernel
theorem dX6_ofProcess_96 : decode cX6_ofProcess 96 = .ok (.getfield 153, 3) := by decide +kernel
theorem dX6_ofProcess_99 : decode cX6_ofProcess 99 = .ok (.ireturn, 1) := by decide +kernel
theorem dX6_ofProcess_100 : decode cX6_ofProcess 100 = .ok (.aload_n 0, 1) := by decide +kernel
theorem dX6_ofProcess_101 : decode cX6_ofProcess 101 = .ok (.getfield 28, 3) := by decide +kernel
theorem dX6_ofProcess_104 : decode cX6_ofProcess 104 = .ok (.aload_n 3, 1) := by decide +kernel
theorem dX6_ofProcess_105 : decode cX6_ofProcess 105 = .ok (.invokevirtual 156, 3) := by decide +kernel
theorem dX6_ofProcess_108 : decode cX6_ofProcess 108 = .ok (.ireturn, 1) := by decide +kernel
theorem dX6_ofProcess_109 : decode cX6_ofProcess 109 = .ok (.aload_n 3, 1) := by decide +kernel
theorem dX6_ofProcess_110 : decode cX6_ofProcess 110 = .ok (.getfield 160, 3) := by decide +kernel
theorem dX6_ofProcess_113 : decode cX6_ofProcess 113 = .ok (.ireturn, 1) := by decide +kernel
theorem dX6_ofProcess_114 : decode cX6_ofProcess 114 = .ok (.aload_n 3, 1) := by decide +kernel
theorem dX6_ofProcess_115 : decode cX6_ofProcess 115 = .ok (.getfield 163, 3) := by decide +kernel
theorem dX6_ofProcess_118 : decode cX6_ofProcess 118 = .ok (.ireturn, 1) := by decide +kernel
theorem dX6_ofProcess_119 : decode cX6_ofProcess 119 = .ok (.aload_n 3, 1) := by decide +kernel
theorem dX6_ofProcess_120 : decode cX6_ofProcess 120 = .ok (.getfield 166, 3) := by decide +kernel
theorem dX6_ofProcess_123 : decode cX6_ofProcess 123 = .ok (.ireturn, 1) := by decide +kernel
theorem dX6_ofProcess_124 : decode cX6_ofProcess 124 = .ok (.aload_n 3, 1) := by decide +kernel
theorem dX6_ofProcess_125 : decode cX6_ofProcess 125 = .ok (.getfield 169, 3) := by decide +kernel
theorem dX6_ofProcess_128 : decode cX6_ofProcess 128 = .ok (.getfield 173, 3) := by decide +kernel
theorem dX6_ofProcess_131 : decode cX6_ofProcess 131 = .ok (.ireturn, 1) := by decide +kernel
theorem dX6_ofProcess_132 : decode cX6_ofProcess 132 = .ok (.aload_n 3, 1) := by decide +kernel
theorem dX6_ofProcess_133 : decode cX6_ofProcess 133 = .ok (.getfield 176, 3) := by decide +kernel
theorem dX6_ofProcess_136 : decode cX6_ofProcess 136 = .ok (.ireturn, 1) := by decide +kernel
theorem dX6_ofProcess_137 : decode cX6_ofProcess 137 = .ok (.aload_n 3, 1) := by decide +kernel
theorem dX6_ofProcess_138 : decode cX6_ofProcess 138 = .ok (.getfield 179, 3) := by decide +kernel
theorem dX6_ofProcess_141 : decode cX6_ofProcess 141 = .ok (.ifCond .eq 7, 3) := by decide +kernel
theorem dX6_ofProcess_144 : decode cX6_ofProcess 144 = .ok (.iconst 1, 1) := by decide +kernel
theorem dX6_ofProcess_145 : decode cX6_ofProcess 145 = .ok (.goto 4, 3) := by decide +kernel
theorem dX6_ofProcess_148 : decode cX6_ofProcess 148 = .ok (.iconst 0, 1) := by decide +kernel
theorem dX6_ofProcess_149 : decode cX6_ofProcess 149 = .ok (.ireturn, 1) := by decide +kernel
theorem dX6_ofProcess_150 : decode cX6_ofProcess 150 = .ok (.aload_n 3, 1) := by decide +kernel
theorem dX6_ofProcess_151 : decode cX6_ofProcess 151 = .ok (.getfield 150, 3) := by decide +kernel
theorem dX6_ofProcess_154 : decode cX6_ofProcess 154 = .ok (.iconst 2, 1) := by decide +kernel
theorem dX6_ofProcess_155 : decode cX6_ofProcess 155 = .ok (.if_icmp .ne 7, 3) := by decide +kernel
theorem dX6_ofProcess_158 : decode cX6_ofProcess 158 = .ok (.iconst (-1), 1) := by decide +kernel
theorem dX6_ofProcess_159 : decode cX6_ofProcess 159 = .ok (.goto 7, 3) := by decide +kernel
theorem dX6_ofProcess_162 : decode cX6_ofProcess 162 = .ok (.aload_n 3, 1) := by decide +kernel
theorem dX6_ofProcess_163 : decode cX6_ofProcess 163 = .ok (.getfield 183, 3) := by decide +kernel
theorem dX6_ofProcess_166 : decode cX6_ofProcess 166 = .ok (.ireturn, 1) := by decide +kernel
theorem dX6_ofProcess_167 : decode cX6_ofProcess 167 = .ok (.aload_n 0, 1) := by decide +kernel
theorem dX6_ofProcess_168 : decode cX6_ofProcess 168 = .ok (.getfield 28, 3) := by decide +kernel
theorem dX6_ofProcess_171 : decode cX6_ofProcess 171 = .ok (.aload_n 3, 1) := by decide +kernel
theorem dX6_ofProcess_172 : decode cX6_ofProcess 172 = .ok (.invokevirtual 186, 3) := by decide +kernel
theorem dX6_ofProcess_175 : decode cX6_ofProcess 175 = .ok (.ireturn, 1) := by decide +kernel
theorem dX6_ofSupervisor_0 : decode cX6_ofSupervisor 0 = .ok (.aload_n 0, 1) := by decide +kernel
theorem dX6_ofSupervisor_1 : decode cX6_ofSupervisor 1 = .ok (.iload_n 1, 1) := by decide +kernel
theorem dX6_ofSupervisor_2 : decode cX6_ofSupervisor 2 = .ok (.invokevirtual 130, 3) := by decide +kernel
theorem dX6_ofSupervisor_5 : decode cX6_ofSupervisor 5 = .ok (.astore_n 3, 1) := by decide +kernel
theorem dX6_ofSupervisor_6 : decode cX6_ofSupervisor 6 = .ok (.iload_n 2, 1) := by decide +kernel
theorem dX6_ofSupervisor_7 : decode cX6_ofSupervisor 7 = .ok (.iconst 0, 1) := by decide +kernel
theorem dX6_ofSupervisor_8 : decode cX6_ofSupervisor 8 = .ok (.bipush 6, 2) := by decide +kernel
theorem dX6_ofSupervisor_10 : decode cX6_ofSupervisor 10 = .ok (.invokestatic 79, 3) := by decide +kernel
theorem dX6_ofSupervisor_13 : decode cX6_ofSupervisor 13 = .ok (.invokestatic 62, 3) := by decide +kernel
theorem dX6_ofSupervisor_16 : decode cX6_ofSupervisor 16 = .ok (.aload_n 3, 1) := by decide +kernel
theorem dX6_ofSupervisor_17 : decode cX6_ofSupervisor 17 = .ok (.invokevirtual 199, 3) := by decide +kernel
theorem dX6_ofSupervisor_20 : decode cX6_ofSupervisor 20 = .ok (.ifCond .ne 5, 3) := by decide +kernel
theorem dX6_ofSupervisor_23 : decode cX6_ofSupervisor 23 = .ok (.iconst (-1), 1) := by decide +kernel
theorem dX6_ofSupervisor_24 : decode cX6_ofSupervisor 24 = .ok (.ireturn, 1) := by decide +kernel
theorem dX6_ofSupervisor_25 : decode cX6_ofSupervisor 25 = .ok (.iload_n 2, 1) := by decide +kernel
theorem dX6_ofSupervisor_26 : decode cX6_ofSupervisor 26 = .ok (.lookupswitch 57 #[(0, 34), (5, 39), (6, 48)], 34) := by decide +kernel
theorem dX6_ofSupervisor_60 : decode cX6_ofSupervisor 60 = .ok (.aload_n 3, 1) := by decide +kernel
theorem dX6_ofSupervisor_61 : decode cX6_ofSupervisor 61 = .ok (.getfield 202, 3) := by decide +kernel
theorem dX6_ofSupervisor_64 : decode cX6_ofSupervisor 64 = .ok (.ireturn, 1) := by decide +kernel
theorem dX6_ofSupervisor_65 : decode cX6_ofSupervisor 65 = .ok (.aload_n 0, 1) := by decide +kernel
theorem dX6_ofSupervisor_66 : decode cX6_ofSupervisor 66 = .ok (.getfield 28, 3) := by decide +kernel
theorem dX6_ofSupervisor_69 : decode cX6_ofSupervisor 69 = .ok (.aload_n 3, 1) := by decide +kernel
theorem dX6_ofSupervisor_70 : decode cX6_ofSupervisor 70 = .ok (.invokevirtual 205, 3) := by decide +kernel
theorem dX6_ofSupervisor_73 : decode cX6_ofSupervisor 73 = .ok (.ireturn, 1) := by decide +kernel
theorem dX6_ofSupervisor_74 : decode cX6_ofSupervisor 74 = .ok (.aload_n 0, 1) := by decide +kernel
theorem dX6_ofSupervisor_75 : decode cX6_ofSupervisor 75 = .ok (.getfield 28, 3) := by decide +kernel
theorem dX6_ofSupervisor_78 : decode cX6_ofSupervisor 78 = .ok (.aload_n 3, 1) := by decide +kernel
theorem dX6_ofSupervisor_79 : decode cX6_ofSupervisor 79 = .ok (.invokevirtual 208, 3) := by decide +kernel
theorem dX6_ofSupervisor_82 : decode cX6_ofSupervisor 82 = .ok (.ireturn, 1) := by decide +kernel
theorem dX6_ofSupervisor_83 : decode cX6_ofSupervisor 83 = .ok (.iload_n 2, 1) := by decide +kernel
theorem dX6_ofSupervisor_84 : decode cX6_ofSupervisor 84 = .ok (.iconst 1, 1) := by decide +kernel
theorem dX6_ofSupervisor_85 : decode cX6_ofSupervisor 85 = .ok (.iconst 4, 1) := by decide +kernel
theorem dX6_ofSupervisor_86 : decode cX6_ofSupervisor 86 = .ok (.invokestatic 79, 3) := by decide +kernel
theorem dX6_ofSupervisor_89 : decode cX6_ofSupervisor 89 = .ok (.ifCond .eq 14, 3) := by decide +kernel
theorem dX6_ofSupervisor_92 : decode cX6_ofSupervisor 92 = .ok (.aload_n 3, 1) := by decide +kernel
theorem dX6_ofSupervisor_93 : decode cX6_ofSupervisor 93 = .ok (.getfield 211, 3) := by decide +kernel
theorem dX6_ofSupervisor_96 : decode cX6_ofSupervisor 96 = .ok (.iload_n 2, 1) := by decide +kernel
theorem dX6_ofSupervisor_97 : decode cX6_ofSupervisor 97 = .ok (.iconst 1, 1) := by decide +kernel
theorem dX6_ofSupervisor_98 : decode cX6_ofSupervisor 98 = .ok (.isub, 1) := by decide +kernel
theorem dX6_ofSupervisor_99 : decode cX6_ofSupervisor 99 = .ok (.iaload, 1) := by decide +kernel
theorem dX6_ofSupervisor_100 : decode cX6_ofSupervisor 100 = .ok (.goto 4, 3) := by decide +kernel
theorem dX6_ofSupervisor_103 : decode cX6_ofSupervisor 103 = .ok (.iconst (-1), 1) := by decide +kernel
theorem dX6_ofSupervisor_104 : decode cX6_ofSupervisor 104 = .ok (.ireturn, 1) := by decide +kernel
theorem dX6_overBy_0 : decode cX6_overBy 0 = .ok (.iload_n 1, 1) := by decide +kernel
theorem dX6_overBy_1 : decode cX6_overBy 1 = .ok (.iconst 1, 1) := by decide +kernel
theorem dX6_overBy_2 : decode cX6_overBy 2 = .ok (.bipush 20, 2) := by decide +kernel
theorem dX6_overBy_4 : decode cX6_overBy 4 = .ok (.invokestatic 79, 3) := by decide +kernel
theorem dX6_overBy_7 : decode cX6_overBy 7 = .ok (.ifCond .eq 17, 3) := by decide +kernel
theorem dX6_overBy_10 : decode cX6_overBy 10 = .ok (.iload_n 2, 1) := by decide +kernel
theorem dX6_overBy_11 : decode cX6_overBy 11 = .ok (.iconst 1, 1) := by decide +kernel
theorem dX6_overBy_12 : decode cX6_overBy 12 = .ok (.bipush 50, 2) := by decide +kernel
theorem dX6_overBy_14 : decode cX6_overBy 14 = .ok (.invokestatic 79, 3) := by decide +kernel
theorem dX6_overBy_17 : decode cX6_overBy 17 = .ok (.ifCond .eq 7, 3) := by decide +kernel
theorem dX6_overBy_20 : decode cX6_overBy 20 = .ok (.iconst 1, 1) := by decide +kernel
theorem dX6_overBy_21 : decode cX6_overBy 21 = .ok (.goto 4, 3) := by decide +kernel
theorem dX6_overBy_24 : decode cX6_overBy 24 = .ok (.iconst 0, 1) := by decide +kernel
theorem dX6_overBy_25 : decode cX6_overBy 25 = .ok (.invokestatic 62, 3) := by decide +kernel
theorem dX6_overBy_28 : decode cX6_overBy 28 = .ok (.aload_n 0, 1) := by decide +kernel
theorem dX6_overBy_29 : decode cX6_overBy 29 = .ok (.getfield 32, 3) := by decide +kernel
theorem dX6_overBy_32 : decode cX6_overBy 32 = .ok (.aload_n 0, 1) := by decide +kernel
theorem dX6_overBy_33 : decode cX6_overBy 33 = .ok (.getfield 28, 3) := by decide +kernel
theorem dX6_overBy_36 : decode cX6_overBy 36 = .ok (.invokevirtual 241, 3) := by decide +kernel
theorem dX6_overBy_39 : decode cX6_overBy 39 = .ok (.iconst 0, 1) := by decide +kernel
theorem dX6_overBy_40 : decode cX6_overBy 40 = .ok (.istore_n 3, 1) := by decide +kernel
theorem dX6_overBy_41 : decode cX6_overBy 41 = .ok (.iload_n 3, 1) := by decide +kernel
theorem dX6_overBy_42 : decode cX6_overBy 42 = .ok (.iload_n 1, 1) := by decide +kernel
theorem dX6_overBy_43 : decode cX6_overBy 43 = .ok (.if_icmp .ge 42, 3) := by decide +kernel
theorem dX6_overBy_46 : decode cX6_overBy 46 = .ok (.aload_n 0, 1) := by decide +kernel
theorem dX6_overBy_47 : decode cX6_overBy 47 = .ok (.getfield 32, 3) := by decide +kernel
theorem dX6_overBy_50 : decode cX6_overBy 50 = .ok (.invokevirtual 126, 3) := by decide +kernel
theorem dX6_overBy_53 : decode cX6_overBy 53 = .ok (.pop, 1) := by decide +kernel
theorem dX6_overBy_54 : decode cX6_overBy 54 = .ok (.iconst 0, 1) := by decide +kernel
theorem dX6_overBy_55 : decode cX6_overBy 55 = .ok (.istore 4, 2) := by decide +kernel
theorem dX6_overBy_57 : decode cX6_overBy 57 = .ok (.iload 4, 2) := by decide +kernel
theorem dX6_overBy_59 : decode cX6_overBy 59 = .ok (.iload_n 2, 1) := by decide +kernel
theorem dX6_overBy_60 : decode cX6_overBy 60 = .ok (.if_icmp .ge 19, 3) := by decide +kernel
theorem dX6_overBy_63 : decode cX6_overBy 63 = .ok (.aload_n 0, 1) := by decide +kernel
theorem dX6_overBy_64 : decode cX6_overBy 64 = .ok (.getfield 32, 3) := by decide +kernel
theorem dX6_overBy_67 : decode cX6_overBy 67 = .ok (.invokevirtual 122, 3) := by decide +kernel
theorem dX6_overBy_70 : decode cX6_overBy 70 = .ok (.ifCond .eq 9, 3) := by decide +kernel
theorem dX6_overBy_73 : decode cX6_overBy 73 = .ok (.iinc 4 1, 3) := by decide +kernel
theorem dX6_overBy_76 : decode cX6_overBy 76 = .ok (.goto (-19), 3) := by decide +kernel
theorem dX6_overBy_79 : decode cX6_overBy 79 = .ok (.iinc 3 1, 3) := by decide +kernel
theorem dX6_overBy_82 : decode cX6_overBy 82 = .ok (.goto (-41), 3) := by decide +kernel
theorem dX6_overBy_85 : decode cX6_overBy 85 = .ok (.aload_n 0, 1) := by decide +kernel
theorem dX6_overBy_86 : decode cX6_overBy 86 = .ok (.getfield 32, 3) := by decide +kernel
theorem dX6_overBy_89 : decode cX6_overBy 89 = .ok (.getfield 72, 3) := by decide +kernel
theorem dX6_overBy_92 : decode cX6_overBy 92 = .ok (.ireturn, 1) := by decide +kernel
theorem dX6_passedOver_0 : decode cX6_passedOver 0 = .ok (.aload_n 0, 1) := by decide +kernel
theorem dX6_passedOver_1 : decode cX6_passedOver 1 = .ok (.iload_n 1, 1) := by decide +kernel
theorem dX6_passedOver_2 : decode cX6_passedOver 2 = .ok (.invokevirtual 130, 3) := by decide +kernel
theorem dX6_passedOver_5 : decode cX6_passedOver 5 = .ok (.astore_n 3, 1) := by decide +kernel
theorem dX6_passedOver_6 : decode cX6_passedOver 6 = .ok (.iload_n 2, 1) := by decide +kernel
theorem dX6_passedOver_7 : decode cX6_passedOver 7 = .ok (.iconst 0, 1) := by decide +kernel
theorem dX6_passedOver_8 : decode cX6_passedOver 8 = .ok (.iconst 4, 1) := by decide +kernel
theorem dX6_passedOver_9 : decode cX6_passedOver 9 = .ok (.invokestatic 79, 3) := by decide +kernel
theorem dX6_passedOver_12 : decode cX6_passedOver 12 = .ok (.invokestatic 62, 3) := by decide +kernel
theorem dX6_passedOver_15 : decode cX6_passedOver 15 = .ok (.aload_n 3, 1) := by decide +kernel
theorem dX6_passedOver_16 : decode cX6_passedOver 16 = .ok (.getfield 169, 3) := by decide +kernel
theorem dX6_passedOver_19 : decode cX6_passedOver 19 = .ok (.iload_n 2, 1) := by decide +kernel
theorem dX6_passedOver_20 : decode cX6_passedOver 20 = .ok (.invokevirtual 248, 3) := by decide +kernel
theorem dX6_passedOver_23 : decode cX6_passedOver 23 = .ok (.ireturn, 1) := by decide +kernel
theorem dX6_place_0 : decode cX6_place 0 = .ok (.aload_n 0, 1) := by decide +kernel
theorem dX6_place_1 : decode cX6_place 1 = .ok (.getfield 19, 3) := by decide +kernel
theorem dX6_place_4 : decode cX6_place 4 = .ok (.iload_n 1, 1) := by decide +kernel
theorem dX6_place_5 : decode cX6_place 5 = .ok (.invokevirtual 90, 3) := by decide +kernel
theorem dX6_place_8 : decode cX6_place 8 = .ok (.invokestatic 47, 3) := by decide +kernel
theorem dX6_place_11 : decode cX6_place 11 = .ok (.iload_n 2, 1) := by decide +kernel
theorem dX6_place_12 : decode cX6_place 12 = .ok (.ifCond .eq 14, 3) := by decide +kernel
theorem dX6_place_15 : decode cX6_place 15 = .ok (.iload_n 3, 1) := by decide +kernel
theorem dX6_place_16 : decode cX6_place 16 = .ok (.iconst 0, 1) := by decide +kernel
theorem dX6_place_17 : decode cX6_place 17 = .ok (.iload_n 1, 1) := by decide +kernel
theorem dX6_place_18 : decode cX6_place 18 = .ok (.iconst 1, 1) := by decide +kernel
theorem dX6_place_19 : decode cX6_place 19 = .ok (.isub, 1) := by decide +kernel
theorem dX6_place_20 : decode cX6_place 20 = .ok (.invokestatic 79, 3) := by decide +kernel
theorem dX6_place_23 : decode cX6_place 23 = .ok (.goto 11, 3) := by decide +kernel
theorem dX6_place_26 : decode cX6_place 26 = .ok (.aload_n 0, 1) := by decide +kernel
theorem dX6_place_27 : decode cX6_place 27 = .ok (.getfield 12, 3) := by decide +kernel
theorem dX6_place_30 : decode cX6_place 30 = .ok (.iload_n 3, 1) := by decide +kernel
theorem dX6_place_31 : decode cX6_place 31 = .ok (.invokevirtual 43, 3) := by decide +kernel
theorem dX6_place_34 : decode cX6_place 34 = .ok (.invokestatic 62, 3) := by decide +kernel
theorem dX6_place_37 : decode cX6_place 37 = .ok (.iload 4, 2) := by decide +kernel
theorem dX6_place_39 : decode cX6_place 39 = .ok (.iconst 0, 1) := by decide +kernel
theorem dX6_place_40 : decode cX6_place 40 = .ok (.iconst 2, 1) := by decide +kernel
theorem dX6_place_41 : decode cX6_place 41 = .ok (.invokestatic 79, 3) := by decide +kernel
theorem dX6_place_44 : decode cX6_place 44 = .ok (.invokestatic 62, 3) := by decide +kernel
theorem dX6_place_47 : decode cX6_place 47 = .ok (.aload_n 0, 1) := by decide +kernel
theorem dX6_place_48 : decode cX6_place 48 = .ok (.getfield 28, 3) := by decide +kernel
theorem dX6_place_51 : decode cX6_place 51 = .ok (.iload_n 1, 1) := by decide +kernel
theorem dX6_place_52 : decode cX6_place 52 = .ok (.invokevirtual 93, 3) := by decide +kernel
theorem dX6_place_55 : decode cX6_place 55 = .ok (.ifCond .ne 19, 3) := by decide +kernel
theorem dX6_place_58 : decode cX6_place 58 = .ok (.aload_n 0, 1) := by decide +kernel
theorem dX6_place_59 : decode cX6_place 59 = .ok (.getfield 19, 3) := by decide +kernel
theorem dX6_place_62 : decode cX6_place 62 = .ok (.iload_n 1, 1) := by decide +kernel
theorem dX6_place_63 : decode cX6_place 63 = .ok (.invokevirtual 96, 3) := by decide +kernel
theorem dX6_place_66 : decode cX6_place 66 = .ok (.iconst 4, 1) := by decide +kernel
theorem dX6_place_67 : decode cX6_place 67 = .ok (.if_icmp .ge 7, 3) := by decide +kernel
theorem dX6_place_70 : decode cX6_place 70 = .ok (.iconst 1, 1) := by decide +kernel
theorem dX6_place_71 : decode cX6_place 71 = .ok (.goto 4, 3) := by decide +kernel
theorem dX6_place_74 : decode cX6_place 74 = .ok (.iconst 0, 1) := by decide +kernel
theorem dX6_place_75 : decode cX6_place 75 = .ok (.invokestatic 39, 3) := by decide +kernel
theorem dX6_place_78 : decode cX6_place 78 = .ok (.aload_n 0, 1) := by decide +kernel
theorem dX6_place_79 : decode cX6_place 79 = .ok (.getfield 19, 3) := by decide +kernel
theorem dX6_place_82 : decode cX6_place 82 = .ok (.iload_n 1, 1) := by decide +kernel
theorem dX6_place_83 : decode cX6_place 83 = .ok (.iload_n 2, 1) := by decide +kernel
theorem dX6_place_84 : decode cX6_place 84 = .ok (.iload_n 3, 1) := by decide +kernel
theorem dX6_place_85 : decode cX6_place 85 = .ok (.iload 4, 2) := by decide +kernel
theorem dX6_place_87 : decode cX6_place 87 = .ok (.invokevirtual 99, 3) := by decide +kernel
theorem dX6_place_90 : decode cX6_place 90 = .ok (.ireturn, 1) := by decide +kernel
theorem dX6_run_0 : decode cX6_run 0 = .ok (.iload_n 1, 1) := by decide +kernel
theorem dX6_run_1 : decode cX6_run 1 = .ok (.iconst 1, 1) := by decide +kernel
theorem dX6_run_2 : decode cX6_run 2 = .ok (.bipush 50, 2) := by decide +kernel
theorem dX6_run_4 : decode cX6_run 4 = .ok (.invokestatic 79, 3) := by decide +kernel
theorem dX6_run_7 : decode cX6_run 7 = .ok (.invokestatic 62, 3) := by decide +kernel
theorem dX6_run_10 : decode cX6_run 10 = .ok (.iconst 0, 1) := by decide +kernel
theorem dX6_run_11 : decode cX6_run 11 = .ok (.istore_n 2, 1) := by decide +kernel
theorem dX6_run_12 : decode cX6_run 12 = .ok (.iload_n 2, 1) := by decide +kernel
theorem dX6_run_13 : decode cX6_run 13 = .ok (.iload_n 1, 1) := by decide +kernel
theorem dX6_run_14 : decode cX6_run 14 = .ok (.if_icmp .ge 19, 3) := by decide +kernel
theorem dX6_run_17 : decode cX6_run 17 = .ok (.aload_n 0, 1) := by decide +kernel
theorem dX6_run_18 : decode cX6_run 18 = .ok (.getfield 28, 3) := by decide +kernel
theorem dX6_run_21 : decode cX6_run 21 = .ok (.invokevirtual 122, 3) := by decide +kernel
theorem dX6_run_24 : decode cX6_run 24 = .ok (.ifCond .eq 9, 3) := by decide +kernel
theorem dX6_run_27 : decode cX6_run 27 = .ok (.iinc 2 1, 3) := by decide +kernel
theorem dX6_run_30 : decode cX6_run 30 = .ok (.goto (-18), 3) := by decide +kernel
theorem dX6_run_33 : decode cX6_run 33 = .ok (.iload_n 2, 1) := by decide +kernel
theorem dX6_run_34 : decode cX6_run 34 = .ok (.ireturn, 1) := by decide +kernel
theorem dX6_send_0 : decode cX6_send 0 = .ok (.aload_n 0, 1) := by decide +kernel
theorem dX6_send_1 : decode cX6_send 1 = .ok (.iload_n 1, 1) := by decide +kernel
theorem dX6_send_2 : decode cX6_send 2 = .ok (.invokevirtual 130, 3) := by decide +kernel
theorem dX6_send_5 : decode cX6_send 5 = .ok (.pop, 1) := by decide +kernel
theorem dX6_send_6 : decode cX6_send 6 = .ok (.iload_n 2, 1) := by decide +kernel
theorem dX6_send_7 : decode cX6_send 7 = .ok (.iconst 0, 1) := by decide +kernel
theorem dX6_send_8 : decode cX6_send 8 = .ok (.iconst 1, 1) := by decide +kernel
theorem dX6_send_9 : decode cX6_send 9 = .ok (.invokestatic 79, 3) := by decide +kernel
theorem dX6_send_12 : decode cX6_send 12 = .ok (.ifCond .eq 20, 3) := by decide +kernel
theorem dX6_send_15 : decode cX6_send 15 = .ok (.iload_n 3, 1) := by decide +kernel
theorem dX6_send_16 : decode cX6_send 16 = .ok (.sipush (-999), 3) := by decide +kernel
theorem dX6_send_19 : decode cX6_send 19 = .ok (.sipush 999, 3) := by decide +kernel
theorem dX6_send_22 : decode cX6_send 22 = .ok (.invokestatic 79, 3) := by decide +kernel
theorem dX6_send_25 : decode cX6_send 25 = .ok (.ifCond .eq 7, 3) := by decide +kernel
theorem dX6_send_28 : decode cX6_send 28 = .ok (.iconst 1, 1) := by decide +kernel
theorem dX6_send_29 : decode cX6_send 29 = .ok (.goto 4, 3) := by decide +kernel
theorem dX6_send_32 : decode cX6_send 32 = .ok (.iconst 0, 1) := by decide +kernel
theorem dX6_send_33 : decode cX6_send 33 = .ok (.invokestatic 62, 3) := by decide +kernel
theorem dX6_send_36 : decode cX6_send 36 = .ok (.aload_n 0, 1) := by decide +kernel
theorem dX6_send_37 : decode cX6_send 37 = .ok (.getfield 28, 3) := by decide +kernel
theorem dX6_send_40 : decode cX6_send 40 = .ok (.iload_n 1, 1) := by decide +kernel
theorem dX6_send_41 : decode cX6_send 41 = .ok (.iload_n 2, 1) := by decide +kernel
theorem dX6_send_42 : decode cX6_send 42 = .ok (.iload_n 3, 1) := by decide +kernel
theorem dX6_send_43 : decode cX6_send 43 = .ok (.invokevirtual 134, 3) := by decide +kernel
theorem dX6_send_46 : decode cX6_send 46 = .ok (.ireturn, 1) := by decide +kernel
theorem dX6_signal_0 : decode cX6_signal 0 = .ok (.aload_n 0, 1) := by decide +kernel
theorem dX6_signal_1 : decode cX6_signal 1 = .ok (.iload_n 1, 1) := by decide +kernel
theorem dX6_signal_2 : decode cX6_signal 2 = .ok (.invokevirtual 130, 3) := by decide +kernel
theorem dX6_signal_5 : decode cX6_signal 5 = .ok (.pop, 1) := by decide +kernel
theorem dX6_signal_6 : decode cX6_signal 6 = .ok (.iload_n 2, 1) := by decide +kernel
theorem dX6_signal_7 : decode cX6_signal 7 = .ok (.iconst 0, 1) := by decide +kernel
theorem dX6_signal_8 : decode cX6_signal 8 = .ok (.bipush 9, 2) := by decide +kernel
theorem dX6_signal_10 : decode cX6_signal 10 = .ok (.invokestatic 79, 3) := by decide +kernel
theorem dX6_signal_13 : decode cX6_signal 13 = .ok (.invokestatic 62, 3) := by decide +kernel
theorem dX6_signal_16 : decode cX6_signal 16 = .ok (.aload_n 0, 1) := by decide +kernel
theorem dX6_signal_17 : decode cX6_signal 17 = .ok (.getfield 28, 3) := by decide +kernel
theorem dX6_signal_20 : decode cX6_signal 20 = .ok (.getfield 72, 3) := by decide +kernel
theorem dX6_signal_23 : decode cX6_signal 23 = .ok (.istore_n 3, 1) := by decide +kernel
theorem dX6_signal_24 : decode cX6_signal 24 = .ok (.aload_n 0, 1) := by decide +kernel
theorem dX6_signal_25 : decode cX6_signal 25 = .ok (.getfield 28, 3) := by decide +kernel
theorem dX6_signal_28 : decode cX6_signal 28 = .ok (.iload_n 1, 1) := by decide +kernel
theorem dX6_signal_29 : decode cX6_signal 29 = .ok (.iload_n 1, 1) := by decide +kernel
theorem dX6_signal_30 : decode cX6_signal 30 = .ok (.iload_n 2, 1) := by decide +kernel
theorem dX6_signal_31 : decode cX6_signal 31 = .ok (.invokevirtual 137, 3) := by decide +kernel
theorem dX6_signal_34 : decode cX6_signal 34 = .ok (.aload_n 0, 1) := by decide +kernel
theorem dX6_signal_35 : decode cX6_signal 35 = .ok (.getfield 28, 3) := by decide +kernel
theorem dX6_signal_38 : decode cX6_signal 38 = .ok (.invokevirtual 141, 3) := by decide +kernel
theorem dX6_signal_41 : decode cX6_signal 41 = .ok (.aload_n 0, 1) := by decide +kernel
theorem dX6_signal_42 : decode cX6_signal 42 = .ok (.getfield 28, 3) := by decide +kernel
theorem dX6_signal_45 : decode cX6_signal 45 = .ok (.getfield 72, 3) := by decide +kernel
theorem dX6_signal_48 : decode cX6_signal 48 = .ok (.iload_n 3, 1) := by decide +kernel
theorem dX6_signal_49 : decode cX6_signal 49 = .ok (.isub, 1) := by decide +kernel
theorem dX6_signal_50 : decode cX6_signal 50 = .ok (.ireturn, 1) := by decide +kernel
theorem dX6_spec_0 : decode cX6_spec 0 = .ok (.iload_n 1, 1) := by decide +kernel
theorem dX6_spec_1 : decode cX6_spec 1 = .ok (.iconst 0, 1) := by decide +kernel
theorem dX6_spec_2 : decode cX6_spec 2 = .ok (.iconst 2, 1) := by decide +kernel
theorem dX6_spec_3 : decode cX6_spec 3 = .ok (.invokestatic 79, 3) := by decide +kernel
theorem dX6_spec_6 : decode cX6_spec 6 = .ok (.ifCond .eq 26, 3) := by decide +kernel
theorem dX6_spec_9 : decode cX6_spec 9 = .ok (.iload_n 2, 1) := by decide +kernel
theorem dX6_spec_10 : decode cX6_spec 10 = .ok (.iconst 0, 1) := by decide +kernel
theorem dX6_spec_11 : decode cX6_spec 11 = .ok (.iconst 3, 1) := by decide +kernel
theorem dX6_spec_12 : decode cX6_spec 12 = .ok (.invokestatic 79, 3) := by decide +kernel
theorem dX6_spec_15 : decode cX6_spec 15 = .ok (.ifCond .eq 17, 3) := by decide +kernel
theorem dX6_spec_18 : decode cX6_spec 18 = .ok (.iload_n 3, 1) := by decide +kernel
theorem dX6_spec_19 : decode cX6_spec 19 = .ok (.iconst 1, 1) := by decide +kernel
theorem dX6_spec_20 : decode cX6_spec 20 = .ok (.bipush 9, 2) := by decide +kernel
theorem dX6_spec_22 : decode cX6_spec 22 = .ok (.invokestatic 79, 3) := by decide +kernel
theorem dX6_spec_25 : decode cX6_spec 25 = .ok (.ifCond .eq 7, 3) := by decide +kernel
theorem dX6_spec_28 : decode cX6_spec 28 = .ok (.iconst 1, 1) := by decide +kernel
theorem dX6_spec_29 : decode cX6_spec 29 = .ok (.goto 4, 3) := by decide +kernel
theorem dX6_spec_32 : decode cX6_spec 32 = .ok (.iconst 0, 1) := by decide +kernel
theorem dX6_spec_33 : decode cX6_spec 33 = .ok (.invokestatic 62, 3) := by decide +kernel
theorem dX6_spec_36 : decode cX6_spec 36 = .ok (.aload_n 0, 1) := by decide +kernel
theorem dX6_spec_37 : decode cX6_spec 37 = .ok (.getfield 19, 3) := by decide +kernel
theorem dX6_spec_40 : decode cX6_spec 40 = .ok (.getfield 83, 3) := by decide +kernel
theorem dX6_spec_43 : decode cX6_spec 43 = .ok (.iconst 5, 1) := by decide +kernel
theorem dX6_spec_44 : decode cX6_spec 44 = .ok (.if_icmp .ge 7, 3) := by decide +kernel
theorem dX6_spec_47 : decode cX6_spec 47 = .ok (.iconst 1, 1) := by decide +kernel
theorem dX6_spec_48 : decode cX6_spec 48 = .ok (.goto 4, 3) := by decide +kernel
theorem dX6_spec_51 : decode cX6_spec 51 = .ok (.iconst 0, 1) := by decide +kernel
theorem dX6_spec_52 : decode cX6_spec 52 = .ok (.invokestatic 39, 3) := by decide +kernel
theorem dX6_spec_55 : decode cX6_spec 55 = .ok (.aload_n 0, 1) := by decide +kernel
theorem dX6_spec_56 : decode cX6_spec 56 = .ok (.getfield 19, 3) := by decide +kernel
theorem dX6_spec_59 : decode cX6_spec 59 = .ok (.iload_n 1, 1) := by decide +kernel
theorem dX6_spec_60 : decode cX6_spec 60 = .ok (.iload_n 2, 1) := by decide +kernel
theorem dX6_spec_61 : decode cX6_spec 61 = .ok (.iload_n 3, 1) := by decide +kernel
theorem dX6_spec_62 : decode cX6_spec 62 = .ok (.invokevirtual 86, 3) := by decide +kernel
theorem dX6_spec_65 : decode cX6_spec 65 = .ok (.ireturn, 1) := by decide +kernel
theorem dX6_start_0 : decode cX6_start 0 = .ok (.aload_n 0, 1) := by decide +kernel
theorem dX6_start_1 : decode cX6_start 1 = .ok (.getfield 12, 3) := by decide +kernel
theorem dX6_start_4 : decode cX6_start 4 = .ok (.iload_n 1, 1) := by decide +kernel
theorem dX6_start_5 : decode cX6_start 5 = .ok (.invokevirtual 43, 3) := by decide +kernel
theorem dX6_start_8 : decode cX6_start 8 = .ok (.invokestatic 47, 3) := by decide +kernel
theorem dX6_start_11 : decode cX6_start 11 = .ok (.aload_n 0, 1) := by decide +kernel
theorem dX6_start_12 : decode cX6_start 12 = .ok (.getfield 28, 3) := by decide +kernel
theorem dX6_start_15 : decode cX6_start 15 = .ok (.iload_n 1, 1) := by decide +kernel
theorem dX6_start_16 : decode cX6_start 16 = .ok (.iconst (-1), 1) := by decide +kernel
theorem dX6_start_17 : decode cX6_start 17 = .ok (.invokevirtual 109, 3) := by decide +kernel
theorem dX6_start_20 : decode cX6_start 20 = .ok (.astore_n 2, 1) := by decide +kernel
theorem dX6_start_21 : decode cX6_start 21 = .ok (.aload_n 2, 1) := by decide +kernel
theorem dX6_start_22 : decode cX6_start 22 = .ok (.ifnull 7, 3) := by decide +kernel
theorem dX6_start_25 : decode cX6_start 25 = .ok (.iconst 1, 1) := by decide +kernel
theorem dX6_start_26 : decode cX6_start 26 = .ok (.goto 4, 3) := by decide +kernel
theorem dX6_start_29 : decode cX6_start 29 = .ok (.iconst 0, 1) := by decide +kernel
theorem dX6_start_30 : decode cX6_start 30 = .ok (.invokestatic 39, 3) := by decide +kernel
theorem dX6_start_33 : decode cX6_start 33 = .ok (.aload_n 2, 1) := by decide +kernel
theorem dX6_start_34 : decode cX6_start 34 = .ok (.ifnonnull 7, 3) := by decide +kernel
theorem dX6_start_37 : decode cX6_start 37 = .ok (.iconst (-1), 1) := by decide +kernel
theorem dX6_start_38 : decode cX6_start 38 = .ok (.goto 7, 3) := by decide +kernel
theorem dX6_start_41 : decode cX6_start 41 = .ok (.aload_n 2, 1) := by decide +kernel
theorem dX6_start_42 : decode cX6_start 42 = .ok (.getfield 113, 3) := by decide +kernel
theorem dX6_start_45 : decode cX6_start 45 = .ok (.ireturn, 1) := by decide +kernel
theorem dX6_supervise_0 : decode cX6_supervise 0 = .ok (.aload_n 0, 1) := by decide +kernel
theorem dX6_supervise_1 : decode cX6_supervise 1 = .ok (.getfield 19, 3) := by decide +kernel
theorem dX6_supervise_4 : decode cX6_supervise 4 = .ok (.iload_n 1, 1) := by decide +kernel
theorem dX6_supervise_5 : decode cX6_supervise 5 = .ok (.invokevirtual 90, 3) := by decide +kernel
theorem dX6_supervise_8 : decode cX6_supervise 8 = .ok (.invokestatic 47, 3) := by decide +kernel
theorem dX6_supervise_11 : decode cX6_supervise 11 = .ok (.aload_n 0, 1) := by decide +kernel
theorem dX6_supervise_12 : decode cX6_supervise 12 = .ok (.getfield 28, 3) := by decide +kernel
theorem dX6_supervise_15 : decode cX6_supervise 15 = .ok (.getfield 118, 3) := by decide +kernel
theorem dX6_supervise_18 : decode cX6_supervise 18 = .ok (.bipush 24, 2) := by decide +kernel
theorem dX6_supervise_20 : decode cX6_supervise 20 = .ok (.if_icmp .ge 7, 3) := by decide +kernel
theorem dX6_supervise_23 : decode cX6_supervise 23 = .ok (.iconst 1, 1) := by decide +kernel
theorem dX6_supervise_24 : decode cX6_supervise 24 = .ok (.goto 4, 3) := by decide +kernel
theorem dX6_supervise_27 : decode cX6_supervise 27 = .ok (.iconst 0, 1) := by decide +kernel
theorem dX6_supervise_28 : decode cX6_supervise 28 = .ok (.invokestatic 39, 3) := by decide +kernel
theorem dX6_supervise_31 : decode cX6_supervise 31 = .ok (.aload_n 0, 1) := by decide +kernel
theorem dX6_supervise_32 : decode cX6_supervise 32 = .ok (.getfield 28, 3) := by decide +kernel
theorem dX6_supervise_35 : decode cX6_supervise 35 = .ok (.iload_n 1, 1) := by decide +kernel
theorem dX6_supervise_36 : decode cX6_supervise 36 = .ok (.invokevirtual 119, 3) := by decide +kernel
theorem dX6_supervise_39 : decode cX6_supervise 39 = .ok (.ireturn, 1) := by decide +kernel
theorem dX6_tick_0 : decode cX6_tick 0 = .ok (.iload_n 1, 1) := by decide +kernel
theorem dX6_tick_1 : decode cX6_tick 1 = .ok (.iconst 1, 1) := by decide +kernel
theorem dX6_tick_2 : decode cX6_tick 2 = .ok (.bipush 20, 2) := by decide +kernel
theorem dX6_tick_4 : decode cX6_tick 4 = .ok (.invokestatic 79, 3) := by decide +kernel
theorem dX6_tick_7 : decode cX6_tick 7 = .ok (.invokestatic 62, 3) := by decide +kernel
theorem dX6_tick_10 : decode cX6_tick 10 = .ok (.iconst 0, 1) := by decide +kernel
theorem dX6_tick_11 : decode cX6_tick 11 = .ok (.istore_n 2, 1) := by decide +kernel
theorem dX6_tick_12 : decode cX6_tick 12 = .ok (.iconst 0, 1) := by decide +kernel
theorem dX6_tick_13 : decode cX6_tick 13 = .ok (.istore_n 3, 1) := by decide +kernel
theorem dX6_tick_14 : decode cX6_tick 14 = .ok (.iload_n 3, 1) := by decide +kernel
theorem dX6_tick_15 : decode cX6_tick 15 = .ok (.iload_n 1, 1) := by decide +kernel
theorem dX6_tick_16 : decode cX6_tick 16 = .ok (.if_icmp .ge 19, 3) := by decide +kernel
theorem dX6_tick_19 : decode cX6_tick 19 = .ok (.iload_n 2, 1) := by decide +kernel
theorem dX6_tick_20 : decode cX6_tick 20 = .ok (.aload_n 0, 1) := by decide +kernel
theorem dX6_tick_21 : decode cX6_tick 21 = .ok (.getfield 28, 3) := by decide +kernel
theorem dX6_tick_24 : decode cX6_tick 24 = .ok (.invokevirtual 126, 3) := by decide +kernel
theorem dX6_tick_27 : decode cX6_tick 27 = .ok (.iadd, 1) := by decide +kernel
theorem dX6_tick_28 : decode cX6_tick 28 = .ok (.istore_n 2, 1) := by decide +kernel
theorem dX6_tick_29 : decode cX6_tick 29 = .ok (.iinc 3 1, 3) := by decide +kernel
theorem dX6_tick_32 : decode cX6_tick 32 = .ok (.goto (-18), 3) := by decide +kernel
theorem dX6_tick_35 : decode cX6_tick 35 = .ok (.iload_n 2, 1) := by decide +kernel
theorem dX6_tick_36 : decode cX6_tick 36 = .ok (.ireturn, 1) := by decide +kernel
theorem dX6_wouldFall_0 : decode cX6_wouldFall 0 = .ok (.aload_n 0, 1) := by decide +kernel
theorem dX6_wouldFall_1 : decode cX6_wouldFall 1 = .ok (.iload_n 1, 1) := by decide +kernel
theorem dX6_wouldFall_2 : decode cX6_wouldFall 2 = .ok (.invokevirtual 130, 3) := by decide +kernel
theorem dX6_wouldFall_5 : decode cX6_wouldFall 5 = .ok (.pop, 1) := by decide +kernel
theorem dX6_wouldFall_6 : decode cX6_wouldFall 6 = .ok (.iload_n 2, 1) := by decide +kernel
theorem dX6_wouldFall_7 : decode cX6_wouldFall 7 = .ok (.iconst 0, 1) := by decide +kernel
theorem dX6_wouldFall_8 : decode cX6_wouldFall 8 = .ok (.bipush 9, 2) := by decide +kernel
theorem dX6_wouldFall_10 : decode cX6_wouldFall 10 = .ok (.invokestatic 79, 3) := by decide +kernel
theorem dX6_wouldFall_13 : decode cX6_wouldFall 13 = .ok (.invokestatic 62, 3) := by decide +kernel
theorem dX6_wouldFall_16 : decode cX6_wouldFall 16 = .ok (.aload_n 0, 1) := by decide +kernel
theorem dX6_wouldFall_17 : decode cX6_wouldFall 17 = .ok (.getfield 32, 3) := by decide +kernel
theorem dX6_wouldFall_20 : decode cX6_wouldFall 20 = .ok (.aload_n 0, 1) := by decide +kernel
theorem dX6_wouldFall_21 : decode cX6_wouldFall 21 = .ok (.getfield 28, 3) := by decide +kernel
theorem dX6_wouldFall_24 : decode cX6_wouldFall 24 = .ok (.invokevirtual 241, 3) := by decide +kernel
theorem dX6_wouldFall_27 : decode cX6_wouldFall 27 = .ok (.aload_n 0, 1) := by decide +kernel
theorem dX6_wouldFall_28 : decode cX6_wouldFall 28 = .ok (.getfield 32, 3) := by decide +kernel
theorem dX6_wouldFall_31 : decode cX6_wouldFall 31 = .ok (.iload_n 1, 1) := by decide +kernel
theorem dX6_wouldFall_32 : decode cX6_wouldFall 32 = .ok (.iload_n 1, 1) := by decide +kernel
theorem dX6_wouldFall_33 : decode cX6_wouldFall 33 = .ok (.iload_n 2, 1) := by decide +kernel
theorem dX6_wouldFall_34 : decode cX6_wouldFall 34 = .ok (.invokevirtual 137, 3) := by decide +kernel
theorem dX6_wouldFall_37 : decode cX6_wouldFall 37 = .ok (.aload_n 0, 1) := by decide +kernel
theorem dX6_wouldFall_38 : decode cX6_wouldFall 38 = .ok (.getfield 32, 3) := by decide +kernel
theorem dX6_wouldFall_41 : decode cX6_wouldFall 41 = .ok (.invokevirtual 141, 3) := by decide +kernel
theorem dX6_wouldFall_44 : decode cX6_wouldFall 44 = .ok (.aload_n 0, 1) := by decide +kernel
theorem dX6_wouldFall_45 : decode cX6_wouldFall 45 = .ok (.getfield 32, 3) := by decide +kernel
theorem dX6_wouldFall_48 : decode cX6_wouldFall 48 = .ok (.aload_n 0, 1) := by decide +kernel
theorem dX6_wouldFall_49 : decode cX6_wouldFall 49 = .ok (.getfield 28, 3) := by decide +kernel
theorem dX6_wouldFall_52 : decode cX6_wouldFall 52 = .ok (.getfield 72, 3) := by decide +kernel
theorem dX6_wouldFall_55 : decode cX6_wouldFall 55 = .ok (.invokevirtual 245, 3) := by decide +kernel
theorem dX6_wouldFall_58 : decode cX6_wouldFall 58 = .ok (.ireturn, 1) := by decide +kernel
theorem dX6_wouldPurge_0 : decode cX6_wouldPurge 0 = .ok (.aload_n 0, 1) := by decide +kernel
theorem dX6_wouldPurge_1 : decode cX6_wouldPurge 1 = .ok (.getfield 12, 3) := by decide +kernel
theorem dX6_wouldPurge_4 : decode cX6_wouldPurge 4 = .ok (.iload_n 1, 1) := by decide +kernel
theorem dX6_wouldPurge_5 : decode cX6_wouldPurge 5 = .ok (.invokevirtual 43, 3) := by decide +kernel
theorem dX6_wouldPurge_8 : decode cX6_wouldPurge 8 = .ok (.invokestatic 47, 3) := by decide +kernel
theorem dX6_wouldPurge_11 : decode cX6_wouldPurge 11 = .ok (.aload_n 0, 1) := by decide +kernel
theorem dX6_wouldPurge_12 : decode cX6_wouldPurge 12 = .ok (.getfield 32, 3) := by decide +kernel
theorem dX6_wouldPurge_15 : decode cX6_wouldPurge 15 = .ok (.aload_n 0, 1) := by decide +kernel
theorem dX6_wouldPurge_16 : decode cX6_wouldPurge 16 = .ok (.getfield 28, 3) := by decide +kernel
theorem dX6_wouldPurge_19 : decode cX6_wouldPurge 19 = .ok (.invokevirtual 241, 3) := by decide +kernel
theorem dX6_wouldPurge_22 : decode cX6_wouldPurge 22 = .ok (.aload_n 0, 1) := by decide +kernel
theorem dX6_wouldPurge_23 : decode cX6_wouldPurge 23 = .ok (.getfield 32, 3) := by decide +kernel
theorem dX6_wouldPurge_26 : decode cX6_wouldPurge 26 = .ok (.iload_n 1, 1) := by decide +kernel
theorem dX6_wouldPurge_27 : decode cX6_wouldPurge 27 = .ok (.invokevirtual 75, 3) := by decide +kernel
theorem dX6_wouldPurge_30 : decode cX6_wouldPurge 30 = .ok (.aload_n 0, 1) := by decide +kernel
theorem dX6_wouldPurge_31 : decode cX6_wouldPurge 31 = .ok (.getfield 32, 3) := by decide +kernel
theorem dX6_wouldPurge_34 : decode cX6_wouldPurge 34 = .ok (.aload_n 0, 1) := by decide +kernel
theorem dX6_wouldPurge_35 : decode cX6_wouldPurge 35 = .ok (.getfield 28, 3) := by decide +kernel
theorem dX6_wouldPurge_38 : decode cX6_wouldPurge 38 = .ok (.getfield 72, 3) := by decide +kernel
theorem dX6_wouldPurge_41 : decode cX6_wouldPurge 41 = .ok (.invokevirtual 245, 3) := by decide +kernel
theorem dX6_wouldPurge_44 : decode cX6_wouldPurge 44 = .ok (.ireturn, 1) := by decide +kernel
theorem dJ6_bitCount_0f7a4_0 : decode cJ6_bitCount_0f7a4 0 = .ok (.iload_n 0, 1) := by decide +kernel
theorem dJ6_bitCount_0f7a4_1 : decode cJ6_bitCount_0f7a4 1 = .ok (.iload_n 0, 1) := by decide +kernel
theorem dJ6_bitCount_0f7a4_2 : decode cJ6_bitCount_0f7a4 2 = .ok (.iconst 1, 1) := by decide +kernel
theorem dJ6_bitCount_0f7a4_3 : decode cJ6_bitCount_0f7a4 3 = .ok (.iushr, 1) := by decide +kernel
theorem dJ6_bitCount_0f7a4_4 : decode cJ6_bitCount_0f7a4 4 = .ok (.ldc_w 265, 3) := by decide +kernel
theorem dJ6_bitCount_0f7a4_7 : decode cJ6_bitCount_0f7a4 7 = .ok (.iand, 1) := by decide +kernel
theorem dJ6_bitCount_0f7a4_8 : decode cJ6_bitCount_0f7a4 8 = .ok (.isub, 1) := by decide +kernel
theorem dJ6_bitCount_0f7a4_9 : decode cJ6_bitCount_0f7a4 9 = .ok (.istore_n 0, 1) := by decide +kernel
theorem dJ6_bitCount_0f7a4_10 : decode cJ6_bitCount_0f7a4 10 = .ok (.iload_n 0, 1) := by decide +kernel
theorem dJ6_bitCount_0f7a4_11 : decode cJ6_bitCount_0f7a4 11 = .ok (.ldc_w 266, 3) := by decide +kernel
theorem dJ6_bitCount_0f7a4_14 : decode cJ6_bitCount_0f7a4 14 = .ok (.iand, 1) := by decide +kernel
theorem dJ6_bitCount_0f7a4_15 : decode cJ6_bitCount_0f7a4 15 = .ok (.iload_n 0, 1) := by decide +kernel
theorem dJ6_bitCount_0f7a4_16 : decode cJ6_bitCount_0f7a4 16 = .ok (.iconst 2, 1) := by decide +kernel
theorem dJ6_bitCount_0f7a4_17 : decode cJ6_bitCount_0f7a4 17 = .ok (.iushr, 1) := by decide +kernel
theorem dJ6_bitCount_0f7a4_18 : decode cJ6_bitCount_0f7a4 18 = .ok (.ldc_w 266, 3) := by decide +kernel
theorem dJ6_bitCount_0f7a4_21 : decode cJ6_bitCount_0f7a4 21 = .ok (.iand, 1) := by decide +kernel
theorem dJ6_bitCount_0f7a4_22 : decode cJ6_bitCount_0f7a4 22 = .ok (.iadd, 1) := by decide +kernel
theorem dJ6_bitCount_0f7a4_23 : decode cJ6_bitCount_0f7a4 23 = .ok (.istore_n 0, 1) := by decide +kernel
theorem dJ6_bitCount_0f7a4_24 : decode cJ6_bitCount_0f7a4 24 = .ok (.iload_n 0, 1) := by decide +kernel
theorem dJ6_bitCount_0f7a4_25 : decode cJ6_bitCount_0f7a4 25 = .ok (.iload_n 0, 1) := by decide +kernel
theorem dJ6_bitCount_0f7a4_26 : decode cJ6_bitCount_0f7a4 26 = .ok (.iconst 4, 1) := by decide +kernel
theorem dJ6_bitCount_0f7a4_27 : decode cJ6_bitCount_0f7a4 27 = .ok (.iushr, 1) := by decide +kernel
theorem dJ6_bitCount_0f7a4_28 : decode cJ6_bitCount_0f7a4 28 = .ok (.iadd, 1) := by decide +kernel
theorem dJ6_bitCount_0f7a4_29 : decode cJ6_bitCount_0f7a4 29 = .ok (.ldc_w 267, 3) := by decide +kernel
theorem dJ6_bitCount_0f7a4_32 : decode cJ6_bitCount_0f7a4 32 = .ok (.iand, 1) := by decide +kernel
theorem dJ6_bitCount_0f7a4_33 : decode cJ6_bitCount_0f7a4 33 = .ok (.istore_n 0, 1) := by decide +kernel
theorem dJ6_bitCount_0f7a4_34 : decode cJ6_bitCount_0f7a4 34 = .ok (.iload_n 0, 1) := by decide +kernel
theorem dJ6_bitCount_0f7a4_35 : decode cJ6_bitCount_0f7a4 35 = .ok (.iload_n 0, 1) := by decide +kernel
theorem dJ6_bitCount_0f7a4_36 : decode cJ6_bitCount_0f7a4 36 = .ok (.bipush 8, 2) := by decide +kernel
theorem dJ6_bitCount_0f7a4_38 : decode cJ6_bitCount_0f7a4 38 = .ok (.iushr, 1) := by decide +kernel
theorem dJ6_bitCount_0f7a4_39 : decode cJ6_bitCount_0f7a4 39 = .ok (.iadd, 1) := by decide +kernel
theorem dJ6_bitCount_0f7a4_40 : decode cJ6_bitCount_0f7a4 40 = .ok (.istore_n 0, 1) := by decide +kernel
theorem dJ6_bitCount_0f7a4_41 : decode cJ6_bitCount_0f7a4 41 = .ok (.iload_n 0, 1) := by decide +kernel
theorem dJ6_bitCount_0f7a4_42 : decode cJ6_bitCount_0f7a4 42 = .ok (.iload_n 0, 1) := by decide +kernel
theorem dJ6_bitCount_0f7a4_43 : decode cJ6_bitCount_0f7a4 43 = .ok (.bipush 16, 2) := by decide +kernel
theorem dJ6_bitCount_0f7a4_45 : decode cJ6_bitCount_0f7a4 45 = .ok (.iushr, 1) := by decide +kernel
theorem dJ6_bitCount_0f7a4_46 : decode cJ6_bitCount_0f7a4 46 = .ok (.iadd, 1) := by decide +kernel
theorem dJ6_bitCount_0f7a4_47 : decode cJ6_bitCount_0f7a4 47 = .ok (.istore_n 0, 1) := by decide +kernel
theorem dJ6_bitCount_0f7a4_48 : decode cJ6_bitCount_0f7a4 48 = .ok (.iload_n 0, 1) := by decide +kernel
theorem dJ6_bitCount_0f7a4_49 : decode cJ6_bitCount_0f7a4 49 = .ok (.bipush 63, 2) := by decide +kernel
theorem dJ6_bitCount_0f7a4_51 : decode cJ6_bitCount_0f7a4 51 = .ok (.iand, 1) := by decide +kernel
theorem dJ6_bitCount_0f7a4_52 : decode cJ6_bitCount_0f7a4 52 = .ok (.ireturn, 1) := by decide +kernel
theorem dJ7_fill_53178_0 : decode cJ7_fill_53178 0 = .ok (.iconst 0, 1) := by decide +kernel
theorem dJ7_fill_53178_1 : decode cJ7_fill_53178 1 = .ok (.istore_n 2, 1) := by decide +kernel
theorem dJ7_fill_53178_2 : decode cJ7_fill_53178 2 = .ok (.aload_n 0, 1) := by decide +kernel
theorem dJ7_fill_53178_3 : decode cJ7_fill_53178 3 = .ok (.arraylength, 1) := by decide +kernel
theorem dJ7_fill_53178_4 : decode cJ7_fill_53178 4 = .ok (.istore_n 3, 1) := by decide +kernel
theorem dJ7_fill_53178_5 : decode cJ7_fill_53178 5 = .ok (.iload_n 2, 1) := by decide +kernel
theorem dJ7_fill_53178_6 : decode cJ7_fill_53178 6 = .ok (.iload_n 3, 1) := by decide +kernel
theorem dJ7_fill_53178_7 : decode cJ7_fill_53178 7 = .ok (.if_icmp .ge 13, 3) := by decide +kernel
theorem dJ7_fill_53178_10 : decode cJ7_fill_53178 10 = .ok (.aload_n 0, 1) := by decide +kernel
theorem dJ7_fill_53178_11 : decode cJ7_fill_53178 11 = .ok (.iload_n 2, 1) := by decide +kernel
theorem dJ7_fill_53178_12 : decode cJ7_fill_53178 12 = .ok (.iload_n 1, 1) := by decide +kernel
theorem dJ7_fill_53178_13 : decode cJ7_fill_53178 13 = .ok (.iastore, 1) := by decide +kernel
theorem dJ7_fill_53178_14 : decode cJ7_fill_53178 14 = .ok (.iinc 2 1, 3) := by decide +kernel
theorem dJ7_fill_53178_17 : decode cJ7_fill_53178 17 = .ok (.goto (-12), 3) := by decide +kernel
theorem dJ7_fill_53178_20 : decode cJ7_fill_53178 20 = .ok (.return_, 1) := by decide +kernel
theorem dL_areOver_0 : decode cL_areOver 0 = .ok (.iconst 0, 1) := by decide +kernel
theorem dL_areOver_1 : decode cL_areOver 1 = .ok (.istore_n 2, 1) := by decide +kernel
theorem dL_areOver_2 : decode cL_areOver 2 = .ok (.iload_n 2, 1) := by decide +kernel
theorem dL_areOver_3 : decode cL_areOver 3 = .ok (.aload_n 0, 1) := by decide +kernel
theorem dL_areOver_4 : decode cL_areOver 4 = .ok (.iconst 2, 1) := by decide +kernel
theorem dL_areOver_5 : decode cL_areOver 5 = .ok (.invokevirtual 57, 3) := by decide +kernel
theorem dL_areOver_8 : decode cL_areOver 8 = .ok (.if_icmp .ge 30, 3) := by decide +kernel
theorem dL_areOver_11 : decode cL_areOver 11 = .ok (.iload_n 1, 1) := by decide +kernel
theorem dL_areOver_12 : decode cL_areOver 12 = .ok (.iload_n 2, 1) := by decide +kernel
theorem dL_areOver_13 : decode cL_areOver 13 = .ok (.ishr, 1) := by decide +kernel
theorem dL_areOver_14 : decode cL_areOver 14 = .ok (.iconst 1, 1) := by decide +kernel
theorem dL_areOver_15 : decode cL_areOver 15 = .ok (.iand, 1) := by decide +kernel
theorem dL_areOver_16 : decode cL_areOver 16 = .ok (.iconst 1, 1) := by decide +kernel
theorem dL_areOver_17 : decode cL_areOver 17 = .ok (.if_icmp .ne 15, 3) := by decide +kernel
theorem dL_areOver_20 : decode cL_areOver 20 = .ok (.aload_n 0, 1) := by decide +kernel
theorem dL_areOver_21 : decode cL_areOver 21 = .ok (.iload_n 2, 1) := by decide +kernel
theorem dL_areOver_22 : decode cL_areOver 22 = .ok (.iconst 2, 1) := by decide +kernel
theorem dL_areOver_23 : decode cL_areOver 23 = .ok (.invokevirtual 110, 3) := by decide +kernel
theorem dL_areOver_26 : decode cL_areOver 26 = .ok (.iconst 2, 1) := by decide +kernel
theorem dL_areOver_27 : decode cL_areOver 27 = .ok (.if_icmp .eq 5, 3) := by decide +kernel
theorem dL_areOver_30 : decode cL_areOver 30 = .ok (.iconst 0, 1) := by decide +kernel
theorem dL_areOver_31 : decode cL_areOver 31 = .ok (.ireturn, 1) := by decide +kernel
theorem dL_areOver_32 : decode cL_areOver 32 = .ok (.iinc 2 1, 3) := by decide +kernel
theorem dL_areOver_35 : decode cL_areOver 35 = .ok (.goto (-33), 3) := by decide +kernel
theorem dL_areOver_38 : decode cL_areOver 38 = .ok (.iconst 1, 1) := by decide +kernel
theorem dL_areOver_39 : decode cL_areOver 39 = .ok (.ireturn, 1) := by decide +kernel
theorem dL_below_0 : decode cL_below 0 = .ok (.iload_n 0, 1) := by decide +kernel
theorem dL_below_1 : decode cL_below 1 = .ok (.ldc 7, 2) := by decide +kernel
theorem dL_below_3 : decode cL_below 3 = .ok (.iand, 1) := by decide +kernel
theorem dL_below_4 : decode cL_below 4 = .ok (.iload_n 1, 1) := by decide +kernel
theorem dL_below_5 : decode cL_below 5 = .ok (.irem, 1) := by decide +kernel
theorem dL_below_6 : decode cL_below 6 = .ok (.ireturn, 1) := by decide +kernel
theorem dL_cell_0 : decode cL_cell 0 = .ok (.iload_n 1, 1) := by decide +kernel
theorem dL_cell_1 : decode cL_cell 1 = .ok (.aload_n 0, 1) := by decide +kernel
theorem dL_cell_2 : decode cL_cell 2 = .ok (.arraylength, 1) := by decide +kernel
theorem dL_cell_3 : decode cL_cell 3 = .ok (.if_icmp .ge 9, 3) := by decide +kernel
theorem dL_cell_6 : decode cL_cell 6 = .ok (.aload_n 0, 1) := by decide +kernel
theorem dL_cell_7 : decode cL_cell 7 = .ok (.iload_n 1, 1) := by decide +kernel
theorem dL_cell_8 : decode cL_cell 8 = .ok (.iaload, 1) := by decide +kernel
theorem dL_cell_9 : decode cL_cell 9 = .ok (.goto 9, 3) := by decide +kernel
theorem dL_cell_12 : decode cL_cell 12 = .ok (.ldc 8, 2) := by decide +kernel
theorem dL_cell_14 : decode cL_cell 14 = .ok (.iload_n 1, 1) := by decide +kernel
theorem dL_cell_15 : decode cL_cell 15 = .ok (.iconst 3, 1) := by decide +kernel
theorem dL_cell_16 : decode cL_cell 16 = .ok (.iadd, 1) := by decide +kernel
theorem dL_cell_17 : decode cL_cell 17 = .ok (.imul, 1) := by decide +kernel
theorem dL_cell_18 : decode cL_cell 18 = .ok (.ireturn, 1) := by decide +kernel
theorem dL_isActed_0 : decode cL_isActed 0 = .ok (.aload_n 0, 1) := by decide +kernel
theorem dL_isActed_1 : decode cL_isActed 1 = .ok (.iconst 2, 1) := by decide +kernel
theorem dL_isActed_2 : decode cL_isActed 2 = .ok (.invokevirtual 57, 3) := by decide +kernel
theorem dL_isActed_5 : decode cL_isActed 5 = .ok (.istore 5, 2) := by decide +kernel
theorem dL_isActed_7 : decode cL_isActed 7 = .ok (.iload 5, 2) := by decide +kernel
theorem dL_isActed_9 : decode cL_isActed 9 = .ok (.ifCond .ne 7, 3) := by decide +kernel
theorem dL_isActed_12 : decode cL_isActed 12 = .ok (.iconst (-1), 1) := by decide +kernel
theorem dL_isActed_13 : decode cL_isActed 13 = .ok (.goto 11, 3) := by decide +kernel
theorem dL_isActed_16 : decode cL_isActed 16 = .ok (.iload_n 3, 1) := by decide +kernel
theorem dL_isActed_17 : decode cL_isActed 17 = .ok (.iconst 3, 1) := by decide +kernel
theorem dL_isActed_18 : decode cL_isActed 18 = .ok (.ishr, 1) := by decide +kernel
theorem dL_isActed_19 : decode cL_isActed 19 = .ok (.iload 5, 2) := by decide +kernel
theorem dL_isActed_21 : decode cL_isActed 21 = .ok (.invokestatic 18, 3) := by decide +kernel
theorem dL_isActed_24 : decode cL_isActed 24 = .ok (.istore 6, 2) := by decide +kernel
theorem dL_isActed_26 : decode cL_isActed 26 = .ok (.iload_n 2, 1) := by decide +kernel
theorem dL_isActed_27 : decode cL_isActed 27 = .ok (.bipush 9, 2) := by decide +kernel
theorem dL_isActed_29 : decode cL_isActed 29 = .ok (.invokestatic 18, 3) := by decide +kernel
theorem dL_isActed_32 : decode cL_isActed 32 = .ok (.tableswitch 295 0 5 #[40, 68, 95, 153, 173, 229], 40) := by decide +kernel
theorem dL_isActed_72 : decode cL_isActed 72 = .ok (.iload 5, 2) := by decide +kernel
theorem dL_isActed_74 : decode cL_isActed 74 = .ok (.bipush 20, 2) := by decide +kernel
theorem dL_isActed_76 : decode cL_isActed 76 = .ok (.if_icmp .gt 18, 3) := by decide +kernel
theorem dL_isActed_79 : decode cL_isActed 79 = .ok (.aload_n 0, 1) := by decide +kernel
theorem dL_isActed_80 : decode cL_isActed 80 = .ok (.iload_n 3, 1) := by decide +kernel
theorem dL_isActed_81 : decode cL_isActed 81 = .ok (.iload 4, 2) := by decide +kernel
theorem dL_isActed_83 : decode cL_isActed 83 = .ok (.invokestatic 18, 3) := by decide +kernel
theorem dL_isActed_86 : decode cL_isActed 86 = .ok (.invokevirtual 38, 3) := by decide +kernel
theorem dL_isActed_89 : decode cL_isActed 89 = .ok (.iload 5, 2) := by decide +kernel
theorem dL_isActed_91 : decode cL_isActed 91 = .ok (.if_icmp .ne 7, 3) := by decide +kernel
theorem dL_isActed_94 : decode cL_isActed 94 = .ok (.iconst 1, 1) := by decide +kernel
theorem dL_isActed_95 : decode cL_isActed 95 = .ok (.goto 4, 3) := by decide +kernel
theorem dL_isActed_98 : decode cL_isActed 98 = .ok (.iconst 0, 1) := by decide +kernel
theorem dL_isActed_99 : decode cL_isActed 99 = .ok (.ireturn, 1) := by decide +kernel
theorem dL_isActed_100 : decode cL_isActed 100 = .ok (.iload 5, 2) := by decide +kernel
theorem dL_isActed_102 : decode cL_isActed 102 = .ok (.bipush 16, 2) := by decide +kernel
theorem dL_isActed_104 : decode cL_isActed 104 = .ok (.if_icmp .gt 17, 3) := by decide +kernel
theorem dL_isActed_107 : decode cL_isActed 107 = .ok (.aload_n 0, 1) := by decide +kernel
theorem dL_isActed_108 : decode cL_isActed 108 = .ok (.iload_n 3, 1) := by decide +kernel
theorem dL_isActed_109 : decode cL_isActed 109 = .ok (.iconst 2, 1) := by decide +kernel
theorem dL_isActed_110 : decode cL_isActed 110 = .ok (.invokestatic 18, 3) := by decide +kernel
theorem dL_isActed_113 : decode cL_isActed 113 = .ok (.invokevirtual 69, 3) := by decide +kernel
theorem dL_isActed_116 : decode cL_isActed 116 = .ok (.iload 5, 2) := by decide +kernel
theorem dL_isActed_118 : decode cL_isActed 118 = .ok (.if_icmp .ne 7, 3) := by decide +kernel
theorem dL_isActed_121 : decode cL_isActed 121 = .ok (.iconst 1, 1) := by decide +kernel
theorem dL_isActed_122 : decode cL_isActed 122 = .ok (.goto 4, 3) := by decide +kernel
theorem dL_isActed_125 : decode cL_isActed 125 = .ok (.iconst 0, 1) := by decide +kernel
theorem dL_isActed_126 : decode cL_isActed 126 = .ok (.ireturn, 1) := by decide +kernel
theorem dL_isActed_127 : decode cL_isActed 127 = .ok (.iload 6, 2) := by decide +kernel
theorem dL_isActed_129 : decode cL_isActed 129 = .ok (.ifCond .lt 50, 3) := by decide +kernel
theorem dL_isActed_132 : decode cL_isActed 132 = .ok (.aload_n 0, 1) := by decide +kernel
theorem dL_isActed_133 : decode cL_isActed 133 = .ok (.iload 6, 2) := by decide +kernel
theorem dL_isActed_135 : decode cL_isActed 135 = .ok (.iload_n 3, 1) := by decide +kernel
theorem dL_isActed_136 : decode cL_isActed 136 = .ok (.iconst 2, 1) := by decide +kernel
theorem dL_isActed_137 : decode cL_isActed 137 = .ok (.invokestatic 18, 3) := by decide +kernel
theorem dL_isActed_140 : decode cL_isActed 140 = .ok (.iload_n 3, 1) := by decide +kernel
theorem dL_isActed_141 : decode cL_isActed 141 = .ok (.iconst 2, 1) := by decide +kernel
theorem dL_isActed_142 : decode cL_isActed 142 = .ok (.ishr, 1) := by decide +kernel
theorem dL_isActed_143 : decode cL_isActed 143 = .ok (.bipush 99, 2) := by decide +kernel
theorem dL_isActed_145 : decode cL_isActed 145 = .ok (.invokestatic 18, 3) := by decide +kernel
theorem dL_isActed_148 : decode cL_isActed 148 = .ok (.invokevirtual 72, 3) := by decide +kernel
theorem dL_isActed_151 : decode cL_isActed 151 = .ok (.aload_n 0, 1) := by decide +kernel
theorem dL_isActed_152 : decode cL_isActed 152 = .ok (.iload 6, 2) := by decide +kernel
theorem dL_isActed_154 : decode cL_isActed 154 = .ok (.iload 5, 2) := by decide +kernel
theorem dL_isActed_156 : decode cL_isActed 156 = .ok (.invokestatic 76, 3) := by decide +kernel
theorem dL_isActed_159 : decode cL_isActed 159 = .ok (.ifCond .ne 7, 3) := by decide +kernel
theorem dL_isActed_162 : decode cL_isActed 162 = .ok (.iconst 1, 1) := by decide +kernel
theorem dL_isActed_163 : decode cL_isActed 163 = .ok (.goto 4, 3) := by decide +kernel
theorem dL_isActed_166 : decode cL_isActed 166 = .ok (.iconst 0, 1) := by decide +kernel
theorem dL_isActed_167 : decode cL_isActed 167 = .ok (.if_icmp .eq 12, 3) := by decide +kernel
theorem dL_isActed_170 : decode cL_isActed 170 = .ok (.aload_n 0, 1) := by decide +kernel
theorem dL_isActed_171 : decode cL_isActed 171 = .ok (.bipush 9, 2) := by decide +kernel
theorem dL_isActed_173 : decode cL_isActed 173 = .ok (.invokevirtual 57, 3) := by decide +kernel
theorem dL_isActed_176 : decode cL_isActed 176 = .ok (.ifCond .le 7, 3) := by decide +kernel
theorem dL_isActed_179 : decode cL_isActed 179 = .ok (.iconst 1, 1) := by decide +kernel
theorem dL_isActed_180 : decode cL_isActed 180 = .ok (.goto 4, 3) := by decide +kernel
theorem dL_isActed_183 : decode cL_isActed 183 = .ok (.iconst 0, 1) := by decide +kernel
theorem dL_isActed_184 : decode cL_isActed 184 = .ok (.ireturn, 1) := by decide +kernel
theorem dL_isActed_185 : decode cL_isActed 185 = .ok (.aload_n 0, 1) := by decide +kernel
theorem dL_isActed_186 : decode cL_isActed 186 = .ok (.iconst 1, 1) := by decide +kernel
theorem dL_isActed_187 : decode cL_isActed 187 = .ok (.iload_n 3, 1) := by decide +kernel
theorem dL_isActed_188 : decode cL_isActed 188 = .ok (.iconst 2, 1) := by decide +kernel
theorem dL_isActed_189 : decode cL_isActed 189 = .ok (.invokestatic 18, 3) := by decide +kernel
theorem dL_isActed_192 : decode cL_isActed 192 = .ok (.iadd, 1) := by decide +kernel
theorem dL_isActed_193 : decode cL_isActed 193 = .ok (.invokevirtual 80, 3) := by decide +kernel
theorem dL_isActed_196 : decode cL_isActed 196 = .ok (.ifCond .lt 7, 3) := by decide +kernel
theorem dL_isActed_199 : decode cL_isActed 199 = .ok (.iconst 1, 1) := by decide +kernel
theorem dL_isActed_200 : decode cL_isActed 200 = .ok (.goto 4, 3) := by decide +kernel
theorem dL_isActed_203 : decode cL_isActed 203 = .ok (.iconst 0, 1) := by decide +kernel
theorem dL_isActed_204 : decode cL_isActed 204 = .ok (.ireturn, 1) := by decide +kernel
theorem dL_isActed_205 : decode cL_isActed 205 = .ok (.iload 6, 2) := by decide +kernel
theorem dL_isActed_207 : decode cL_isActed 207 = .ok (.ifCond .ge 5, 3) := by decide +kernel
theorem dL_isActed_210 : decode cL_isActed 210 = .ok (.iconst 1, 1) := by decide +kernel
theorem dL_isActed_211 : decode cL_isActed 211 = .ok (.ireturn, 1) := by decide +kernel
theorem dL_isActed_212 : decode cL_isActed 212 = .ok (.iload_n 3, 1) := by decide +kernel
theorem dL_isActed_213 : decode cL_isActed 213 = .ok (.bipush 10, 2) := by decide +kernel
theorem dL_isActed_215 : decode cL_isActed 215 = .ok (.invokestatic 18, 3) := by decide +kernel
theorem dL_isActed_218 : decode cL_isActed 218 = .ok (.istore 7, 2) := by decide +kernel
theorem dL_isActed_220 : decode cL_isActed 220 = .ok (.aload_n 0, 1) := by decide +kernel
theorem dL_isActed_221 : decode cL_isActed 221 = .ok (.iload 6, 2) := by decide +kernel
theorem dL_isActed_223 : decode cL_isActed 223 = .ok (.iload 7, 2) := by decide +kernel
theorem dL_isActed_225 : decode cL_isActed 225 = .ok (.invokevirtual 83, 3) := by decide +kernel
theorem dL_isActed_228 : decode cL_isActed 228 = .ok (.istore 8, 2) := by decide +kernel
theorem dL_isActed_230 : decode cL_isActed 230 = .ok (.aload_n 0, 1) := by decide +kernel
theorem dL_isActed_231 : decode cL_isActed 231 = .ok (.iload 6, 2) := by decide +kernel
theorem dL_isActed_233 : decode cL_isActed 233 = .ok (.iload 7, 2) := by decide +kernel
theorem dL_isActed_235 : decode cL_isActed 235 = .ok (.invokevirtual 86, 3) := by decide +kernel
theorem dL_isActed_238 : decode cL_isActed 238 = .ok (.iload 8, 2) := by decide +kernel
theorem dL_isActed_240 : decode cL_isActed 240 = .ok (.invokestatic 89, 3) := by decide +kernel
theorem dL_isActed_243 : decode cL_isActed 243 = .ok (.if_icmp .ne 16, 3) := by decide +kernel
theorem dL_isActed_246 : decode cL_isActed 246 = .ok (.aload_n 0, 1) := by decide +kernel
theorem dL_isActed_247 : decode cL_isActed 247 = .ok (.iload 8, 2) := by decide +kernel
theorem dL_isActed_249 : decode cL_isActed 249 = .ok (.invokestatic 94, 3) := by decide +kernel
theorem dL_isActed_252 : decode cL_isActed 252 = .ok (.ifCond .eq 7, 3) := by decide +kernel
theorem dL_isActed_255 : decode cL_isActed 255 = .ok (.iconst 1, 1) := by decide +kernel
theorem dL_isActed_256 : decode cL_isActed 256 = .ok (.goto 4, 3) := by decide +kernel
theorem dL_isActed_259 : decode cL_isActed 259 = .ok (.iconst 0, 1) := by decide +kernel
theorem dL_isActed_260 : decode cL_isActed 260 = .ok (.ireturn, 1) := by decide +kernel
theorem dL_isActed_261 : decode cL_isActed 261 = .ok (.iload_n 3, 1) := by decide +kernel
theorem dL_isActed_262 : decode cL_isActed 262 = .ok (.iload 4, 2) := by decide +kernel
theorem dL_isActed_264 : decode cL_isActed 264 = .ok (.invokestatic 18, 3) := by decide +kernel
theorem dL_isActed_267 : decode cL_isActed 267 = .ok (.istore 9, 2) := by decide +kernel
theorem dL_isActed_269 : decode cL_isActed 269 = .ok (.aload_n 0, 1) := by decide +kernel
theorem dL_isActed_270 : decode cL_isActed 270 = .ok (.iload 9, 2) := by decide +kernel
theorem dL_isActed_272 : decode cL_isActed 272 = .ok (.invokevirtual 98, 3) := by decide +kernel
theorem dL_isActed_275 : decode cL_isActed 275 = .ok (.istore 10, 2) := by decide +kernel
theorem dL_isActed_277 : decode cL_isActed 277 = .ok (.aload_n 0, 1) := by decide +kernel
theorem dL_isActed_278 : decode cL_isActed 278 = .ok (.iload 9, 2) := by decide +kernel
theorem dL_isActed_280 : decode cL_isActed 280 = .ok (.iconst 0, 1) := by decide +kernel
theorem dL_isActed_281 : decode cL_isActed 281 = .ok (.invokevirtual 101, 3) := by decide +kernel
theorem dL_isActed_284 : decode cL_isActed 284 = .ok (.iconst 4, 1) := by decide +kernel
theorem dL_isActed_285 : decode cL_isActed 285 = .ok (.if_icmp .eq 36, 3) := by decide +kernel
theorem dL_isActed_288 : decode cL_isActed 288 = .ok (.iload_n 3, 1) := by decide +kernel
theorem dL_isActed_289 : decode cL_isActed 289 = .ok (.iconst 5, 1) := by decide +kernel
theorem dL_isActed_290 : decode cL_isActed 290 = .ok (.ishr, 1) := by decide +kernel
theorem dL_isActed_291 : decode cL_isActed 291 = .ok (.iconst 3, 1) := by decide +kernel
theorem dL_isActed_292 : decode cL_isActed 292 = .ok (.invokestatic 18, 3) := by decide +kernel
theorem dL_isActed_295 : decode cL_isActed 295 = .ok (.ifCond .gt 26, 3) := by decide +kernel
theorem dL_isActed_298 : decode cL_isActed 298 = .ok (.aload_n 0, 1) := by decide +kernel
theorem dL_isActed_299 : decode cL_isActed 299 = .ok (.iload 9, 2) := by decide +kernel
theorem dL_isActed_301 : decode cL_isActed 301 = .ok (.invokevirtual 104, 3) := by decide +kernel
theorem dL_isActed_304 : decode cL_isActed 304 = .ok (.iload 10, 2) := by decide +kernel
theorem dL_isActed_306 : decode cL_isActed 306 = .ok (.invokestatic 89, 3) := by decide +kernel
theorem dL_isActed_309 : decode cL_isActed 309 = .ok (.if_icmp .ne 16, 3) := by decide +kernel
theorem dL_isActed_312 : decode cL_isActed 312 = .ok (.aload_n 0, 1) := by decide +kernel
theorem dL_isActed_313 : decode cL_isActed 313 = .ok (.iload 10, 2) := by decide +kernel
theorem dL_isActed_315 : decode cL_isActed 315 = .ok (.invokestatic 94, 3) := by decide +kernel
theorem dL_isActed_318 : decode cL_isActed 318 = .ok (.ifCond .eq 7, 3) := by decide +kernel
theorem dL_isActed_321 : decode cL_isActed 321 = .ok (.iconst 1, 1) := by decide +kernel
theorem dL_isActed_322 : decode cL_isActed 322 = .ok (.goto 4, 3) := by decide +kernel
