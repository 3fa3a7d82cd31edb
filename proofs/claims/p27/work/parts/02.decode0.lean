theorem dX0_copyFrom_0 : decode cX0_copyFrom 0 = .ok (.aload_n 1, 1) := by decide +kernel
theorem dX0_copyFrom_1 : decode cX0_copyFrom 1 = .ok (.getfield 9, 3) := by decide +kernel
theorem dX0_copyFrom_4 : decode cX0_copyFrom 4 = .ok (.iconst 0, 1) := by decide +kernel
theorem dX0_copyFrom_5 : decode cX0_copyFrom 5 = .ok (.aload_n 0, 1) := by decide +kernel
theorem dX0_copyFrom_6 : decode cX0_copyFrom 6 = .ok (.getfield 9, 3) := by decide +kernel
theorem dX0_copyFrom_9 : decode cX0_copyFrom 9 = .ok (.iconst 0, 1) := by decide +kernel
theorem dX0_copyFrom_10 : decode cX0_copyFrom 10 = .ok (.bipush 8, 2) := by decide +kernel
theorem dX0_copyFrom_12 : decode cX0_copyFrom 12 = .ok (.invokestatic 26, 3) := by decide +kernel
theorem dX0_copyFrom_15 : decode cX0_copyFrom 15 = .ok (.aload_n 1, 1) := by decide +kernel
theorem dX0_copyFrom_16 : decode cX0_copyFrom 16 = .ok (.getfield 15, 3) := by decide +kernel
theorem dX0_copyFrom_19 : decode cX0_copyFrom 19 = .ok (.iconst 0, 1) := by decide +kernel
theorem dX0_copyFrom_20 : decode cX0_copyFrom 20 = .ok (.aload_n 0, 1) := by decide +kernel
theorem dX0_copyFrom_21 : decode cX0_copyFrom 21 = .ok (.getfield 15, 3) := by decide +kernel
theorem dX0_copyFrom_24 : decode cX0_copyFrom 24 = .ok (.iconst 0, 1) := by decide +kernel
theorem dX0_copyFrom_25 : decode cX0_copyFrom 25 = .ok (.bipush 8, 2) := by decide +kernel
theorem dX0_copyFrom_27 : decode cX0_copyFrom 27 = .ok (.invokestatic 26, 3) := by decide +kernel
theorem dX0_copyFrom_30 : decode cX0_copyFrom 30 = .ok (.aload_n 0, 1) := by decide +kernel
theorem dX0_copyFrom_31 : decode cX0_copyFrom 31 = .ok (.aload_n 1, 1) := by decide +kernel
theorem dX0_copyFrom_32 : decode cX0_copyFrom 32 = .ok (.getfield 18, 3) := by decide +kernel
theorem dX0_copyFrom_35 : decode cX0_copyFrom 35 = .ok (.putfield 18, 3) := by decide +kernel
theorem dX0_copyFrom_38 : decode cX0_copyFrom 38 = .ok (.return_, 1) := by decide +kernel
theorem dX0_firstOf_0 : decode cX0_firstOf 0 = .ok (.iconst 0, 1) := by decide +kernel
theorem dX0_firstOf_1 : decode cX0_firstOf 1 = .ok (.istore_n 2, 1) := by decide +kernel
theorem dX0_firstOf_2 : decode cX0_firstOf 2 = .ok (.iload_n 2, 1) := by decide +kernel
theorem dX0_firstOf_3 : decode cX0_firstOf 3 = .ok (.aload_n 0, 1) := by decide +kernel
theorem dX0_firstOf_4 : decode cX0_firstOf 4 = .ok (.getfield 18, 3) := by decide +kernel
theorem dX0_firstOf_7 : decode cX0_firstOf 7 = .ok (.if_icmp .ge 32, 3) := by decide +kernel
theorem dX0_firstOf_10 : decode cX0_firstOf 10 = .ok (.iload_n 2, 1) := by decide +kernel
theorem dX0_firstOf_11 : decode cX0_firstOf 11 = .ok (.bipush 8, 2) := by decide +kernel
theorem dX0_firstOf_13 : decode cX0_firstOf 13 = .ok (.if_icmp .ge 26, 3) := by decide +kernel
theorem dX0_firstOf_16 : decode cX0_firstOf 16 = .ok (.iload_n 1, 1) := by decide +kernel
theorem dX0_firstOf_17 : decode cX0_firstOf 17 = .ok (.iconst 4, 1) := by decide +kernel
theorem dX0_firstOf_18 : decode cX0_firstOf 18 = .ok (.if_icmp .eq 13, 3) := by decide +kernel
theorem dX0_firstOf_21 : decode cX0_firstOf 21 = .ok (.aload_n 0, 1) := by decide +kernel
theorem dX0_firstOf_22 : decode cX0_firstOf 22 = .ok (.getfield 9, 3) := by decide +kernel
theorem dX0_firstOf_25 : decode cX0_firstOf 25 = .ok (.iload_n 2, 1) := by decide +kernel
theorem dX0_firstOf_26 : decode cX0_firstOf 26 = .ok (.iaload, 1) := by decide +kernel
theorem dX0_firstOf_27 : decode cX0_firstOf 27 = .ok (.iload_n 1, 1) := by decide +kernel
theorem dX0_firstOf_28 : decode cX0_firstOf 28 = .ok (.if_icmp .ne 5, 3) := by decide +kernel
theorem dX0_firstOf_31 : decode cX0_firstOf 31 = .ok (.iload_n 2, 1) := by decide +kernel
theorem dX0_firstOf_32 : decode cX0_firstOf 32 = .ok (.ireturn, 1) := by decide +kernel
theorem dX0_firstOf_33 : decode cX0_firstOf 33 = .ok (.iinc 2 1, 3) := by decide +kernel
theorem dX0_firstOf_36 : decode cX0_firstOf 36 = .ok (.goto (-34), 3) := by decide +kernel
theorem dX0_firstOf_39 : decode cX0_firstOf 39 = .ok (.iconst (-1), 1) := by decide +kernel
theorem dX0_firstOf_40 : decode cX0_firstOf 40 = .ok (.ireturn, 1) := by decide +kernel
theorem dX0_init_0 : decode cX0_init 0 = .ok (.aload_n 0, 1) := by decide +kernel
theorem dX0_init_1 : decode cX0_init 1 = .ok (.invokespecial 3, 3) := by decide +kernel
theorem dX0_init_4 : decode cX0_init 4 = .ok (.aload_n 0, 1) := by decide +kernel
theorem dX0_init_5 : decode cX0_init 5 = .ok (.bipush 8, 2) := by decide +kernel
theorem dX0_init_7 : decode cX0_init 7 = .ok (.newarray .int, 2) := by decide +kernel
theorem dX0_init_9 : decode cX0_init 9 = .ok (.putfield 9, 3) := by decide +kernel
theorem dX0_init_12 : decode cX0_init 12 = .ok (.aload_n 0, 1) := by decide +kernel
theorem dX0_init_13 : decode cX0_init 13 = .ok (.bipush 8, 2) := by decide +kernel
theorem dX0_init_15 : decode cX0_init 15 = .ok (.newarray .int, 2) := by decide +kernel
theorem dX0_init_17 : decode cX0_init 17 = .ok (.putfield 15, 3) := by decide +kernel
theorem dX0_init_20 : decode cX0_init 20 = .ok (.return_, 1) := by decide +kernel
theorem dX0_put_0 : decode cX0_put 0 = .ok (.aload_n 0, 1) := by decide +kernel
theorem dX0_put_1 : decode cX0_put 1 = .ok (.getfield 18, 3) := by decide +kernel
theorem dX0_put_4 : decode cX0_put 4 = .ok (.bipush 8, 2) := by decide +kernel
theorem dX0_put_6 : decode cX0_put 6 = .ok (.if_icmp .lt 5, 3) := by decide +kernel
theorem dX0_put_9 : decode cX0_put 9 = .ok (.iconst 0, 1) := by decide +kernel
theorem dX0_put_10 : decode cX0_put 10 = .ok (.ireturn, 1) := by decide +kernel
theorem dX0_put_11 : decode cX0_put 11 = .ok (.aload_n 0, 1) := by decide +kernel
theorem dX0_put_12 : decode cX0_put 12 = .ok (.getfield 9, 3) := by decide +kernel
theorem dX0_put_15 : decode cX0_put 15 = .ok (.aload_n 0, 1) := by decide +kernel
theorem dX0_put_16 : decode cX0_put 16 = .ok (.getfield 18, 3) := by decide +kernel
theorem dX0_put_19 : decode cX0_put 19 = .ok (.iload_n 1, 1) := by decide +kernel
theorem dX0_put_20 : decode cX0_put 20 = .ok (.iastore, 1) := by decide +kernel
theorem dX0_put_21 : decode cX0_put 21 = .ok (.aload_n 0, 1) := by decide +kernel
theorem dX0_put_22 : decode cX0_put 22 = .ok (.getfield 15, 3) := by decide +kernel
theorem dX0_put_25 : decode cX0_put 25 = .ok (.aload_n 0, 1) := by decide +kernel
theorem dX0_put_26 : decode cX0_put 26 = .ok (.getfield 18, 3) := by decide +kernel
theorem dX0_put_29 : decode cX0_put 29 = .ok (.iload_n 2, 1) := by decide +kernel
theorem dX0_put_30 : decode cX0_put 30 = .ok (.iastore, 1) := by decide +kernel
theorem dX0_put_31 : decode cX0_put 31 = .ok (.aload_n 0, 1) := by decide +kernel
theorem dX0_put_32 : decode cX0_put 32 = .ok (.dup, 1) := by decide +kernel
theorem dX0_put_33 : decode cX0_put 33 = .ok (.getfield 18, 3) := by decide +kernel
theorem dX0_put_36 : decode cX0_put 36 = .ok (.iconst 1, 1) := by decide +kernel
theorem dX0_put_37 : decode cX0_put 37 = .ok (.iadd, 1) := by decide +kernel
theorem dX0_put_38 : decode cX0_put 38 = .ok (.putfield 18, 3) := by decide +kernel
theorem dX0_put_41 : decode cX0_put 41 = .ok (.iconst 1, 1) := by decide +kernel
theorem dX0_put_42 : decode cX0_put 42 = .ok (.ireturn, 1) := by decide +kernel
theorem dX0_takeOut_0 : decode cX0_takeOut 0 = .ok (.iload_n 1, 1) := by decide +kernel
theorem dX0_takeOut_1 : decode cX0_takeOut 1 = .ok (.iconst 0, 1) := by decide +kernel
theorem dX0_takeOut_2 : decode cX0_takeOut 2 = .ok (.aload_n 0, 1) := by decide +kernel
theorem dX0_takeOut_3 : decode cX0_takeOut 3 = .ok (.getfield 18, 3) := by decide +kernel
theorem dX0_takeOut_6 : decode cX0_takeOut 6 = .ok (.iconst 1, 1) := by decide +kernel
theorem dX0_takeOut_7 : decode cX0_takeOut 7 = .ok (.isub, 1) := by decide +kernel
theorem dX0_takeOut_8 : decode cX0_takeOut 8 = .ok (.invokestatic 22, 3) := by decide +kernel
theorem dX0_takeOut_11 : decode cX0_takeOut 11 = .ok (.ifCond .eq 9, 3) := by decide +kernel
theorem dX0_takeOut_14 : decode cX0_takeOut 14 = .ok (.iload_n 1, 1) := by decide +kernel
theorem dX0_takeOut_15 : decode cX0_takeOut 15 = .ok (.bipush 8, 2) := by decide +kernel
theorem dX0_takeOut_17 : decode cX0_takeOut 17 = .ok (.if_icmp .lt 5, 3) := by decide +kernel
theorem dX0_takeOut_20 : decode cX0_takeOut 20 = .ok (.iconst (-1), 1) := by decide +kernel
theorem dX0_takeOut_21 : decode cX0_takeOut 21 = .ok (.ireturn, 1) := by decide +kernel
theorem dX0_takeOut_22 : decode cX0_takeOut 22 = .ok (.aload_n 0, 1) := by decide +kernel
theorem dX0_takeOut_23 : decode cX0_takeOut 23 = .ok (.getfield 15, 3) := by decide +kernel
theorem dX0_takeOut_26 : decode cX0_takeOut 26 = .ok (.iload_n 1, 1) := by decide +kernel
theorem dX0_takeOut_27 : decode cX0_takeOut 27 = .ok (.iaload, 1) := by decide +kernel
theorem dX0_takeOut_28 : decode cX0_takeOut 28 = .ok (.istore_n 2, 1) := by decide +kernel
theorem dX0_takeOut_29 : decode cX0_takeOut 29 = .ok (.iload_n 1, 1) := by decide +kernel
theorem dX0_takeOut_30 : decode cX0_takeOut 30 = .ok (.iconst 1, 1) := by decide +kernel
theorem dX0_takeOut_31 : decode cX0_takeOut 31 = .ok (.iadd, 1) := by decide +kernel
theorem dX0_takeOut_32 : decode cX0_takeOut 32 = .ok (.istore_n 3, 1) := by decide +kernel
theorem dX0_takeOut_33 : decode cX0_takeOut 33 = .ok (.iload_n 3, 1) := by decide +kernel
theorem dX0_takeOut_34 : decode cX0_takeOut 34 = .ok (.aload_n 0, 1) := by decide +kernel
theorem dX0_takeOut_35 : decode cX0_takeOut 35 = .ok (.getfield 18, 3) := by decide +kernel
theorem dX0_takeOut_38 : decode cX0_takeOut 38 = .ok (.if_icmp .ge 43, 3) := by decide +kernel
theorem dX0_takeOut_41 : decode cX0_takeOut 41 = .ok (.iload_n 3, 1) := by decide +kernel
theorem dX0_takeOut_42 : decode cX0_takeOut 42 = .ok (.bipush 8, 2) := by decide +kernel
theorem dX0_takeOut_44 : decode cX0_takeOut 44 = .ok (.if_icmp .ge 37, 3) := by decide +kernel
theorem dX0_takeOut_47 : decode cX0_takeOut 47 = .ok (.aload_n 0, 1) := by decide +kernel
theorem dX0_takeOut_48 : decode cX0_takeOut 48 = .ok (.getfield 9, 3) := by decide +kernel
theorem dX0_takeOut_51 : decode cX0_takeOut 51 = .ok (.iload_n 3, 1) := by decide +kernel
theorem dX0_takeOut_52 : decode cX0_takeOut 52 = .ok (.iconst 1, 1) := by decide +kernel
theorem dX0_takeOut_53 : decode cX0_takeOut 53 = .ok (.isub, 1) := by decide +kernel
theorem dX0_takeOut_54 : decode cX0_takeOut 54 = .ok (.aload_n 0, 1) := by decide +kernel
theorem dX0_takeOut_55 : decode cX0_takeOut 55 = .ok (.getfield 9, 3) := by decide +kernel
theorem dX0_takeOut_58 : decode cX0_takeOut 58 = .ok (.iload_n 3, 1) := by decide +kernel
theorem dX0_takeOut_59 : decode cX0_takeOut 59 = .ok (.iaload, 1) := by decide +kernel
theorem dX0_takeOut_60 : decode cX0_takeOut 60 = .ok (.iastore, 1) := by decide +kernel
theorem dX0_takeOut_61 : decode cX0_takeOut 61 = .ok (.aload_n 0, 1) := by decide +kernel
theorem dX0_takeOut_62 : decode cX0_takeOut 62 = .ok (.getfield 15, 3) := by decide +kernel
theorem dX0_takeOut_65 : decode cX0_takeOut 65 = .ok (.iload_n 3, 1) := by decide +kernel
theorem dX0_takeOut_66 : decode cX0_takeOut 66 = .ok (.iconst 1, 1) := by decide +kernel
theorem dX0_takeOut_67 : decode cX0_takeOut 67 = .ok (.isub, 1) := by decide +kernel
theorem dX0_takeOut_68 : decode cX0_takeOut 68 = .ok (.aload_n 0, 1) := by decide +kernel
theorem dX0_takeOut_69 : decode cX0_takeOut 69 = .ok (.getfield 15, 3) := by decide +kernel
theorem dX0_takeOut_72 : decode cX0_takeOut 72 = .ok (.iload_n 3, 1) := by decide +kernel
theorem dX0_takeOut_73 : decode cX0_takeOut 73 = .ok (.iaload, 1) := by decide +kernel
theorem dX0_takeOut_74 : decode cX0_takeOut 74 = .ok (.iastore, 1) := by decide +kernel
theorem dX0_takeOut_75 : decode cX0_takeOut 75 = .ok (.iinc 3 1, 3) := by decide +kernel
theorem dX0_takeOut_78 : decode cX0_takeOut 78 = .ok (.goto (-45), 3) := by decide +kernel
theorem dX0_takeOut_81 : decode cX0_takeOut 81 = .ok (.aload_n 0, 1) := by decide +kernel
theorem dX0_takeOut_82 : decode cX0_takeOut 82 = .ok (.dup, 1) := by decide +kernel
theorem dX0_takeOut_83 : decode cX0_takeOut 83 = .ok (.getfield 18, 3) := by decide +kernel
theorem dX0_takeOut_86 : decode cX0_takeOut 86 = .ok (.iconst 1, 1) := by decide +kernel
theorem dX0_takeOut_87 : decode cX0_takeOut 87 = .ok (.isub, 1) := by decide +kernel
theorem dX0_takeOut_88 : decode cX0_takeOut 88 = .ok (.putfield 18, 3) := by decide +kernel
theorem dX0_takeOut_91 : decode cX0_takeOut 91 = .ok (.iload_n 2, 1) := by decide +kernel
theorem dX0_takeOut_92 : decode cX0_takeOut 92 = .ok (.ireturn, 1) := by decide +kernel
theorem dX1_addLine_0 : decode cX1_addLine 0 = .ok (.aload_n 0, 1) := by decide +kernel
theorem dX1_addLine_1 : decode cX1_addLine 1 = .ok (.iload_n 1, 1) := by decide +kernel
theorem dX1_addLine_2 : decode cX1_addLine 2 = .ok (.iload_n 2, 1) := by decide +kernel
theorem dX1_addLine_3 : decode cX1_addLine 3 = .ok (.invokevirtual 36, 3) := by decide +kernel
theorem dX1_addLine_6 : decode cX1_addLine 6 = .ok (.istore 6, 2) := by decide +kernel
theorem dX1_addLine_8 : decode cX1_addLine 8 = .ok (.iload 6, 2) := by decide +kernel
theorem dX1_addLine_10 : decode cX1_addLine 10 = .ok (.iconst (-1), 1) := by decide +kernel
theorem dX1_addLine_11 : decode cX1_addLine 11 = .ok (.if_icmp .eq 15, 3) := by decide +kernel
theorem dX1_addLine_14 : decode cX1_addLine 14 = .ok (.aload_n 0, 1) := by decide +kernel
theorem dX1_addLine_15 : decode cX1_addLine 15 = .ok (.getfield 9, 3) := by decide +kernel
theorem dX1_addLine_18 : decode cX1_addLine 18 = .ok (.iload 6, 2) := by decide +kernel
theorem dX1_addLine_20 : decode cX1_addLine 20 = .ok (.iaload, 1) := by decide +kernel
theorem dX1_addLine_21 : decode cX1_addLine 21 = .ok (.bipush 12, 2) := by decide +kernel
theorem dX1_addLine_23 : decode cX1_addLine 23 = .ok (.if_icmp .lt 5, 3) := by decide +kernel
theorem dX1_addLine_26 : decode cX1_addLine 26 = .ok (.iconst (-1), 1) := by decide +kernel
theorem dX1_addLine_27 : decode cX1_addLine 27 = .ok (.ireturn, 1) := by decide +kernel
theorem dX1_addLine_28 : decode cX1_addLine 28 = .ok (.aload_n 0, 1) := by decide +kernel
theorem dX1_addLine_29 : decode cX1_addLine 29 = .ok (.getfield 9, 3) := by decide +kernel
theorem dX1_addLine_32 : decode cX1_addLine 32 = .ok (.iload 6, 2) := by decide +kernel
theorem dX1_addLine_34 : decode cX1_addLine 34 = .ok (.iaload, 1) := by decide +kernel
theorem dX1_addLine_35 : decode cX1_addLine 35 = .ok (.istore 7, 2) := by decide +kernel
theorem dX1_addLine_37 : decode cX1_addLine 37 = .ok (.aload_n 0, 1) := by decide +kernel
theorem dX1_addLine_38 : decode cX1_addLine 38 = .ok (.getfield 9, 3) := by decide +kernel
theorem dX1_addLine_41 : decode cX1_addLine 41 = .ok (.iload 6, 2) := by decide +kernel
theorem dX1_addLine_43 : decode cX1_addLine 43 = .ok (.iload 7, 2) := by decide +kernel
theorem dX1_addLine_45 : decode cX1_addLine 45 = .ok (.iconst 1, 1) := by decide +kernel
theorem dX1_addLine_46 : decode cX1_addLine 46 = .ok (.iadd, 1) := by decide +kernel
theorem dX1_addLine_47 : decode cX1_addLine 47 = .ok (.iastore, 1) := by decide +kernel
theorem dX1_addLine_48 : decode cX1_addLine 48 = .ok (.iload 6, 2) := by decide +kernel
theorem dX1_addLine_50 : decode cX1_addLine 50 = .ok (.bipush 12, 2) := by decide +kernel
theorem dX1_addLine_52 : decode cX1_addLine 52 = .ok (.imul, 1) := by decide +kernel
theorem dX1_addLine_53 : decode cX1_addLine 53 = .ok (.iload 7, 2) := by decide +kernel
theorem dX1_addLine_55 : decode cX1_addLine 55 = .ok (.iadd, 1) := by decide +kernel
theorem dX1_addLine_56 : decode cX1_addLine 56 = .ok (.istore 8, 2) := by decide +kernel
theorem dX1_addLine_58 : decode cX1_addLine 58 = .ok (.aload_n 0, 1) := by decide +kernel
theorem dX1_addLine_59 : decode cX1_addLine 59 = .ok (.getfield 15, 3) := by decide +kernel
theorem dX1_addLine_62 : decode cX1_addLine 62 = .ok (.iload 8, 2) := by decide +kernel
theorem dX1_addLine_64 : decode cX1_addLine 64 = .ok (.iload_n 3, 1) := by decide +kernel
theorem dX1_addLine_65 : decode cX1_addLine 65 = .ok (.iastore, 1) := by decide +kernel
theorem dX1_addLine_66 : decode cX1_addLine 66 = .ok (.aload_n 0, 1) := by decide +kernel
theorem dX1_addLine_67 : decode cX1_addLine 67 = .ok (.getfield 18, 3) := by decide +kernel
theorem dX1_addLine_70 : decode cX1_addLine 70 = .ok (.iload 8, 2) := by decide +kernel
theorem dX1_addLine_72 : decode cX1_addLine 72 = .ok (.iload 4, 2) := by decide +kernel
theorem dX1_addLine_74 : decode cX1_addLine 74 = .ok (.iastore, 1) := by decide +kernel
theorem dX1_addLine_75 : decode cX1_addLine 75 = .ok (.aload_n 0, 1) := by decide +kernel
theorem dX1_addLine_76 : decode cX1_addLine 76 = .ok (.getfield 21, 3) := by decide +kernel
theorem dX1_addLine_79 : decode cX1_addLine 79 = .ok (.iload 8, 2) := by decide +kernel
theorem dX1_addLine_81 : decode cX1_addLine 81 = .ok (.iload 5, 2) := by decide +kernel
theorem dX1_addLine_83 : decode cX1_addLine 83 = .ok (.iastore, 1) := by decide +kernel
theorem dX1_addLine_84 : decode cX1_addLine 84 = .ok (.iload 7, 2) := by decide +kernel
theorem dX1_addLine_86 : decode cX1_addLine 86 = .ok (.ireturn, 1) := by decide +kernel
theorem dX1_hasModule_0 : decode cX1_hasModule 0 = .ok (.iload_n 1, 1) := by decide +kernel
theorem dX1_hasModule_1 : decode cX1_hasModule 1 = .ok (.ifCond .lt 20, 3) := by decide +kernel
theorem dX1_hasModule_4 : decode cX1_hasModule 4 = .ok (.iload_n 1, 1) := by decide +kernel
theorem dX1_hasModule_5 : decode cX1_hasModule 5 = .ok (.aload_n 0, 1) := by decide +kernel
theorem dX1_hasModule_6 : decode cX1_hasModule 6 = .ok (.getfield 24, 3) := by decide +kernel
theorem dX1_hasModule_9 : decode cX1_hasModule 9 = .ok (.if_icmp .ge 12, 3) := by decide +kernel
theorem dX1_hasModule_12 : decode cX1_hasModule 12 = .ok (.iload_n 1, 1) := by decide +kernel
theorem dX1_hasModule_13 : decode cX1_hasModule 13 = .ok (.iconst 4, 1) := by decide +kernel
theorem dX1_hasModule_14 : decode cX1_hasModule 14 = .ok (.if_icmp .ge 7, 3) := by decide +kernel
theorem dX1_hasModule_17 : decode cX1_hasModule 17 = .ok (.iconst 1, 1) := by decide +kernel
theorem dX1_hasModule_18 : decode cX1_hasModule 18 = .ok (.goto 4, 3) := by decide +kernel
theorem dX1_hasModule_21 : decode cX1_hasModule 21 = .ok (.iconst 0, 1) := by decide +kernel
theorem dX1_hasModule_22 : decode cX1_hasModule 22 = .ok (.ireturn, 1) := by decide +kernel
theorem dX1_init_0 : decode cX1_init 0 = .ok (.aload_n 0, 1) := by decide +kernel
theorem dX1_init_1 : decode cX1_init 1 = .ok (.invokespecial 3, 3) := by decide +kernel
theorem dX1_init_4 : decode cX1_init 4 = .ok (.aload_n 0, 1) := by decide +kernel
theorem dX1_init_5 : decode cX1_init 5 = .ok (.bipush 16, 2) := by decide +kernel
theorem dX1_init_7 : decode cX1_init 7 = .ok (.newarray .int, 2) := by decide +kernel
theorem dX1_init_9 : decode cX1_init 9 = .ok (.putfield 9, 3) := by decide +kernel
theorem dX1_init_12 : decode cX1_init 12 = .ok (.aload_n 0, 1) := by decide +kernel
theorem dX1_init_13 : decode cX1_init 13 = .ok (.sipush 192, 3) := by decide +kernel
theorem dX1_init_16 : decode cX1_init 16 = .ok (.newarray .int, 2) := by decide +kernel
theorem dX1_init_18 : decode cX1_init 18 = .ok (.putfield 15, 3) := by decide +kernel
theorem dX1_init_21 : decode cX1_init 21 = .ok (.aload_n 0, 1) := by decide +kernel
theorem dX1_init_22 : decode cX1_init 22 = .ok (.sipush 192, 3) := by decide +kernel
theorem dX1_init_25 : decode cX1_init 25 = .ok (.newarray .int, 2) := by decide +kernel
theorem dX1_init_27 : decode cX1_init 27 = .ok (.putfield 18, 3) := by decide +kernel
theorem dX1_init_30 : decode cX1_init 30 = .ok (.aload_n 0, 1) := by decide +kernel
theorem dX1_init_31 : decode cX1_init 31 = .ok (.sipush 192, 3) := by decide +kernel
theorem dX1_init_34 : decode cX1_init 34 = .ok (.newarray .int, 2) := by decide +kernel
theorem dX1_init_36 : decode cX1_init 36 = .ok (.putfield 21, 3) := by decide +kernel
theorem dX1_init_39 : decode cX1_init 39 = .ok (.return_, 1) := by decide +kernel
theorem dX1_isLine_0 : decode cX1_isLine 0 = .ok (.iload_n 1, 1) := by decide +kernel
theorem dX1_isLine_1 : decode cX1_isLine 1 = .ok (.iconst 0, 1) := by decide +kernel
theorem dX1_isLine_2 : decode cX1_isLine 2 = .ok (.bipush 17, 2) := by decide +kernel
theorem dX1_isLine_4 : decode cX1_isLine 4 = .ok (.invokestatic 32, 3) := by decide +kernel
theorem dX1_isLine_7 : decode cX1_isLine 7 = .ok (.ifCond .eq 20, 3) := by decide +kernel
theorem dX1_isLine_10 : decode cX1_isLine 10 = .ok (.iload_n 2, 1) := by decide +kernel
theorem dX1_isLine_11 : decode cX1_isLine 11 = .ok (.getstatic 40, 3) := by decide +kernel
theorem dX1_isLine_14 : decode cX1_isLine 14 = .ok (.iload_n 1, 1) := by decide +kernel
theorem dX1_isLine_15 : decode cX1_isLine 15 = .ok (.iaload, 1) := by decide +kernel
theorem dX1_isLine_16 : decode cX1_isLine 16 = .ok (.getstatic 43, 3) := by decide +kernel
theorem dX1_isLine_19 : decode cX1_isLine 19 = .ok (.iload_n 1, 1) := by decide +kernel
theorem dX1_isLine_20 : decode cX1_isLine 20 = .ok (.iaload, 1) := by decide +kernel
theorem dX1_isLine_21 : decode cX1_isLine 21 = .ok (.invokestatic 32, 3) := by decide +kernel
theorem dX1_isLine_24 : decode cX1_isLine 24 = .ok (.ifCond .ne 5, 3) := by decide +kernel
theorem dX1_isLine_27 : decode cX1_isLine 27 = .ok (.iconst 0, 1) := by decide +kernel
theorem dX1_isLine_28 : decode cX1_isLine 28 = .ok (.ireturn, 1) := by decide +kernel
theorem dX1_isLine_29 : decode cX1_isLine 29 = .ok (.iload_n 1, 1) := by decide +kernel
theorem dX1_isLine_30 : decode cX1_isLine 30 = .ok (.iconst 4, 1) := by decide +kernel
theorem dX1_isLine_31 : decode cX1_isLine 31 = .ok (.if_icmp .ne 10, 3) := by decide +kernel
theorem dX1_isLine_34 : decode cX1_isLine 34 = .ok (.iload 4, 2) := by decide +kernel
theorem dX1_isLine_36 : decode cX1_isLine 36 = .ok (.iconst 1, 1) := by decide +kernel
theorem dX1_isLine_37 : decode cX1_isLine 37 = .ok (.iadd, 1) := by decide +kernel
theorem dX1_isLine_38 : decode cX1_isLine 38 = .ok (.goto 4, 3) := by decide +kernel
theorem dX1_isLine_41 : decode cX1_isLine 41 = .ok (.iconst 0, 1) := by decide +kernel
theorem dX1_isLine_42 : decode cX1_isLine 42 = .ok (.istore 5, 2) := by decide +kernel
theorem dX1_isLine_44 : decode cX1_isLine 44 = .ok (.iload_n 1, 1) := by decide +kernel
theorem dX1_isLine_45 : decode cX1_isLine 45 = .ok (.iconst 3, 1) := by decide +kernel
theorem dX1_isLine_46 : decode cX1_isLine 46 = .ok (.if_icmp .ne 8, 3) := by decide +kernel
theorem dX1_isLine_49 : decode cX1_isLine 49 = .ok (.iload 4, 2) := by decide +kernel
theorem dX1_isLine_51 : decode cX1_isLine 51 = .ok (.goto 8, 3) := by decide +kernel
theorem dX1_isLine_54 : decode cX1_isLine 54 = .ok (.getstatic 46, 3) := by decide +kernel
theorem dX1_isLine_57 : decode cX1_isLine 57 = .ok (.iload_n 1, 1) := by decide +kernel
theorem dX1_isLine_58 : decode cX1_isLine 58 = .ok (.iaload, 1) := by decide +kernel
theorem dX1_isLine_59 : decode cX1_isLine 59 = .ok (.istore 6, 2) := by decide +kernel
theorem dX1_isLine_61 : decode cX1_isLine 61 = .ok (.iload_n 3, 1) := by decide +kernel
theorem dX1_isLine_62 : decode cX1_isLine 62 = .ok (.iload 5, 2) := by decide +kernel
theorem dX1_isLine_64 : decode cX1_isLine 64 = .ok (.iload 6, 2) := by decide +kernel
theorem dX1_isLine_66 : decode cX1_isLine 66 = .ok (.invokestatic 32, 3) := by decide +kernel
theorem dX1_isLine_69 : decode cX1_isLine 69 = .ok (.ireturn, 1) := by decide +kernel
theorem dX1_lineAt_0 : decode cX1_lineAt 0 = .ok (.aload_n 0, 1) := by decide +kernel
theorem dX1_lineAt_1 : decode cX1_lineAt 1 = .ok (.iload_n 1, 1) := by decide +kernel
theorem dX1_lineAt_2 : decode cX1_lineAt 2 = .ok (.iload_n 2, 1) := by decide +kernel
theorem dX1_lineAt_3 : decode cX1_lineAt 3 = .ok (.invokevirtual 36, 3) := by decide +kernel
theorem dX1_lineAt_6 : decode cX1_lineAt 6 = .ok (.istore 4, 2) := by decide +kernel
theorem dX1_lineAt_8 : decode cX1_lineAt 8 = .ok (.iload 4, 2) := by decide +kernel
theorem dX1_lineAt_10 : decode cX1_lineAt 10 = .ok (.iconst (-1), 1) := by decide +kernel
theorem dX1_lineAt_11 : decode cX1_lineAt 11 = .ok (.if_icmp .eq 26, 3) := by decide +kernel
theorem dX1_lineAt_14 : decode cX1_lineAt 14 = .ok (.iload_n 3, 1) := by decide +kernel
theorem dX1_lineAt_15 : decode cX1_lineAt 15 = .ok (.iconst 0, 1) := by decide +kernel
theorem dX1_lineAt_16 : decode cX1_lineAt 16 = .ok (.aload_n 0, 1) := by decide +kernel
theorem dX1_lineAt_17 : decode cX1_lineAt 17 = .ok (.getfield 9, 3) := by decide +kernel
theorem dX1_lineAt_20 : decode cX1_lineAt 20 = .ok (.iload 4, 2) := by decide +kernel
theorem dX1_lineAt_22 : decode cX1_lineAt 22 = .ok (.iaload, 1) := by decide +kernel
theorem dX1_lineAt_23 : decode cX1_lineAt 23 = .ok (.iconst 1, 1) := by decide +kernel
theorem dX1_lineAt_24 : decode cX1_lineAt 24 = .ok (.isub, 1) := by decide +kernel
theorem dX1_lineAt_25 : decode cX1_lineAt 25 = .ok (.invokestatic 32, 3) := by decide +kernel
theorem dX1_lineAt_28 : decode cX1_lineAt 28 = .ok (.ifCond .eq 9, 3) := by decide +kernel
theorem dX1_lineAt_31 : decode cX1_lineAt 31 = .ok (.iload_n 3, 1) := by decide +kernel
theorem dX1_lineAt_32 : decode cX1_lineAt 32 = .ok (.bipush 12, 2) := by decide +kernel
theorem dX1_lineAt_34 : decode cX1_lineAt 34 = .ok (.if_icmp .lt 5, 3) := by decide +kernel
theorem dX1_lineAt_37 : decode cX1_lineAt 37 = .ok (.iconst (-1), 1) := by decide +kernel
theorem dX1_lineAt_38 : decode cX1_lineAt 38 = .ok (.ireturn, 1) := by decide +kernel
theorem dX1_lineAt_39 : decode cX1_lineAt 39 = .ok (.iload 4, 2) := by decide +kernel
theorem dX1_lineAt_41 : decode cX1_lineAt 41 = .ok (.bipush 12, 2) := by decide +kernel
theorem dX1_lineAt_43 : decode cX1_lineAt 43 = .ok (.imul, 1) := by decide +kernel
theorem dX1_lineAt_44 : decode cX1_lineAt 44 = .ok (.iload_n 3, 1) := by decide +kernel
theorem dX1_lineAt_45 : decode cX1_lineAt 45 = .ok (.iadd, 1) := by decide +kernel
theorem dX1_lineAt_46 : decode cX1_lineAt 46 = .ok (.ireturn, 1) := by decide +kernel
theorem dX1_linesOf_0 : decode cX1_linesOf 0 = .ok (.aload_n 0, 1) := by decide +kernel
theorem dX1_linesOf_1 : decode cX1_linesOf 1 = .ok (.iload_n 1, 1) := by decide +kernel
theorem dX1_linesOf_2 : decode cX1_linesOf 2 = .ok (.iload_n 2, 1) := by decide +kernel
theorem dX1_linesOf_3 : decode cX1_linesOf 3 = .ok (.invokevirtual 36, 3) := by decide +kernel
theorem dX1_linesOf_6 : decode cX1_linesOf 6 = .ok (.istore_n 3, 1) := by decide +kernel
theorem dX1_linesOf_7 : decode cX1_linesOf 7 = .ok (.iload_n 3, 1) := by decide +kernel
theorem dX1_linesOf_8 : decode cX1_linesOf 8 = .ok (.iconst (-1), 1) := by decide +kernel
theorem dX1_linesOf_9 : decode cX1_linesOf 9 = .ok (.if_icmp .ne 7, 3) := by decide +kernel
theorem dX1_linesOf_12 : decode cX1_linesOf 12 = .ok (.iconst 0, 1) := by decide +kernel
theorem dX1_linesOf_13 : decode cX1_linesOf 13 = .ok (.goto 9, 3) := by decide +kernel
theorem dX1_linesOf_16 : decode cX1_linesOf 16 = .ok (.aload_n 0, 1) := by decide +kernel
theorem dX1_linesOf_17 : decode cX1_linesOf 17 = .ok (.getfield 9, 3) := by decide +kernel
theorem dX1_linesOf_20 : decode cX1_linesOf 20 = .ok (.iload_n 3, 1) := by decide +kernel
theorem dX1_linesOf_21 : decode cX1_linesOf 21 = .ok (.iaload, 1) := by decide +kernel
theorem dX1_linesOf_22 : decode cX1_linesOf 22 = .ok (.ireturn, 1) := by decide +kernel
theorem dX1_rowOf_0 : decode cX1_rowOf 0 = .ok (.aload_n 0, 1) := by decide +kernel
theorem dX1_rowOf_1 : decode cX1_rowOf 1 = .ok (.iload_n 1, 1) := by decide +kernel
theorem dX1_rowOf_2 : decode cX1_rowOf 2 = .ok (.invokevirtual 28, 3) := by decide +kernel
theorem dX1_rowOf_5 : decode cX1_rowOf 5 = .ok (.ifCond .eq 12, 3) := by decide +kernel
theorem dX1_rowOf_8 : decode cX1_rowOf 8 = .ok (.iload_n 2, 1) := by decide +kernel
theorem dX1_rowOf_9 : decode cX1_rowOf 9 = .ok (.iconst 0, 1) := by decide +kernel
theorem dX1_rowOf_10 : decode cX1_rowOf 10 = .ok (.iconst 3, 1) := by decide +kernel
theorem dX1_rowOf_11 : decode cX1_rowOf 11 = .ok (.invokestatic 32, 3) := by decide +kernel
theorem dX1_rowOf_14 : decode cX1_rowOf 14 = .ok (.ifCond .ne 5, 3) := by decide +kernel
theorem dX1_rowOf_17 : decode cX1_rowOf 17 = .ok (.iconst (-1), 1) := by decide +kernel
theorem dX1_rowOf_18 : decode cX1_rowOf 18 = .ok (.ireturn, 1) := by decide +kernel
theorem dX1_rowOf_19 : decode cX1_rowOf 19 = .ok (.iload_n 1, 1) := by decide +kernel
theorem dX1_rowOf_20 : decode cX1_rowOf 20 = .ok (.iconst 4, 1) := by decide +kernel
theorem dX1_rowOf_21 : decode cX1_rowOf 21 = .ok (.imul, 1) := by decide +kernel
theorem dX1_rowOf_22 : decode cX1_rowOf 22 = .ok (.iload_n 2, 1) := by decide +kernel
theorem dX1_rowOf_23 : decode cX1_rowOf 23 = .ok (.iadd, 1) := by decide +kernel
theorem dX1_rowOf_24 : decode cX1_rowOf 24 = .ok (.ireturn, 1) := by decide +kernel
theorem dX2_copyFrom_0 : decode cX2_copyFrom 0 = .ok (.aload_n 0, 1) := by decide +kernel
theorem dX2_copyFrom_1 : decode cX2_copyFrom 1 = .ok (.aload_n 1, 1) := by decide +kernel
theorem dX2_copyFrom_2 : decode cX2_copyFrom 2 = .ok (.getfield 9, 3) := by decide +kernel
theorem dX2_copyFrom_5 : decode cX2_copyFrom 5 = .ok (.putfield 9, 3) := by decide +kernel
theorem dX2_copyFrom_8 : decode cX2_copyFrom 8 = .ok (.aload_n 0, 1) := by decide +kernel
theorem dX2_copyFrom_9 : decode cX2_copyFrom 9 = .ok (.aload_n 1, 1) := by decide +kernel
theorem dX2_copyFrom_10 : decode cX2_copyFrom 10 = .ok (.getfield 15, 3) := by decide +kernel
theorem dX2_copyFrom_13 : decode cX2_copyFrom 13 = .ok (.putfield 15, 3) := by decide +kernel
theorem dX2_copyFrom_16 : decode cX2_copyFrom 16 = .ok (.aload_n 0, 1) := by decide +kernel
theorem dX2_copyFrom_17 : decode cX2_copyFrom 17 = .ok (.aload_n 1, 1) := by decide +kernel
theorem dX2_copyFrom_18 : decode cX2_copyFrom 18 = .ok (.getfield 18, 3) := by decide +kernel
theorem dX2_copyFrom_21 : decode cX2_copyFrom 21 = .ok (.putfield 18, 3) := by decide +kernel
theorem dX2_copyFrom_24 : decode cX2_copyFrom 24 = .ok (.aload_n 0, 1) := by decide +kernel
theorem dX2_copyFrom_25 : decode cX2_copyFrom 25 = .ok (.aload_n 1, 1) := by decide +kernel
theorem dX2_copyFrom_26 : decode cX2_copyFrom 26 = .ok (.getfield 21, 3) := by decide +kernel
theorem dX2_copyFrom_29 : decode cX2_copyFrom 29 = .ok (.putfield 21, 3) := by decide +kernel
theorem dX2_copyFrom_32 : decode cX2_copyFrom 32 = .ok (.aload_n 0, 1) := by decide +kernel
theorem dX2_copyFrom_33 : decode cX2_copyFrom 33 = .ok (.aload_n 1, 1) := by decide +kernel
theorem dX2_copyFrom_34 : decode cX2_copyFrom 34 = .ok (.getfield 24, 3) := by decide +kernel
theorem dX2_copyFrom_37 : decode cX2_copyFrom 37 = .ok (.putfield 24, 3) := by decide +kernel
theorem dX2_copyFrom_40 : decode cX2_copyFrom 40 = .ok (.aload_n 0, 1) := by decide +kernel
theorem dX2_copyFrom_41 : decode cX2_copyFrom 41 = .ok (.aload_n 1, 1) := by decide +kernel
theorem dX2_copyFrom_42 : decode cX2_copyFrom 42 = .ok (.getfield 27, 3) := by decide +kernel
theorem dX2_copyFrom_45 : decode cX2_copyFrom 45 = .ok (.putfield 27, 3) := by decide +kernel
theorem dX2_copyFrom_48 : decode cX2_copyFrom 48 = .ok (.aload_n 0, 1) := by decide +kernel
theorem dX2_copyFrom_49 : decode cX2_copyFrom 49 = .ok (.aload_n 1, 1) := by decide +kernel
theorem dX2_copyFrom_50 : decode cX2_copyFrom 50 = .ok (.getfield 66, 3) := by decide +kernel
theorem dX2_copyFrom_53 : decode cX2_copyFrom 53 = .ok (.putfield 66, 3) := by decide +kernel
theorem dX2_copyFrom_56 : decode cX2_copyFrom 56 = .ok (.aload_n 0, 1) := by decide +kernel
theorem dX2_copyFrom_57 : decode cX2_copyFrom 57 = .ok (.aload_n 1, 1) := by decide +kernel
theorem dX2_copyFrom_58 : decode cX2_copyFrom 58 = .ok (.getfield 69, 3) := by decide +kernel
theorem dX2_copyFrom_61 : decode cX2_copyFrom 61 = .ok (.putfield 69, 3) := by decide +kernel
theorem dX2_copyFrom_64 : decode cX2_copyFrom 64 = .ok (.aload_n 0, 1) := by decide +kernel
theorem dX2_copyFrom_65 : decode cX2_copyFrom 65 = .ok (.aload_n 1, 1) := by decide +kernel
theorem dX2_copyFrom_66 : decode cX2_copyFrom 66 = .ok (.getfield 30, 3) := by decide +kernel
theorem dX2_copyFrom_69 : decode cX2_copyFrom 69 = .ok (.putfield 30, 3) := by decide +kernel
theorem dX2_copyFrom_72 : decode cX2_copyFrom 72 = .ok (.aload_n 0, 1) := by decide +kernel
theorem dX2_copyFrom_73 : decode cX2_copyFrom 73 = .ok (.aload_n 1, 1) := by decide +kernel
theorem dX2_copyFrom_74 : decode cX2_copyFrom 74 = .ok (.getfield 33, 3) := by decide +kernel
theorem dX2_copyFrom_77 : decode cX2_copyFrom 77 = .ok (.putfield 33, 3) := by decide +kernel
theorem dX2_copyFrom_80 : decode cX2_copyFrom 80 = .ok (.aload_n 0, 1) := by decide +kernel
theorem dX2_copyFrom_81 : decode cX2_copyFrom 81 = .ok (.aload_n 1, 1) := by decide +kernel
theorem dX2_copyFrom_82 : decode cX2_copyFrom 82 = .ok (.getfield 72, 3) := by decide +kernel
theorem dX2_copyFrom_85 : decode cX2_copyFrom 85 = .ok (.putfield 72, 3) := by decide +kernel
theorem dX2_copyFrom_88 : decode cX2_copyFrom 88 = .ok (.aload_n 0, 1) := by decide +kernel
theorem dX2_copyFrom_89 : decode cX2_copyFrom 89 = .ok (.aload_n 1, 1) := by decide +kernel
theorem dX2_copyFrom_90 : decode cX2_copyFrom 90 = .ok (.getfield 75, 3) := by decide +kernel
theorem dX2_copyFrom_93 : decode cX2_copyFrom 93 = .ok (.putfield 75, 3) := by decide +kernel
theorem dX2_copyFrom_96 : decode cX2_copyFrom 96 = .ok (.aload_n 0, 1) := by decide +kernel
theorem dX2_copyFrom_97 : decode cX2_copyFrom 97 = .ok (.aload_n 1, 1) := by decide +kernel
theorem dX2_copyFrom_98 : decode cX2_copyFrom 98 = .ok (.getfield 79, 3) := by decide +kernel
theorem dX2_copyFrom_101 : decode cX2_copyFrom 101 = .ok (.putfield 79, 3) := by decide +kernel
theorem dX2_copyFrom_104 : decode cX2_copyFrom 104 = .ok (.aload_n 0, 1) := by decide +kernel
theorem dX2_copyFrom_105 : decode cX2_copyFrom 105 = .ok (.aload_n 1, 1) := by decide +kernel
theorem dX2_copyFrom_106 : decode cX2_copyFrom 106 = .ok (.getfield 82, 3) := by decide +kernel
theorem dX2_copyFrom_109 : decode cX2_copyFrom 109 = .ok (.putfield 82, 3) := by decide +kernel
theorem dX2_copyFrom_112 : decode cX2_copyFrom 112 = .ok (.aload_n 1, 1) := by decide +kernel
theorem dX2_copyFrom_113 : decode cX2_copyFrom 113 = .ok (.getfield 36, 3) := by decide +kernel
theorem dX2_copyFrom_116 : decode cX2_copyFrom 116 = .ok (.iconst 0, 1) := by decide +kernel
theorem dX2_copyFrom_117 : decode cX2_copyFrom 117 = .ok (.aload_n 0, 1) := by decide +kernel
theorem dX2_copyFrom_118 : decode cX2_copyFrom 118 = .ok (.getfield 36, 3) := by decide +kernel
theorem dX2_copyFrom_121 : decode cX2_copyFrom 121 = .ok (.iconst 0, 1) := by decide +kernel
theorem dX2_copyFrom_122 : decode cX2_copyFrom 122 = .ok (.iconst 4, 1) := by decide +kernel
theorem dX2_copyFrom_123 : decode cX2_copyFrom 123 = .ok (.invokestatic 85, 3) := by decide +kernel
theorem dX2_copyFrom_126 : decode cX2_copyFrom 126 = .ok (.aload_n 1, 1) := by decide +kernel
theorem dX2_copyFrom_127 : decode cX2_copyFrom 127 = .ok (.getfield 40, 3) := by decide +kernel
theorem dX2_copyFrom_130 : decode cX2_copyFrom 130 = .ok (.iconst 0, 1) := by decide +kernel
theorem dX2_copyFrom_131 : decode cX2_copyFrom 131 = .ok (.aload_n 0, 1) := by decide +kernel
theorem dX2_copyFrom_132 : decode cX2_copyFrom 132 = .ok (.getfield 40, 3) := by decide +kernel
theorem dX2_copyFrom_135 : decode cX2_copyFrom 135 = .ok (.iconst 0, 1) := by decide +kernel
theorem dX2_copyFrom_136 : decode cX2_copyFrom 136 = .ok (.iconst 4, 1) := by decide +kernel
theorem dX2_copyFrom_137 : decode cX2_copyFrom 137 = .ok (.invokestatic 85, 3) := by decide +kernel
theorem dX2_copyFrom_140 : decode cX2_copyFrom 140 = .ok (.aload_n 0, 1) := by decide +kernel
theorem dX2_copyFrom_141 : decode cX2_copyFrom 141 = .ok (.getfield 46, 3) := by decide +kernel
theorem dX2_copyFrom_144 : decode cX2_copyFrom 144 = .ok (.aload_n 1, 1) := by decide +kernel
theorem dX2_copyFrom_145 : decode cX2_copyFrom 145 = .ok (.getfield 46, 3) := by decide +kernel
theorem dX2_copyFrom_148 : decode cX2_copyFrom 148 = .ok (.invokevirtual 91, 3) := by decide +kernel
theorem dX2_copyFrom_151 : decode cX2_copyFrom 151 = .ok (.aload_n 0, 1) := by decide +kernel
theorem dX2_copyFrom_152 : decode cX2_copyFrom 152 = .ok (.getfield 53, 3) := by decide +kernel
theorem dX2_copyFrom_155 : decode cX2_copyFrom 155 = .ok (.aload_n 1, 1) := by decide +kernel
theorem dX2_copyFrom_156 : decode cX2_copyFrom 156 = .ok (.getfield 53, 3) := by decide +kernel
theorem dX2_copyFrom_159 : decode cX2_copyFrom 159 = .ok (.invokevirtual 95, 3) := by decide +kernel
theorem dX2_copyFrom_162 : decode cX2_copyFrom 162 = .ok (.return_, 1) := by decide +kernel
theorem dX2_hold_0 : decode cX2_hold 0 = .ok (.aload_n 0, 1) := by decide +kernel
theorem dX2_hold_1 : decode cX2_hold 1 = .ok (.sipush (-9999), 3) := by decide +kernel
theorem dX2_hold_4 : decode cX2_hold 4 = .ok (.sipush 9999, 3) := by decide +kernel
theorem dX2_hold_7 : decode cX2_hold 7 = .ok (.iload_n 1, 1) := by decide +kernel
theorem dX2_hold_8 : decode cX2_hold 8 = .ok (.invokestatic 102, 3) := by decide +kernel
theorem dX2_hold_11 : decode cX2_hold 11 = .ok (.invokestatic 108, 3) := by decide +kernel
theorem dX2_hold_14 : decode cX2_hold 14 = .ok (.putfield 66, 3) := by decide +kernel
theorem dX2_hold_17 : decode cX2_hold 17 = .ok (.return_, 1) := by decide +kernel
theorem dX2_init_0 : decode cX2_init 0 = .ok (.aload_n 0, 1) := by decide +kernel
theorem dX2_init_1 : decode cX2_init 1 = .ok (.invokespecial 3, 3) := by decide +kernel
theorem dX2_init_4 : decode cX2_init 4 = .ok (.aload_n 0, 1) := by decide +kernel
theorem dX2_init_5 : decode cX2_init 5 = .ok (.iconst (-1), 1) := by decide +kernel
theorem dX2_init_6 : decode cX2_init 6 = .ok (.putfield 9, 3) := by decide +kernel
theorem dX2_init_9 : decode cX2_init 9 = .ok (.aload_n 0, 1) := by decide +kernel
theorem dX2_init_10 : decode cX2_init 10 = .ok (.iconst (-1), 1) := by decide +kernel
theorem dX2_init_11 : decode cX2_init 11 = .ok (.putfield 15, 3) := by decide +kernel
theorem dX2_init_14 : decode cX2_init 14 = .ok (.aload_n 0, 1) := by decide +kernel
theorem dX2_init_15 : decode cX2_init 15 = .ok (.iconst (-1), 1) := by decide +kernel
theorem dX2_init_16 : decode cX2_init 16 = .ok (.putfield 18, 3) := by decide +kernel
theorem dX2_init_19 : decode cX2_init 19 = .ok (.aload_n 0, 1) := by decide +kernel
theorem dX2_init_20 : decode cX2_init 20 = .ok (.iconst (-1), 1) := by decide +kernel
theorem dX2_init_21 : decode cX2_init 21 = .ok (.putfield 21, 3) := by decide +kernel
theorem dX2_init_24 : decode cX2_init 24 = .ok (.aload_n 0, 1) := by decide +kernel
theorem dX2_init_25 : decode cX2_init 25 = .ok (.iconst 1, 1) := by decide +kernel
theorem dX2_init_26 : decode cX2_init 26 = .ok (.putfield 24, 3) := by decide +kernel
theorem dX2_init_29 : decode cX2_init 29 = .ok (.aload_n 0, 1) := by decide +kernel
theorem dX2_init_30 : decode cX2_init 30 = .ok (.iconst (-1), 1) := by decide +kernel
theorem dX2_init_31 : decode cX2_init 31 = .ok (.putfield 27, 3) := by decide +kernel
theorem dX2_init_34 : decode cX2_init 34 = .ok (.aload_n 0, 1) := by decide +kernel
theorem dX2_init_35 : decode cX2_init 35 = .ok (.iconst (-1), 1) := by decide +kernel
theorem dX2_init_36 : decode cX2_init 36 = .ok (.putfield 30, 3) := by decide +kernel
theorem dX2_init_39 : decode cX2_init 39 = .ok (.aload_n 0, 1) := by decide +kernel
theorem dX2_init_40 : decode cX2_init 40 = .ok (.iconst (-1), 1) := by decide +kernel
theorem dX2_init_41 : decode cX2_init 41 = .ok (.putfield 33, 3) := by decide +kernel
theorem dX2_init_44 : decode cX2_init 44 = .ok (.aload_n 0, 1) := by decide +kernel
theorem dX2_init_45 : decode cX2_init 45 = .ok (.iconst 4, 1) := by decide +kernel
theorem dX2_init_46 : decode cX2_init 46 = .ok (.newarray .int, 2) := by decide +kernel
theorem dX2_init_48 : decode cX2_init 48 = .ok (.putfield 36, 3) := by decide +kernel
theorem dX2_init_51 : decode cX2_init 51 = .ok (.aload_n 0, 1) := by decide +kernel
theorem dX2_init_52 : decode cX2_init 52 = .ok (.iconst 4, 1) := by decide +kernel
theorem dX2_init_53 : decode cX2_init 53 = .ok (.newarray .int, 2) := by decide +kernel
theorem dX2_init_55 : decode cX2_init 55 = .ok (.putfield 40, 3) := by decide +kernel
theorem dX2_init_58 : decode cX2_init 58 = .ok (.aload_n 0, 1) := by decide +kernel
theorem dX2_init_59 : decode cX2_init 59 = .ok (.new 43, 3) := by decide +kernel
theorem dX2_init_62 : decode cX2_init 62 = .ok (.dup, 1) := by decide +kernel
theorem dX2_init_63 : decode cX2_init 63 = .ok (.invokespecial 45, 3) := by decide +kernel
theorem dX2_init_66 : decode cX2_init 66 = .ok (.putfield 46, 3) := by decide +kernel
theorem dX2_init_69 : decode cX2_init 69 = .ok (.aload_n 0, 1) := by decide +kernel
theorem dX2_init_70 : decode cX2_init 70 = .ok (.new 50, 3) := by decide +kernel
theorem dX2_init_73 : decode cX2_init 73 = .ok (.dup, 1) := by decide +kernel
theorem dX2_init_74 : decode cX2_init 74 = .ok (.invokespecial 52, 3) := by decide +kernel
theorem dX2_init_77 : decode cX2_init 77 = .ok (.putfield 53, 3) := by decide +kernel
theorem dX2_init_80 : decode cX2_init 80 = .ok (.aload_n 0, 1) := by decide +kernel
theorem dX2_init_81 : decode cX2_init 81 = .ok (.iload_n 1, 1) := by decide +kernel
theorem dX2_init_82 : decode cX2_init 82 = .ok (.putfield 57, 3) := by decide +kernel
theorem dX2_init_85 : decode cX2_init 85 = .ok (.aload_n 0, 1) := by decide +kernel
theorem dX2_init_86 : decode cX2_init 86 = .ok (.getfield 40, 3) := by decide +kernel
theorem dX2_init_89 : decode cX2_init 89 = .ok (.iconst (-1), 1) := by decide +kernel
theorem dX2_init_90 : decode cX2_init 90 = .ok (.invokestatic 60, 3) := by decide +kernel
theorem dX2_init_93 : decode cX2_init 93 = .ok (.return_, 1) := by decide +kernel
theorem dX2_isEmptyPlace_0 : decode cX2_isEmptyPlace 0 = .ok (.aload_n 0, 1) := by decide +kernel
theorem dX2_isEmptyPlace_1 : decode cX2_isEmptyPlace 1 = .ok (.getfield 82, 3) := by decide +kernel
theorem dX2_isEmptyPlace_4 : decode cX2_isEmptyPlace 4 = .ok (.iconst 1, 1) := by decide +kernel
theorem dX2_isEmptyPlace_5 : decode cX2_isEmptyPlace 5 = .ok (.iload_n 1, 1) := by decide +kernel
theorem dX2_isEmptyPlace_6 : decode cX2_isEmptyPlace 6 = .ok (.ishl, 1) := by decide +kernel
theorem dX2_isEmptyPlace_7 : decode cX2_isEmptyPlace 7 = .ok (.iand, 1) := by decide +kernel
theorem dX2_isEmptyPlace_8 : decode cX2_isEmptyPlace 8 = .ok (.ifCond .eq 7, 3) := by decide +kernel
theorem dX2_isEmptyPlace_11 : decode cX2_isEmptyPlace 11 = .ok (.iconst 1, 1) := by decide +kernel
theorem dX2_isEmptyPlace_12 : decode cX2_isEmptyPlace 12 = .ok (.goto 4, 3) := by decide +kernel
theorem dX2_isEmptyPlace_15 : decode cX2_isEmptyPlace 15 = .ok (.iconst 0, 1) := by decide +kernel
theorem dX2_isEmptyPlace_16 : decode cX2_isEmptyPlace 16 = .ok (.ireturn, 1) := by decide +kernel
theorem dX2_isLinkedWith_0 : decode cX2_isLinkedWith 0 = .ok (.aload_n 0, 1) := by decide +kernel
theorem dX2_isLinkedWith_1 : decode cX2_isLinkedWith 1 = .ok (.getfield 79, 3) := by decide +kernel
theorem dX2_isLinkedWith_4 : decode cX2_isLinkedWith 4 = .ok (.iconst 1, 1) := by decide +kernel
theorem dX2_isLinkedWith_5 : decode cX2_isLinkedWith 5 = .ok (.iload_n 1, 1) := by decide +kernel
theorem dX2_isLinkedWith_6 : decode cX2_isLinkedWith 6 = .ok (.ishl, 1) := by decide +kernel
theorem dX2_isLinkedWith_7 : decode cX2_isLinkedWith 7 = .ok (.iand, 1) := by decide +kernel
theorem dX2_isLinkedWith_8 : decode cX2_isLinkedWith 8 = .ok (.ifCond .eq 7, 3) := by decide +kernel
theorem dX2_isLinkedWith_11 : decode cX2_isLinkedWith 11 = .ok (.iconst 1, 1) := by decide +kernel
theorem dX2_isLinkedWith_12 : decode cX2_isLinkedWith 12 = .ok (.goto 4, 3) := by decide +kernel
theorem dX2_isLinkedWith_15 : decode cX2_isLinkedWith 15 = .ok (.iconst 0, 1) := by decide +kernel
theorem dX2_isLinkedWith_16 : decode cX2_isLinkedWith 16 = .ok (.ireturn, 1) := by decide +kernel
theorem dX2_isSupervisor_0 : decode cX2_isSupervisor 0 = .ok (.aload_n 0, 1) := by decide +kernel
theorem dX2_isSupervisor_1 : decode cX2_isSupervisor 1 = .ok (.getfield 18, 3) := by decide +kernel
theorem dX2_isSupervisor_4 : decode cX2_isSupervisor 4 = .ok (.iconst (-1), 1) := by decide +kernel
theorem dX2_isSupervisor_5 : decode cX2_isSupervisor 5 = .ok (.if_icmp .eq 7, 3) := by decide +kernel
theorem dX2_isSupervisor_8 : decode cX2_isSupervisor 8 = .ok (.iconst 1, 1) := by decide +kernel
theorem dX2_isSupervisor_9 : decode cX2_isSupervisor 9 = .ok (.goto 4, 3) := by decide +kernel
theorem dX2_isSupervisor_12 : decode cX2_isSupervisor 12 = .ok (.iconst 0, 1) := by decide +kernel
theorem dX2_isSupervisor_13 : decode cX2_isSupervisor 13 = .ok (.ireturn, 1) := by decide +kernel
theorem dX2_localAt_0 : decode cX2_localAt 0 = .ok (.iload_n 1, 1) := by decide +kernel
theorem dX2_localAt_1 : decode cX2_localAt 1 = .ok (.iconst 0, 1) := by decide +kernel
theorem dX2_localAt_2 : decode cX2_localAt 2 = .ok (.iconst 3, 1) := by decide +kernel
theorem dX2_localAt_3 : decode cX2_localAt 3 = .ok (.invokestatic 98, 3) := by decide +kernel
theorem dX2_localAt_6 : decode cX2_localAt 6 = .ok (.ifCond .eq 12, 3) := by decide +kernel
theorem dX2_localAt_9 : decode cX2_localAt 9 = .ok (.aload_n 0, 1) := by decide +kernel
theorem dX2_localAt_10 : decode cX2_localAt 10 = .ok (.getfield 36, 3) := by decide +kernel
theorem dX2_localAt_13 : decode cX2_localAt 13 = .ok (.iload_n 1, 1) := by decide +kernel
theorem dX2_localAt_14 : decode cX2_localAt 14 = .ok (.iaload, 1) := by decide +kernel
theorem dX2_localAt_15 : decode cX2_localAt 15 = .ok (.goto 4, 3) := by decide +kernel
theorem dX2_localAt_18 : decode cX2_localAt 18 = .ok (.iconst 0, 1) := by decide +kernel
theorem dX2_localAt_19 : decode cX2_localAt 19 = .ok (.ireturn, 1) := by decide +kernel
theorem dX2_placeOf_0 : decode cX2_placeOf 0 = .ok (.iconst 0, 1) := by decide +kernel
theorem dX2_placeOf_1 : decode cX2_placeOf 1 = .ok (.istore_n 2, 1) := by decide +kernel
theorem dX2_placeOf_2 : decode cX2_placeOf 2 = .ok (.iload_n 2, 1) := by decide +kernel
theorem dX2_placeOf_3 : decode cX2_placeOf 3 = .ok (.iconst 4, 1) := by decide +kernel
theorem dX2_placeOf_4 : decode cX2_placeOf 4 = .ok (.if_icmp .ge 21, 3) := by decide +kernel
theorem dX2_placeOf_7 : decode cX2_placeOf 7 = .ok (.aload_n 0, 1) := by decide +kernel
theorem dX2_placeOf_8 : decode cX2_placeOf 8 = .ok (.getfield 40, 3) := by decide +kernel
theorem dX2_placeOf_11 : decode cX2_placeOf 11 = .ok (.iload_n 2, 1) := by decide +kernel
theorem dX2_placeOf_12 : decode cX2_placeOf 12 = .ok (.iaload, 1) := by decide +kernel
theorem dX2_placeOf_13 : decode cX2_placeOf 13 = .ok (.iload_n 1, 1) := by decide +kernel
theorem dX2_placeOf_14 : decode cX2_placeOf 14 = .ok (.if_icmp .ne 5, 3) := by decide +kernel
theorem dX2_placeOf_17 : decode cX2_placeOf 17 = .ok (.iload_n 2, 1) := by decide +kernel
theorem dX2_placeOf_18 : decode cX2_placeOf 18 = .ok (.ireturn, 1) := by decide +kernel
theorem dX2_placeOf_19 : decode cX2_placeOf 19 = .ok (.iinc 2 1, 3) := by decide +kernel
theorem dX2_placeOf_22 : decode cX2_placeOf 22 = .ok (.goto (-20), 3) := by decide +kernel
theorem dX2_placeOf_25 : decode cX2_placeOf 25 = .ok (.iconst (-1), 1) := by decide +kernel
theorem dX2_placeOf_26 : decode cX2_placeOf 26 = .ok (.ireturn, 1) := by decide +kernel
theorem dX2_putLocal_0 : decode cX2_putLocal 0 = .ok (.iload_n 1, 1) := by decide +kernel
theorem dX2_putLocal_1 : decode cX2_putLocal 1 = .ok (.iconst 0, 1) := by decide +kernel
theorem dX2_putLocal_2 : decode cX2_putLocal 2 = .ok (.iconst 3, 1) := by decide +kernel
theorem dX2_putLocal_3 : decode cX2_putLocal 3 = .ok (.invokestatic 98, 3) := by decide +kernel
theorem dX2_putLocal_6 : decode cX2_putLocal 6 = .ok (.ifCond .eq 10, 3) := by decide +kernel
theorem dX2_putLocal_9 : decode cX2_putLocal 9 = .ok (.aload_n 0, 1) := by decide +kernel
theorem dX2_putLocal_10 : decode cX2_putLocal 10 = .ok (.getfield 36, 3) := by decide +kernel
theorem dX2_putLocal_13 : decode cX2_putLocal 13 = .ok (.iload_n 1, 1) := by decide +kernel
theorem dX2_putLocal_14 : decode cX2_putLocal 14 = .ok (.iload_n 2, 1) := by decide +kernel
theorem dX2_putLocal_15 : decode cX2_putLocal 15 = .ok (.iastore, 1) := by decide +kernel
theorem dX2_putLocal_16 : decode cX2_putLocal 16 = .ok (.return_, 1) := by decide +kernel
theorem dX2_resume_0 : decode cX2_resume 0 = .ok (.aload_n 0, 1) := by decide +kernel
theorem dX2_resume_1 : decode cX2_resume 1 = .ok (.getfield 33, 3) := by decide +kernel
theorem dX2_resume_4 : decode cX2_resume 4 = .ok (.iconst (-1), 1) := by decide +kernel
theorem dX2_resume_5 : decode cX2_resume 5 = .ok (.if_icmp .ne 4, 3) := by decide +kernel
theorem dX2_resume_8 : decode cX2_resume 8 = .ok (.return_, 1) := by decide +kernel
theorem dX2_resume_9 : decode cX2_resume 9 = .ok (.aload_n 0, 1) := by decide +kernel
theorem dX2_resume_10 : decode cX2_resume 10 = .ok (.getfield 33, 3) := by decide +kernel
theorem dX2_resume_13 : decode cX2_resume 13 = .ok (.iconst 5, 1) := by decide +kernel
theorem dX2_resume_14 : decode cX2_resume 14 = .ok (.if_icmp .eq 19, 3) := by decide +kernel
theorem dX2_resume_17 : decode cX2_resume 17 = .ok (.aload_n 0, 1) := by decide +kernel
theorem dX2_resume_18 : decode cX2_resume 18 = .ok (.aload_n 0, 1) := by decide +kernel
theorem dX2_resume_19 : decode cX2_resume 19 = .ok (.getfield 33, 3) := by decide +kernel
theorem dX2_resume_22 : decode cX2_resume 22 = .ok (.invokevirtual 122, 3) := by decide +kernel
theorem dX2_resume_25 : decode cX2_resume 25 = .ok (.ifCond .ne 8, 3) := by decide +kernel
theorem dX2_resume_28 : decode cX2_resume 28 = .ok (.aload_n 0, 1) := by decide +kernel
theorem dX2_resume_29 : decode cX2_resume 29 = .ok (.iconst (-1), 1) := by decide +kernel
theorem dX2_resume_30 : decode cX2_resume 30 = .ok (.putfield 66, 3) := by decide +kernel
theorem dX2_resume_33 : decode cX2_resume 33 = .ok (.aload_n 0, 1) := by decide +kernel
theorem dX2_resume_34 : decode cX2_resume 34 = .ok (.iconst (-1), 1) := by decide +kernel
theorem dX2_resume_35 : decode cX2_resume 35 = .ok (.putfield 33, 3) := by decide +kernel
theorem dX2_resume_38 : decode cX2_resume 38 = .ok (.aload_n 0, 1) := by decide +kernel
theorem dX2_resume_39 : decode cX2_resume 39 = .ok (.dup, 1) := by decide +kernel
theorem dX2_resume_40 : decode cX2_resume 40 = .ok (.getfield 69, 3) := by decide +kernel
theorem dX2_resume_43 : decode cX2_resume 43 = .ok (.iconst 1, 1) := by decide +kernel
theorem dX2_resume_44 : decode cX2_resume 44 = .ok (.iadd, 1) := by decide +kernel
theorem dX2_resume_45 : decode cX2_resume 45 = .ok (.putfield 69, 3) := by decide +kernel
theorem dX2_resume_48 : decode cX2_resume 48 = .ok (.return_, 1) := by decide +kernel
theorem dX2_takeMail_0 : decode cX2_takeMail 0 = .ok (.aload_n 0, 1) := by decide +kernel
theorem dX2_takeMail_1 : decode cX2_takeMail 1 = .ok (.getfield 46, 3) := by decide +kernel
theorem dX2_takeMail_4 : decode cX2_takeMail 4 = .ok (.iload_n 1, 1) := by decide +kernel
theorem dX2_takeMail_5 : decode cX2_takeMail 5 = .ok (.invokevirtual 111, 3) := by decide +kernel
theorem dX2_takeMail_8 : decode cX2_takeMail 8 = .ok (.istore_n 2, 1) := by decide +kernel
theorem dX2_takeMail_9 : decode cX2_takeMail 9 = .ok (.iload_n 2, 1) := by decide +kernel
theorem dX2_takeMail_10 : decode cX2_takeMail 10 = .ok (.iconst (-1), 1) := by decide +kernel
theorem dX2_takeMail_11 : decode cX2_takeMail 11 = .ok (.if_icmp .ne 5, 3) := by decide +kernel
theorem dX2_takeMail_14 : decode cX2_takeMail 14 = .ok (.iconst 0, 1) := by decide +kernel
theorem dX2_takeMail_15 : decode cX2_takeMail 15 = .ok (.ireturn, 1) := by decide +kernel
theorem dX2_takeMail_16 : decode cX2_takeMail 16 = .ok (.aload_n 0, 1) := by decide +kernel
theorem dX2_takeMail_17 : decode cX2_takeMail 17 = .ok (.aload_n 0, 1) := by decide +kernel
theorem dX2_takeMail_18 : decode cX2_takeMail 18 = .ok (.getfield 46, 3) := by decide +kernel
theorem dX2_takeMail_21 : decode cX2_takeMail 21 = .ok (.iload_n 2, 1) := by decide +kernel
theorem dX2_takeMail_22 : decode cX2_takeMail 22 = .ok (.invokevirtual 115, 3) := by decide +kernel
theorem dX2_takeMail_25 : decode cX2_takeMail 25 = .ok (.invokevirtual 118, 3) := by decide +kernel
theorem dX2_takeMail_28 : decode cX2_takeMail 28 = .ok (.iconst 1, 1) := by decide +kernel
theorem dX2_takeMail_29 : decode cX2_takeMail 29 = .ok (.ireturn, 1) := by decide +kernel
theorem dX2_waitFor_0 : decode cX2_waitFor 0 = .ok (.aload_n 0, 1) := by decide +kernel
theorem dX2_waitFor_1 : decode cX2_waitFor 1 = .ok (.iconst 1, 1) := by decide +kernel
theorem dX2_waitFor_2 : decode cX2_waitFor 2 = .ok (.putfield 24, 3) := by decide +kernel
theorem dX2_waitFor_5 : decode cX2_waitFor 5 = .ok (.aload_n 0, 1) := by decide +kernel
theorem dX2_waitFor_6 : decode cX2_waitFor 6 = .ok (.iload_n 1, 1) := by decide +kernel
theorem dX2_waitFor_7 : decode cX2_waitFor 7 = .ok (.putfield 33, 3) := by decide +kernel
theorem dX2_waitFor_10 : decode cX2_waitFor 10 = .ok (.aload_n 0, 1) := by decide +kernel
theorem dX2_waitFor_11 : decode cX2_waitFor 11 = .ok (.iload_n 2, 1) := by decide +kernel
theorem dX2_waitFor_12 : decode cX2_waitFor 12 = .ok (.putfield 30, 3) := by decide +kernel
theorem dX2_waitFor_15 : decode cX2_waitFor 15 = .ok (.return_, 1) := by decide +kernel
theorem dX2_waitsForMail_0 : decode cX2_waitsForMail 0 = .ok (.aload_n 0, 1) := by decide +kernel
theorem dX2_waitsForMail_1 : decode cX2_waitsForMail 1 = .ok (.getfield 24, 3) := by decide +kernel
theorem dX2_waitsForMail_4 : decode cX2_waitsForMail 4 = .ok (.iconst 1, 1) := by decide +kernel
theorem dX2_waitsForMail_5 : decode cX2_waitsForMail 5 = .ok (.if_icmp .ne 23, 3) := by decide +kernel
theorem dX2_waitsForMail_8 : decode cX2_waitsForMail 8 = .ok (.aload_n 0, 1) := by decide +kernel
theorem dX2_waitsForMail_9 : decode cX2_waitsForMail 9 = .ok (.getfield 33, 3) := by decide +kernel
theorem dX2_waitsForMail_12 : decode cX2_waitsForMail 12 = .ok (.iload_n 1, 1) := by decide +kernel
theorem dX2_waitsForMail_13 : decode cX2_waitsForMail 13 = .ok (.if_icmp .eq 11, 3) := by decide +kernel
theorem dX2_waitsForMail_16 : decode cX2_waitsForMail 16 = .ok (.aload_n 0, 1) := by decide +kernel
theorem dX2_waitsForMail_17 : decode cX2_waitsForMail 17 = .ok (.getfield 33, 3) := by decide +kernel
theorem dX2_waitsForMail_20 : decode cX2_waitsForMail 20 = .ok (.iconst 4, 1) := by decide +kernel
theorem dX2_waitsForMail_21 : decode cX2_waitsForMail 21 = .ok (.if_icmp .ne 7, 3) := by decide +kernel
theorem dX2_waitsForMail_24 : decode cX2_waitsForMail 24 = .ok (.iconst 1, 1) := by decide +kernel
theorem dX2_waitsForMail_25 : decode cX2_waitsForMail 25 = .ok (.goto 4, 3) := by decide +kernel
theorem dX2_waitsForMail_28 : decode cX2_waitsForMail 28 = .ok (.iconst 0, 1) := by decide +kernel
theorem dX2_waitsForMail_29 : decode cX2_waitsForMail 29 = .ok (.ireturn, 1) := by decide +kernel
theorem dX3_addPlace_0 : decode cX3_addPlace 0 = .ok (.aload_n 0, 1) := by decide +kernel
theorem dX3_addPlace_1 : decode cX3_addPlace 1 = .ok (.iload_n 1, 1) := by decide +kernel
theorem dX3_addPlace_2 : decode cX3_addPlace 2 = .ok (.invokevirtual 38, 3) := by decide +kernel
theorem dX3_addPlace_5 : decode cX3_addPlace 5 = .ok (.ifCond .eq 13, 3) := by decide +kernel
theorem dX3_addPlace_8 : decode cX3_addPlace 8 = .ok (.aload_n 0, 1) := by decide +kernel
theorem dX3_addPlace_9 : decode cX3_addPlace 9 = .ok (.getfield 21, 3) := by decide +kernel
theorem dX3_addPlace_12 : decode cX3_addPlace 12 = .ok (.iload_n 1, 1) := by decide +kernel
theorem dX3_addPlace_13 : decode cX3_addPlace 13 = .ok (.iaload, 1) := by decide +kernel
theorem dX3_addPlace_14 : decode cX3_addPlace 14 = .ok (.iconst 4, 1) := by decide +kernel
theorem dX3_addPlace_15 : decode cX3_addPlace 15 = .ok (.if_icmp .lt 5, 3) := by decide +kernel
theorem dX3_addPlace_18 : decode cX3_addPlace 18 = .ok (.iconst (-1), 1) := by decide +kernel
theorem dX3_addPlace_19 : decode cX3_addPlace 19 = .ok (.ireturn, 1) := by decide +kernel
theorem dX3_addPlace_20 : decode cX3_addPlace 20 = .ok (.aload_n 0, 1) := by decide +kernel
theorem dX3_addPlace_21 : decode cX3_addPlace 21 = .ok (.getfield 21, 3) := by decide +kernel
theorem dX3_addPlace_24 : decode cX3_addPlace 24 = .ok (.iload_n 1, 1) := by decide +kernel
theorem dX3_addPlace_25 : decode cX3_addPlace 25 = .ok (.iaload, 1) := by decide +kernel
theorem dX3_addPlace_26 : decode cX3_addPlace 26 = .ok (.istore 5, 2) := by decide +kernel
theorem dX3_addPlace_28 : decode cX3_addPlace 28 = .ok (.aload_n 0, 1) := by decide +kernel
theorem dX3_addPlace_29 : decode cX3_addPlace 29 = .ok (.getfield 21, 3) := by decide +kernel
theorem dX3_addPlace_32 : decode cX3_addPlace 32 = .ok (.iload_n 1, 1) := by decide +kernel
theorem dX3_addPlace_33 : decode cX3_addPlace 33 = .ok (.iload 5, 2) := by decide +kernel
theorem dX3_addPlace_35 : decode cX3_addPlace 35 = .ok (.iconst 1, 1) := by decide +kernel
theorem dX3_addPlace_36 : decode cX3_addPlace 36 = .ok (.iadd, 1) := by decide +kernel
theorem dX3_addPlace_37 : decode cX3_addPlace 37 = .ok (.iastore, 1) := by decide +kernel
theorem dX3_addPlace_38 : decode cX3_addPlace 38 = .ok (.iload_n 1, 1) := by decide +kernel
theorem dX3_addPlace_39 : decode cX3_addPlace 39 = .ok (.iconst 4, 1) := by decide +kernel
theorem dX3_addPlace_40 : decode cX3_addPlace 40 = .ok (.imul, 1) := by decide +kernel
theorem dX3_addPlace_41 : decode cX3_addPlace 41 = .ok (.iload 5, 2) := by decide +kernel
theorem dX3_addPlace_43 : decode cX3_addPlace 43 = .ok (.iadd, 1) := by decide +kernel
theorem dX3_addPlace_44 : decode cX3_addPlace 44 = .ok (.istore 6, 2) := by decide +kernel
theorem dX3_addPlace_46 : decode cX3_addPlace 46 = .ok (.aload_n 0, 1) := by decide +kernel
theorem dX3_addPlace_47 : decode cX3_addPlace 47 = .ok (.getfield 24, 3) := by decide +kernel
theorem dX3_addPlace_50 : decode cX3_addPlace 50 = .ok (.iload 6, 2) := by decide +kernel
theorem dX3_addPlace_52 : decode cX3_addPlace 52 = .ok (.iload_n 2, 1) := by decide +kernel
theorem dX3_addPlace_53 : decode cX3_addPlace 53 = .ok (.bastore, 1) := by decide +kernel
theorem dX3_addPlace_54 : decode cX3_addPlace 54 = .ok (.aload_n 0, 1) := by decide +kernel
theorem dX3_addPlace_55 : decode cX3_addPlace 55 = .ok (.getfield 28, 3) := by decide +kernel
theorem dX3_addPlace_58 : decode cX3_addPlace 58 = .ok (.iload 6, 2) := by decide +kernel
theorem dX3_addPlace_60 : decode cX3_addPlace 60 = .ok (.iload_n 3, 1) := by decide +kernel
theorem dX3_addPlace_61 : decode cX3_addPlace 61 = .ok (.iastore, 1) := by decide +kernel
theorem dX3_addPlace_62 : decode cX3_addPlace 62 = .ok (.aload_n 0, 1) := by decide +kernel
theorem dX3_addPlace_63 : decode cX3_addPlace 63 = .ok (.getfield 31, 3) := by decide +kernel
theorem dX3_addPlace_66 : decode cX3_addPlace 66 = .ok (.iload 6, 2) := by decide +kernel
theorem dX3_addPlace_68 : decode cX3_addPlace 68 = .ok (.iload 4, 2) := by decide +kernel
theorem dX3_addPlace_70 : decode cX3_addPlace 70 = .ok (.iastore, 1) := by decide +kernel
theorem dX3_addPlace_71 : decode cX3_addPlace 71 = .ok (.iload 5, 2) := by decide +kernel
theorem dX3_addPlace_73 : decode cX3_addPlace 73 = .ok (.ireturn, 1) := by decide +kernel
theorem dX3_addSpec_0 : decode cX3_addSpec 0 = .ok (.aload_n 0, 1) := by decide +kernel
theorem dX3_addSpec_1 : decode cX3_addSpec 1 = .ok (.getfield 34, 3) := by decide +kernel
theorem dX3_addSpec_4 : decode cX3_addSpec 4 = .ok (.iconst 5, 1) := by decide +kernel
theorem dX3_addSpec_5 : decode cX3_addSpec 5 = .ok (.if_icmp .lt 5, 3) := by decide +kernel
theorem dX3_addSpec_8 : decode cX3_addSpec 8 = .ok (.iconst (-1), 1) := by decide +kernel
theorem dX3_addSpec_9 : decode cX3_addSpec 9 = .ok (.ireturn, 1) := by decide +kernel
theorem dX3_addSpec_10 : decode cX3_addSpec 10 = .ok (.aload_n 0, 1) := by decide +kernel
theorem dX3_addSpec_11 : decode cX3_addSpec 11 = .ok (.getfield 34, 3) := by decide +kernel
theorem dX3_addSpec_14 : decode cX3_addSpec 14 = .ok (.istore 4, 2) := by decide +kernel
theorem dX3_addSpec_16 : decode cX3_addSpec 16 = .ok (.aload_n 0, 1) := by decide +kernel
theorem dX3_addSpec_17 : decode cX3_addSpec 17 = .ok (.dup, 1) := by decide +kernel
theorem dX3_addSpec_18 : decode cX3_addSpec 18 = .ok (.getfield 34, 3) := by decide +kernel
theorem dX3_addSpec_21 : decode cX3_addSpec 21 = .ok (.iconst 1, 1) := by decide +kernel
theorem dX3_addSpec_22 : decode cX3_addSpec 22 = .ok (.iadd, 1) := by decide +kernel
theorem dX3_addSpec_23 : decode cX3_addSpec 23 = .ok (.putfield 34, 3) := by decide +kernel
theorem dX3_addSpec_26 : decode cX3_addSpec 26 = .ok (.aload_n 0, 1) := by decide +kernel
theorem dX3_addSpec_27 : decode cX3_addSpec 27 = .ok (.getfield 9, 3) := by decide +kernel
theorem dX3_addSpec_30 : decode cX3_addSpec 30 = .ok (.iload 4, 2) := by decide +kernel
theorem dX3_addSpec_32 : decode cX3_addSpec 32 = .ok (.iload_n 1, 1) := by decide +kernel
theorem dX3_addSpec_33 : decode cX3_addSpec 33 = .ok (.iastore, 1) := by decide +kernel
theorem dX3_addSpec_34 : decode cX3_addSpec 34 = .ok (.aload_n 0, 1) := by decide +kernel
theorem dX3_addSpec_35 : decode cX3_addSpec 35 = .ok (.getfield 15, 3) := by decide +kernel
theorem dX3_addSpec_38 : decode cX3_addSpec 38 = .ok (.iload 4, 2) := by decide +kernel
theorem dX3_addSpec_40 : decode cX3_addSpec 40 = .ok (.iload_n 2, 1) := by decide +kernel
theorem dX3_addSpec_41 : decode cX3_addSpec 41 = .ok (.iastore, 1) := by decide +kernel
theorem dX3_addSpec_42 : decode cX3_addSpec 42 = .ok (.aload_n 0, 1) := by decide +kernel
theorem dX3_addSpec_43 : decode cX3_addSpec 43 = .ok (.getfield 18, 3) := by decide +kernel
theorem dX3_addSpec_46 : decode cX3_addSpec 46 = .ok (.iload 4, 2) := by decide +kernel
theorem dX3_addSpec_48 : decode cX3_addSpec 48 = .ok (.iload_n 3, 1) := by decide +kernel
theorem dX3_addSpec_49 : decode cX3_addSpec 49 = .ok (.iastore, 1) := by decide +kernel
theorem dX3_addSpec_50 : decode cX3_addSpec 50 = .ok (.iload 4, 2) := by decide +kernel
theorem dX3_addSpec_52 : decode cX3_addSpec 52 = .ok (.ireturn, 1) := by decide +kernel
theorem dX3_hasSpec_0 : decode cX3_hasSpec 0 = .ok (.iload_n 1, 1) := by decide +kernel
theorem dX3_hasSpec_1 : decode cX3_hasSpec 1 = .ok (.ifCond .lt 20, 3) := by decide +kernel
theorem dX3_hasSpec_4 : decode cX3_hasSpec 4 = .ok (.iload_n 1, 1) := by decide +kernel
theorem dX3_hasSpec_5 : decode cX3_hasSpec 5 = .ok (.aload_n 0, 1) := by decide +kernel
theorem dX3_hasSpec_6 : decode cX3_hasSpec 6 = .ok (.getfield 34, 3) := by decide +kernel
theorem dX3_hasSpec_9 : decode cX3_hasSpec 9 = .ok (.if_icmp .ge 12, 3) := by decide +kernel
theorem dX3_hasSpec_12 : decode cX3_hasSpec 12 = .ok (.iload_n 1, 1) := by decide +kernel
theorem dX3_hasSpec_13 : decode cX3_hasSpec 13 = .ok (.iconst 5, 1) := by decide +kernel
theorem dX3_hasSpec_14 : decode cX3_hasSpec 14 = .ok (.if_icmp .ge 7, 3) := by decide +kernel
theorem dX3_hasSpec_17 : decode cX3_hasSpec 17 = .ok (.iconst 1, 1) := by decide +kernel
theorem dX3_hasSpec_18 : decode cX3_hasSpec 18 = .ok (.goto 4, 3) := by decide +kernel
theorem dX3_hasSpec_21 : decode cX3_hasSpec 21 = .ok (.iconst 0, 1) := by decide +kernel
theorem dX3_hasSpec_22 : decode cX3_hasSpec 22 = .ok (.ireturn, 1) := by decide +kernel
theorem dX3_init_0 : decode cX3_init 0 = .ok (.aload_n 0, 1) := by decide +kernel
theorem dX3_init_1 : decode cX3_init 1 = .ok (.invokespecial 3, 3) := by decide +kernel
theorem dX3_init_4 : decode cX3_init 4 = .ok (.aload_n 0, 1) := by decide +kernel
theorem dX3_init_5 : decode cX3_init 5 = .ok (.iconst 5, 1) := by decide +kernel
theorem dX3_init_6 : decode cX3_init 6 = .ok (.newarray .int, 2) := by decide +kernel
theorem dX3_init_8 : decode cX3_init 8 = .ok (.putfield 9, 3) := by decide +kernel
theorem dX3_init_11 : decode cX3_init 11 = .ok (.aload_n 0, 1) := by decide +kernel
theorem dX3_init_12 : decode cX3_init 12 = .ok (.iconst 5, 1) := by decide +kernel
theorem dX3_init_13 : decode cX3_init 13 = .ok (.newarray .int, 2) := by decide +kernel
theorem dX3_init_15 : decode cX3_init 15 = .ok (.putfield 15, 3) := by decide +kernel
theorem dX3_init_18 : decode cX3_init 18 = .ok (.aload_n 0, 1) := by decide +kernel
theorem dX3_init_19 : decode cX3_init 19 = .ok (.iconst 5, 1) := by decide +kernel
theorem dX3_init_20 : decode cX3_init 20 = .ok (.newarray .int, 2) := by decide +kernel
theorem dX3_init_22 : decode cX3_init 22 = .ok (.putfield 18, 3) := by decide +kernel
theorem dX3_init_25 : decode cX3_init 25 = .ok (.aload_n 0, 1) := by decide +kernel
theorem dX3_init_26 : decode cX3_init 26 = .ok (.iconst 5, 1) := by decide +kernel
theorem dX3_init_27 : decode cX3_init 27 = .ok (.newarray .int, 2) := by decide +kernel
theorem dX3_init_29 : decode cX3_init 29 = .ok (.putfield 21, 3) := by decide +kernel
theorem dX3_init_32 : decode cX3_init 32 = .ok (.aload_n 0, 1) := by decide +kernel
theorem dX3_init_33 : decode cX3_init 33 = .ok (.bipush 20, 2) := by decide +kernel
theorem dX3_init_35 : decode cX3_init 35 = .ok (.newarray .boolean, 2) := by decide +kernel
theorem dX3_init_37 : decode cX3_init 37 = .ok (.putfield 24, 3) := by decide +kernel
theorem dX3_init_40 : decode cX3_init 40 = .ok (.aload_n 0, 1) := by decide +kernel
theorem dX3_init_41 : decode cX3_init 41 = .ok (.bipush 20, 2) := by decide +kernel
theorem dX3_init_43 : decode cX3_init 43 = .ok (.newarray .int, 2) := by decide +kernel
theorem dX3_init_45 : decode cX3_init 45 = .ok (.putfield 28, 3) := by decide +kernel
theorem dX3_init_48 : decode cX3_init 48 = .ok (.aload_n 0, 1) := by decide +kernel
theorem dX3_init_49 : decode cX3_init 49 = .ok (.bipush 20, 2) := by decide +kernel
theorem dX3_init_51 : decode cX3_init 51 = .ok (.newarray .int, 2) := by decide +kernel
theorem dX3_init_53 : decode cX3_init 53 = .ok (.putfield 31, 3) := by decide +kernel
theorem dX3_init_56 : decode cX3_init 56 = .ok (.return_, 1) := by decide +kernel
theorem dX3_placeAt_0 : decode cX3_placeAt 0 = .ok (.iload_n 1, 1) := by decide +kernel
theorem dX3_placeAt_1 : decode cX3_placeAt 1 = .ok (.ifCond .lt 16, 3) := by decide +kernel
theorem dX3_placeAt_4 : decode cX3_placeAt 4 = .ok (.iload_n 1, 1) := by decide +kernel
theorem dX3_placeAt_5 : decode cX3_placeAt 5 = .ok (.aload_n 0, 1) := by decide +kernel
theorem dX3_placeAt_6 : decode cX3_placeAt 6 = .ok (.getfield 34, 3) := by decide +kernel
theorem dX3_placeAt_9 : decode cX3_placeAt 9 = .ok (.if_icmp .ge 8, 3) := by decide +kernel
theorem dX3_placeAt_12 : decode cX3_placeAt 12 = .ok (.iload_n 1, 1) := by decide +kernel
theorem dX3_placeAt_13 : decode cX3_placeAt 13 = .ok (.iconst 5, 1) := by decide +kernel
theorem dX3_placeAt_14 : decode cX3_placeAt 14 = .ok (.if_icmp .lt 5, 3) := by decide +kernel
theorem dX3_placeAt_17 : decode cX3_placeAt 17 = .ok (.iconst (-1), 1) := by decide +kernel
theorem dX3_placeAt_18 : decode cX3_placeAt 18 = .ok (.ireturn, 1) := by decide +kernel
theorem dX3_placeAt_19 : decode cX3_placeAt 19 = .ok (.iload_n 2, 1) := by decide +kernel
theorem dX3_placeAt_20 : decode cX3_placeAt 20 = .ok (.ifCond .lt 18, 3) := by decide +kernel
theorem dX3_placeAt_23 : decode cX3_placeAt 23 = .ok (.iload_n 2, 1) := by decide +kernel
theorem dX3_placeAt_24 : decode cX3_placeAt 24 = .ok (.aload_n 0, 1) := by decide +kernel
theorem dX3_placeAt_25 : decode cX3_placeAt 25 = .ok (.getfield 21, 3) := by decide +kernel
theorem dX3_placeAt_28 : decode cX3_placeAt 28 = .ok (.iload_n 1, 1) := by decide +kernel
theorem dX3_placeAt_29 : decode cX3_placeAt 29 = .ok (.iaload, 1) := by decide +kernel
theorem dX3_placeAt_30 : decode cX3_placeAt 30 = .ok (.if_icmp .ge 8, 3) := by decide +kernel
theorem dX3_placeAt_33 : decode cX3_placeAt 33 = .ok (.iload_n 2, 1) := by decide +kernel
theorem dX3_placeAt_34 : decode cX3_placeAt 34 = .ok (.iconst 4, 1) := by decide +kernel
theorem dX3_placeAt_35 : decode cX3_placeAt 35 = .ok (.if_icmp .lt 5, 3) := by decide +kernel
theorem dX3_placeAt_38 : decode cX3_placeAt 38 = .ok (.iconst (-1), 1) := by decide +kernel
theorem dX3_placeAt_39 : decode cX3_placeAt 39 = .ok (.ireturn, 1) := by decide +kernel
theorem dX3_placeAt_40 : decode cX3_placeAt 40 = .ok (.iload_n 1, 1) := by decide +kernel
theorem dX3_placeAt_41 : decode cX3_placeAt 41 = .ok (.iconst 4, 1) := by decide +kernel
theorem dX3_placeAt_42 : decode cX3_placeAt 42 = .ok (.imul, 1) := by decide +kernel
theorem dX3_placeAt_43 : decode cX3_placeAt 43 = .ok (.iload_n 2, 1) := by decide +kernel
theorem dX3_placeAt_44 : decode cX3_placeAt 44 = .ok (.iadd, 1) := by decide +kernel
theorem dX3_placeAt_45 : decode cX3_placeAt 45 = .ok (.ireturn, 1) := by decide +kernel
theorem dX3_placesOf_0 : decode cX3_placesOf 0 = .ok (.aload_n 0, 1) := by decide +kernel
theorem dX3_placesOf_1 : decode cX3_placesOf 1 = .ok (.iload_n 1, 1) := by decide +kernel
theorem dX3_placesOf_2 : decode cX3_placesOf 2 = .ok (.invokevirtual 38, 3) := by decide +kernel
theorem dX3_placesOf_5 : decode cX3_placesOf 5 = .ok (.ifCond .eq 12, 3) := by decide +kernel
theorem dX3_placesOf_8 : decode cX3_placesOf 8 = .ok (.aload_n 0, 1) := by decide +kernel
theorem dX3_placesOf_9 : decode cX3_placesOf 9 = .ok (.getfield 21, 3) := by decide +kernel
theorem dX3_placesOf_12 : decode cX3_placesOf 12 = .ok (.iload_n 1, 1) := by decide +kernel
theorem dX3_placesOf_13 : decode cX3_placesOf 13 = .ok (.iaload, 1) := by decide +kernel
theorem dX3_placesOf_14 : decode cX3_placesOf 14 = .ok (.goto 4, 3) := by decide +kernel
theorem dX3_placesOf_17 : decode cX3_placesOf 17 = .ok (.iconst 0, 1) := by decide +kernel
theorem dX3_placesOf_18 : decode cX3_placesOf 18 = .ok (.ireturn, 1) := by decide +kernel
theorem dX4_add_0 : decode cX4_add 0 = .ok (.iconst 0, 1) := by decide +kernel
theorem dX4_add_1 : decode cX4_add 1 = .ok (.istore_n 2, 1) := by decide +kernel
theorem dX4_add_2 : decode cX4_add 2 = .ok (.iload_n 2, 1) := by decide +kernel
theorem dX4_add_3 : decode cX4_add 3 = .ok (.aload_n 0, 1) := by decide +kernel
theorem dX4_add_4 : decode cX4_add 4 = .ok (.getfield 18, 3) := by decide +kernel
theorem dX4_add_7 : decode cX4_add 7 = .ok (.if_icmp .ge 36, 3) := by decide +kernel
theorem dX4_add_10 : decode cX4_add 10 = .ok (.iload_n 2, 1) := by decide +kernel
theorem dX4_add_11 : decode cX4_add 11 = .ok (.bipush 24, 2) := by decide +kernel
theorem dX4_add_13 : decode cX4_add 13 = .ok (.if_icmp .ge 30, 3) := by decide +kernel
theorem dX4_add_16 : decode cX4_add 16 = .ok (.aload_n 0, 1) := by decide +kernel
theorem dX4_add_17 : decode cX4_add 17 = .ok (.getfield 9, 3) := by decide +kernel
theorem dX4_add_20 : decode cX4_add 20 = .ok (.iload_n 2, 1) := by decide +kernel
theorem dX4_add_21 : decode cX4_add 21 = .ok (.iaload, 1) := by decide +kernel
theorem dX4_add_22 : decode cX4_add 22 = .ok (.iload_n 1, 1) := by decide +kernel
theorem dX4_add_23 : decode cX4_add 23 = .ok (.if_icmp .ne 14, 3) := by decide +kernel
theorem dX4_add_26 : decode cX4_add 26 = .ok (.aload_n 0, 1) := by decide +kernel
theorem dX4_add_27 : decode cX4_add 27 = .ok (.getfield 15, 3) := by decide +kernel
theorem dX4_add_30 : decode cX4_add 30 = .ok (.iload_n 2, 1) := by decide +kernel
theorem dX4_add_31 : decode cX4_add 31 = .ok (.dup2, 1) := by decide +kernel
theorem dX4_add_32 : decode cX4_add 32 = .ok (.iaload, 1) := by decide +kernel
theorem dX4_add_33 : decode cX4_add 33 = .ok (.iconst 1, 1) := by decide +kernel
theorem dX4_add_34 : decode cX4_add 34 = .ok (.iadd, 1) := by decide +kernel
theorem dX4_add_35 : decode cX4_add 35 = .ok (.iastore, 1) := by decide +kernel
theorem dX4_add_36 : decode cX4_add 36 = .ok (.return_, 1) := by decide +kernel
theorem dX4_add_37 : decode cX4_add 37 = .ok (.iinc 2 1, 3) := by decide +kernel
theorem dX4_add_40 : decode cX4_add 40 = .ok (.goto (-38), 3) := by decide +kernel
theorem dX4_add_43 : decode cX4_add 43 = .ok (.aload_n 0, 1) := by decide +kernel
theorem dX4_add_44 : decode cX4_add 44 = .ok (.getfield 18, 3) := by decide +kernel
theorem dX4_add_47 : decode cX4_add 47 = .ok (.bipush 24, 2) := by decide +kernel
theorem dX4_add_49 : decode cX4_add 49 = .ok (.if_icmp .ge 33, 3) := by decide +kernel
theorem dX4_add_52 : decode cX4_add 52 = .ok (.aload_n 0, 1) := by decide +kernel
theorem dX4_add_53 : decode cX4_add 53 = .ok (.getfield 9, 3) := by decide +kernel
theorem dX4_add_56 : decode cX4_add 56 = .ok (.aload_n 0, 1) := by decide +kernel
theorem dX4_add_57 : decode cX4_add 57 = .ok (.getfield 18, 3) := by decide +kernel
theorem dX4_add_60 : decode cX4_add 60 = .ok (.iload_n 1, 1) := by decide +kernel
theorem dX4_add_61 : decode cX4_add 61 = .ok (.iastore, 1) := by decide +kernel
theorem dX4_add_62 : decode cX4_add 62 = .ok (.aload_n 0, 1) := by decide +kernel
theorem dX4_add_63 : decode cX4_add 63 = .ok (.getfield 15, 3) := by decide +kernel
theorem dX4_add_66 : decode cX4_add 66 = .ok (.aload_n 0, 1) := by decide +kernel
theorem dX4_add_67 : decode cX4_add 67 = .ok (.getfield 18, 3) := by decide +kernel
theorem dX4_add_70 : decode cX4_add 70 = .ok (.iconst 1, 1) := by decide +kernel
theorem dX4_add_71 : decode cX4_add 71 = .ok (.iastore, 1) := by decide +kernel
theorem dX4_add_72 : decode cX4_add 72 = .ok (.aload_n 0, 1) := by decide +kernel
theorem dX4_add_73 : decode cX4_add 73 = .ok (.dup, 1) := by decide +kernel
theorem dX4_add_74 : decode cX4_add 74 = .ok (.getfield 18, 3) := by decide +kernel
theorem dX4_add_77 : decode cX4_add 77 = .ok (.iconst 1, 1) := by decide +kernel
theorem dX4_add_78 : decode cX4_add 78 = .ok (.iadd, 1) := by decide +kernel
theorem dX4_add_79 : decode cX4_add 79 = .ok (.putfield 18, 3) := by decide +kernel
theorem dX4_add_82 : decode cX4_add 82 = .ok (.return_, 1) := by decide +kernel
theorem dX4_copyFrom_0 : decode cX4_copyFrom 0 = .ok (.aload_n 1, 1) := by decide +kernel
theorem dX4_copyFrom_1 : decode cX4_copyFrom 1 = .ok (.getfield 9, 3) := by decide +kernel
theorem dX4_copyFrom_4 : decode cX4_copyFrom 4 = .ok (.iconst 0, 1) := by decide +kernel
theorem dX4_copyFrom_5 : decode cX4_copyFrom 5 = .ok (.aload_n 0, 1) := by decide +kernel
theorem dX4_copyFrom_6 : decode cX4_copyFrom 6 = .ok (.getfield 9, 3) := by decide +kernel
theorem dX4_copyFrom_9 : decode cX4_copyFrom 9 = .ok (.iconst 0, 1) := by decide +kernel
theorem dX4_copyFrom_10 : decode cX4_copyFrom 10 = .ok (.bipush 24, 2) := by decide +kernel
theorem dX4_copyFrom_12 : decode cX4_copyFrom 12 = .ok (.invokestatic 22, 3) := by decide +kernel
theorem dX4_copyFrom_15 : decode cX4_copyFrom 15 = .ok (.aload_n 1, 1) := by decide +kernel
theorem dX4_copyFrom_16 : decode cX4_copyFrom 16 = .ok (.getfield 15, 3) := by decide +kernel
theorem dX4_copyFrom_19 : decode cX4_copyFrom 19 = .ok (.iconst 0, 1) := by decide +kernel
theorem dX4_copyFrom_20 : decode cX4_copyFrom 20 = .ok (.aload_n 0, 1) := by decide +kernel
theorem dX4_copyFrom_21 : decode cX4_copyFrom 21 = .ok (.getfield 15, 3) := by decide +kernel
theorem dX4_copyFrom_24 : decode cX4_copyFrom 24 = .ok (.iconst 0, 1) := by decide +kernel
theorem dX4_copyFrom_25 : decode cX4_copyFrom 25 = .ok (.bipush 24, 2) := by decide +kernel
theorem dX4_copyFrom_27 : decode cX4_copyFrom 27 = .ok (.invokestatic 22, 3) := by decide +kernel
theorem dX4_copyFrom_30 : decode cX4_copyFrom 30 = .ok (.aload_n 0, 1) := by decide +kernel
theorem dX4_copyFrom_31 : decode cX4_copyFrom 31 = .ok (.aload_n 1, 1) := by decide +kernel
theorem dX4_copyFrom_32 : decode cX4_copyFrom 32 = .ok (.getfield 18, 3) := by decide +kernel
theorem dX4_copyFrom_35 : decode cX4_copyFrom 35 = .ok (.putfield 18, 3) := by decide +kernel
theorem dX4_copyFrom_38 : decode cX4_copyFrom 38 = .ok (.return_, 1) := by decide +kernel
theorem dX4_init_0 : decode cX4_init 0 = .ok (.aload_n 0, 1) := by decide +kernel
theorem dX4_init_1 : decode cX4_init 1 = .ok (.invokespecial 3, 3) := by decide +kernel
theorem dX4_init_4 : decode cX4_init 4 = .ok (.aload_n 0, 1) := by decide +kernel
theorem dX4_init_5 : decode cX4_init 5 = .ok (.bipush 24, 2) := by decide +kernel
theorem dX4_init_7 : decode cX4_init 7 = .ok (.newarray .int, 2) := by decide +kernel
theorem dX4_init_9 : decode cX4_init 9 = .ok (.putfield 9, 3) := by decide +kernel
theorem dX4_init_12 : decode cX4_init 12 = .ok (.aload_n 0, 1) := by decide +kernel
theorem dX4_init_13 : decode cX4_init 13 = .ok (.bipush 24, 2) := by decide +kernel
theorem dX4_init_15 : decode cX4_init 15 = .ok (.newarray .int, 2) := by decide +kernel
theorem dX4_init_17 : decode cX4_init 17 = .ok (.putfield 15, 3) := by decide +kernel
theorem dX4_init_20 : decode cX4_init 20 = .ok (.return_, 1) := by decide +kernel
theorem dX5_callName_0 : decode cX5_callName 0 = .ok (.aload_n 0, 1) := by decide +kernel
theorem dX5_callName_1 : decode cX5_callName 1 = .ok (.iload_n 2, 1) := by decide +kernel
theorem dX5_callName_2 : decode cX5_callName 2 = .ok (.invokevirtual 345, 3) := by decide +kernel
theorem dX5_callName_5 : decode cX5_callName 5 = .ok (.istore 4, 2) := by decide +kernel
theorem dX5_callName_7 : decode cX5_callName 7 = .ok (.iload 4, 2) := by decide +kernel
theorem dX5_callName_9 : decode cX5_callName 9 = .ok (.iconst (-1), 1) := by decide +kernel
theorem dX5_callName_10 : decode cX5_callName 10 = .ok (.if_icmp .ne 13, 3) := by decide +kernel
theorem dX5_callName_13 : decode cX5_callName 13 = .ok (.aload_n 0, 1) := by decide +kernel
theorem dX5_callName_14 : decode cX5_callName 14 = .ok (.aload_n 1, 1) := by decide +kernel
theorem dX5_callName_15 : decode cX5_callName 15 = .ok (.bipush 6, 2) := by decide +kernel
theorem dX5_callName_17 : decode cX5_callName 17 = .ok (.invokevirtual 156, 3) := by decide +kernel
theorem dX5_callName_20 : decode cX5_callName 20 = .ok (.goto 15, 3) := by decide +kernel
theorem dX5_callName_23 : decode cX5_callName 23 = .ok (.aload_n 0, 1) := by decide +kernel
theorem dX5_callName_24 : decode cX5_callName 24 = .ok (.iload 4, 2) := by decide +kernel
theorem dX5_callName_26 : decode cX5_callName 26 = .ok (.iload_n 3, 1) := by decide +kernel
theorem dX5_callName_27 : decode cX5_callName 27 = .ok (.aload_n 1, 1) := by decide +kernel
theorem dX5_callName_28 : decode cX5_callName 28 = .ok (.getfield 307, 3) := by decide +kernel
theorem dX5_callName_31 : decode cX5_callName 31 = .ok (.invokevirtual 198, 3) := by decide +kernel
theorem dX5_callName_34 : decode cX5_callName 34 = .ok (.pop, 1) := by decide +kernel
theorem dX5_callName_35 : decode cX5_callName 35 = .ok (.return_, 1) := by decide +kernel
theorem dX5_comesFromOutside_0 : decode cX5_comesFromOutside 0 = .ok (.aload_n 0, 1) := by decide +kernel
theorem dX5_comesFromOutside_1 : decode cX5_comesFromOutside 1 = .ok (.iload_n 1, 1) := by decide +kernel
theorem dX5_comesFromOutside_2 : decode cX5_comesFromOutside 2 = .ok (.iconst (-1), 1) := by decide +kernel
theorem dX5_comesFromOutside_3 : decode cX5_comesFromOutside 3 = .ok (.invokevirtual 149, 3) := by decide +kernel
theorem dX5_comesFromOutside_6 : decode cX5_comesFromOutside 6 = .ok (.astore_n 2, 1) := by decide +kernel
theorem dX5_comesFromOutside_7 : decode cX5_comesFromOutside 7 = .ok (.aload_n 2, 1) := by decide +kernel
theorem dX5_comesFromOutside_8 : decode cX5_comesFromOutside 8 = .ok (.ifnonnull 5, 3) := by decide +kernel
theorem dX5_comesFromOutside_11 : decode cX5_comesFromOutside 11 = .ok (.iconst (-1), 1) := by decide +kernel
theorem dX5_comesFromOutside_12 : decode cX5_comesFromOutside 12 = .ok (.ireturn, 1) := by decide +kernel
theorem dX5_comesFromOutside_13 : decode cX5_comesFromOutside 13 = .ok (.aload_n 0, 1) := by decide +kernel
theorem dX5_comesFromOutside_14 : decode cX5_comesFromOutside 14 = .ok (.aload_n 2, 1) := by decide +kernel
theorem dX5_comesFromOutside_15 : decode cX5_comesFromOutside 15 = .ok (.iconst 0, 1) := by decide +kernel
theorem dX5_comesFromOutside_16 : decode cX5_comesFromOutside 16 = .ok (.iconst 4, 1) := by decide +kernel
theorem dX5_comesFromOutside_17 : decode cX5_comesFromOutside 17 = .ok (.iconst 0, 1) := by decide +kernel
theorem dX5_comesFromOutside_18 : decode cX5_comesFromOutside 18 = .ok (.invokestatic 163, 3) := by decide +kernel
theorem dX5_comesFromOutside_21 : decode cX5_comesFromOutside 21 = .ok (.aload_n 0, 1) := by decide +kernel
theorem dX5_comesFromOutside_22 : decode cX5_comesFromOutside 22 = .ok (.invokevirtual 167, 3) := by decide +kernel
theorem dX5_comesFromOutside_25 : decode cX5_comesFromOutside 25 = .ok (.aload_n 2, 1) := by decide +kernel
theorem dX5_comesFromOutside_26 : decode cX5_comesFromOutside 26 = .ok (.getfield 146, 3) := by decide +kernel
theorem dX5_comesFromOutside_29 : decode cX5_comesFromOutside 29 = .ok (.ireturn, 1) := by decide +kernel
theorem dX5_comesOfModule_0 : decode cX5_comesOfModule 0 = .ok (.iload_n 1, 1) := by decide +kernel
theorem dX5_comesOfModule_1 : decode cX5_comesOfModule 1 = .ok (.ifCond .lt 28, 3) := by decide +kernel
theorem dX5_comesOfModule_4 : decode cX5_comesOfModule 4 = .ok (.iload_n 1, 1) := by decide +kernel
theorem dX5_comesOfModule_5 : decode cX5_comesOfModule 5 = .ok (.aload_n 0, 1) := by decide +kernel
theorem dX5_comesOfModule_6 : decode cX5_comesOfModule 6 = .ok (.getfield 33, 3) := by decide +kernel
theorem dX5_comesOfModule_9 : decode cX5_comesOfModule 9 = .ok (.getfield 107, 3) := by decide +kernel
theorem dX5_comesOfModule_12 : decode cX5_comesOfModule 12 = .ok (.if_icmp .ge 17, 3) := by decide +kernel
theorem dX5_comesOfModule_15 : decode cX5_comesOfModule 15 = .ok (.iload_n 1, 1) := by decide +kernel
theorem dX5_comesOfModule_16 : decode cX5_comesOfModule 16 = .ok (.iconst 4, 1) := by decide +kernel
theorem dX5_comesOfModule_17 : decode cX5_comesOfModule 17 = .ok (.if_icmp .ge 12, 3) := by decide +kernel
theorem dX5_comesOfModule_20 : decode cX5_comesOfModule 20 = .ok (.aload_n 0, 1) := by decide +kernel
theorem dX5_comesOfModule_21 : decode cX5_comesOfModule 21 = .ok (.getfield 56, 3) := by decide +kernel
theorem dX5_comesOfModule_24 : decode cX5_comesOfModule 24 = .ok (.bipush 24, 2) := by decide +kernel
theorem dX5_comesOfModule_26 : decode cX5_comesOfModule 26 = .ok (.if_icmp .lt 5, 3) := by decide +kernel
theorem dX5_comesOfModule_29 : decode cX5_comesOfModule 29 = .ok (.aconst_null, 1) := by decide +kernel
theorem dX5_comesOfModule_30 : decode cX5_comesOfModule 30 = .ok (.areturn, 1) := by decide +kernel
theorem dX5_comesOfModule_31 : decode cX5_comesOfModule 31 = .ok (.aload_n 0, 1) := by decide +kernel
theorem dX5_comesOfModule_32 : decode cX5_comesOfModule 32 = .ok (.getfield 20, 3) := by decide +kernel
theorem dX5_comesOfModule_35 : decode cX5_comesOfModule 35 = .ok (.aload_n 0, 1) := by decide +kernel
theorem dX5_comesOfModule_36 : decode cX5_comesOfModule 36 = .ok (.getfield 56, 3) := by decide +kernel
theorem dX5_comesOfModule_39 : decode cX5_comesOfModule 39 = .ok (.aaload, 1) := by decide +kernel
theorem dX5_comesOfModule_40 : decode cX5_comesOfModule 40 = .ok (.astore_n 3, 1) := by decide +kernel
theorem dX5_comesOfModule_41 : decode cX5_comesOfModule 41 = .ok (.aload_n 0, 1) := by decide +kernel
theorem dX5_comesOfModule_42 : decode cX5_comesOfModule 42 = .ok (.dup, 1) := by decide +kernel
theorem dX5_comesOfModule_43 : decode cX5_comesOfModule 43 = .ok (.getfield 56, 3) := by decide +kernel
theorem dX5_comesOfModule_46 : decode cX5_comesOfModule 46 = .ok (.iconst 1, 1) := by decide +kernel
theorem dX5_comesOfModule_47 : decode cX5_comesOfModule 47 = .ok (.iadd, 1) := by decide +kernel
theorem dX5_comesOfModule_48 : decode cX5_comesOfModule 48 = .ok (.putfield 56, 3) := by decide +kernel
theorem dX5_comesOfModule_51 : decode cX5_comesOfModule 51 = .ok (.aload_n 3, 1) := by decide +kernel
theorem dX5_comesOfModule_52 : decode cX5_comesOfModule 52 = .ok (.iload_n 1, 1) := by decide +kernel
theorem dX5_comesOfModule_53 : decode cX5_comesOfModule 53 = .ok (.putfield 110, 3) := by decide +kernel
theorem dX5_comesOfModule_56 : decode cX5_comesOfModule 56 = .ok (.aload_n 3, 1) := by decide +kernel
theorem dX5_comesOfModule_57 : decode cX5_comesOfModule 57 = .ok (.aload_n 0, 1) := by decide +kernel
theorem dX5_comesOfModule_58 : decode cX5_comesOfModule 58 = .ok (.getfield 9, 3) := by decide +kernel
theorem dX5_comesOfModule_61 : decode cX5_comesOfModule 61 = .ok (.iload_n 1, 1) := by decide +kernel
theorem dX5_comesOfModule_62 : decode cX5_comesOfModule 62 = .ok (.iaload, 1) := by decide +kernel
theorem dX5_comesOfModule_63 : decode cX5_comesOfModule 63 = .ok (.putfield 113, 3) := by decide +kernel
theorem dX5_comesOfModule_66 : decode cX5_comesOfModule 66 = .ok (.aload_n 3, 1) := by decide +kernel
theorem dX5_comesOfModule_67 : decode cX5_comesOfModule 67 = .ok (.iload_n 2, 1) := by decide +kernel
theorem dX5_comesOfModule_68 : decode cX5_comesOfModule 68 = .ok (.putfield 116, 3) := by decide +kernel
theorem dX5_comesOfModule_71 : decode cX5_comesOfModule 71 = .ok (.aload_n 3, 1) := by decide +kernel
theorem dX5_comesOfModule_72 : decode cX5_comesOfModule 72 = .ok (.iconst 0, 1) := by decide +kernel
theorem dX5_comesOfModule_73 : decode cX5_comesOfModule 73 = .ok (.putfield 94, 3) := by decide +kernel
theorem dX5_comesOfModule_76 : decode cX5_comesOfModule 76 = .ok (.aload_n 3, 1) := by decide +kernel
theorem dX5_comesOfModule_77 : decode cX5_comesOfModule 77 = .ok (.aload_n 0, 1) := by decide +kernel
theorem dX5_comesOfModule_78 : decode cX5_comesOfModule 78 = .ok (.getfield 82, 3) := by decide +kernel
theorem dX5_comesOfModule_81 : decode cX5_comesOfModule 81 = .ok (.putfield 119, 3) := by decide +kernel
theorem dX5_comesOfModule_84 : decode cX5_comesOfModule 84 = .ok (.aload_n 0, 1) := by decide +kernel
theorem dX5_comesOfModule_85 : decode cX5_comesOfModule 85 = .ok (.dup, 1) := by decide +kernel
theorem dX5_comesOfModule_86 : decode cX5_comesOfModule 86 = .ok (.getfield 82, 3) := by decide +kernel
theorem dX5_comesOfModule_89 : decode cX5_comesOfModule 89 = .ok (.iconst 1, 1) := by decide +kernel
theorem dX5_comesOfModule_90 : decode cX5_comesOfModule 90 = .ok (.iadd, 1) := by decide +kernel
theorem dX5_comesOfModule_91 : decode cX5_comesOfModule 91 = .ok (.putfield 82, 3) := by decide +kernel
theorem dX5_comesOfModule_94 : decode cX5_comesOfModule 94 = .ok (.aload_n 3, 1) := by decide +kernel
theorem dX5_comesOfModule_95 : decode cX5_comesOfModule 95 = .ok (.areturn, 1) := by decide +kernel
theorem dX5_comesOfSpec_0 : decode cX5_comesOfSpec 0 = .ok (.aload_n 0, 1) := by decide +kernel
theorem dX5_comesOfSpec_1 : decode cX5_comesOfSpec 1 = .ok (.getfield 56, 3) := by decide +kernel
theorem dX5_comesOfSpec_4 : decode cX5_comesOfSpec 4 = .ok (.bipush 24, 2) := by decide +kernel
theorem dX5_comesOfSpec_6 : decode cX5_comesOfSpec 6 = .ok (.if_icmp .lt 5, 3) := by decide +kernel
theorem dX5_comesOfSpec_9 : decode cX5_comesOfSpec 9 = .ok (.aconst_null, 1) := by decide +kernel
theorem dX5_comesOfSpec_10 : decode cX5_comesOfSpec 10 = .ok (.areturn, 1) := by decide +kernel
theorem dX5_comesOfSpec_11 : decode cX5_comesOfSpec 11 = .ok (.aload_n 0, 1) := by decide +kernel
theorem dX5_comesOfSpec_12 : decode cX5_comesOfSpec 12 = .ok (.getfield 20, 3) := by decide +kernel
theorem dX5_comesOfSpec_15 : decode cX5_comesOfSpec 15 = .ok (.aload_n 0, 1) := by decide +kernel
theorem dX5_comesOfSpec_16 : decode cX5_comesOfSpec 16 = .ok (.getfield 56, 3) := by decide +kernel
theorem dX5_comesOfSpec_19 : decode cX5_comesOfSpec 19 = .ok (.aaload, 1) := by decide +kernel
theorem dX5_comesOfSpec_20 : decode cX5_comesOfSpec 20 = .ok (.astore_n 3, 1) := by decide +kernel
theorem dX5_comesOfSpec_21 : decode cX5_comesOfSpec 21 = .ok (.aload_n 0, 1) := by decide +kernel
theorem dX5_comesOfSpec_22 : decode cX5_comesOfSpec 22 = .ok (.dup, 1) := by decide +kernel
theorem dX5_comesOfSpec_23 : decode cX5_comesOfSpec 23 = .ok (.getfield 56, 3) := by decide +kernel
theorem dX5_comesOfSpec_26 : decode cX5_comesOfSpec 26 = .ok (.iconst 1, 1) := by decide +kernel
theorem dX5_comesOfSpec_27 : decode cX5_comesOfSpec 27 = .ok (.iadd, 1) := by decide +kernel
theorem dX5_comesOfSpec_28 : decode cX5_comesOfSpec 28 = .ok (.putfield 56, 3) := by decide +kernel
theorem dX5_comesOfSpec_31 : decode cX5_comesOfSpec 31 = .ok (.aload_n 3, 1) := by decide +kernel
theorem dX5_comesOfSpec_32 : decode cX5_comesOfSpec 32 = .ok (.iload_n 1, 1) := by decide +kernel
theorem dX5_comesOfSpec_33 : decode cX5_comesOfSpec 33 = .ok (.putfield 122, 3) := by decide +kernel
theorem dX5_comesOfSpec_36 : decode cX5_comesOfSpec 36 = .ok (.aload_n 3, 1) := by decide +kernel
theorem dX5_comesOfSpec_37 : decode cX5_comesOfSpec 37 = .ok (.iload_n 2, 1) := by decide +kernel
theorem dX5_comesOfSpec_38 : decode cX5_comesOfSpec 38 = .ok (.putfield 116, 3) := by decide +kernel
theorem dX5_comesOfSpec_41 : decode cX5_comesOfSpec 41 = .ok (.aload_n 3, 1) := by decide +kernel
theorem dX5_comesOfSpec_42 : decode cX5_comesOfSpec 42 = .ok (.iconst (-1), 1) := by decide +kernel
theorem dX5_comesOfSpec_43 : decode cX5_comesOfSpec 43 = .ok (.putfield 125, 3) := by decide +kernel
theorem dX5_comesOfSpec_46 : decode cX5_comesOfSpec 46 = .ok (.aload_n 3, 1) := by decide +kernel
theorem dX5_comesOfSpec_47 : decode cX5_comesOfSpec 47 = .ok (.areturn, 1) := by decide +kernel
theorem dX5_copyFrom_0 : decode cX5_copyFrom 0 = .ok (.aload_n 1, 1) := by decide +kernel
theorem dX5_copyFrom_1 : decode cX5_copyFrom 1 = .ok (.getfield 9, 3) := by decide +kernel
theorem dX5_copyFrom_4 : decode cX5_copyFrom 4 = .ok (.iconst 0, 1) := by decide +kernel
theorem dX5_copyFrom_5 : decode cX5_copyFrom 5 = .ok (.aload_n 0, 1) := by decide +kernel
theorem dX5_copyFrom_6 : decode cX5_copyFrom 6 = .ok (.getfield 9, 3) := by decide +kernel
theorem dX5_copyFrom_9 : decode cX5_copyFrom 9 = .ok (.iconst 0, 1) := by decide +kernel
theorem dX5_copyFrom_10 : decode cX5_copyFrom 10 = .ok (.iconst 4, 1) := by decide +kernel
theorem dX5_copyFrom_11 : decode cX5_copyFrom 11 = .ok (.invokestatic 50, 3) := by decide +kernel
theorem dX5_copyFrom_14 : decode cX5_copyFrom 14 = .ok (.aload_n 1, 1) := by decide +kernel
theorem dX5_copyFrom_15 : decode cX5_copyFrom 15 = .ok (.getfield 15, 3) := by decide +kernel
theorem dX5_copyFrom_18 : decode cX5_copyFrom 18 = .ok (.iconst 0, 1) := by decide +kernel
theorem dX5_copyFrom_19 : decode cX5_copyFrom 19 = .ok (.aload_n 0, 1) := by decide +kernel
theorem dX5_copyFrom_20 : decode cX5_copyFrom 20 = .ok (.getfield 15, 3) := by decide +kernel
theorem dX5_copyFrom_23 : decode cX5_copyFrom 23 = .ok (.iconst 0, 1) := by decide +kernel
theorem dX5_copyFrom_24 : decode cX5_copyFrom 24 = .ok (.iconst 4, 1) := by decide +kernel
theorem dX5_copyFrom_25 : decode cX5_copyFrom 25 = .ok (.invokestatic 50, 3) := by decide +kernel
theorem dX5_copyFrom_28 : decode cX5_copyFrom 28 = .ok (.aload_n 0, 1) := by decide +kernel
theorem dX5_copyFrom_29 : decode cX5_copyFrom 29 = .ok (.getfield 56, 3) := by decide +kernel
theorem dX5_copyFrom_32 : decode cX5_copyFrom 32 = .ok (.aload_n 1, 1) := by decide +kernel
theorem dX5_copyFrom_33 : decode cX5_copyFrom 33 = .ok (.getfield 56, 3) := by decide +kernel
theorem dX5_copyFrom_36 : decode cX5_copyFrom 36 = .ok (.invokestatic 60, 3) := by decide +kernel
theorem dX5_copyFrom_39 : decode cX5_copyFrom 39 = .ok (.istore_n 2, 1) := by decide +kernel
theorem dX5_copyFrom_40 : decode cX5_copyFrom 40 = .ok (.iconst 0, 1) := by decide +kernel
theorem dX5_copyFrom_41 : decode cX5_copyFrom 41 = .ok (.istore_n 3, 1) := by decide +kernel
theorem dX5_copyFrom_42 : decode cX5_copyFrom 42 = .ok (.iload_n 3, 1) := by decide +kernel
theorem dX5_copyFrom_43 : decode cX5_copyFrom 43 = .ok (.iload_n 2, 1) := by decide +kernel
theorem dX5_copyFrom_44 : decode cX5_copyFrom 44 = .ok (.if_icmp .ge 30, 3) := by decide +kernel
theorem dX5_copyFrom_47 : decode cX5_copyFrom 47 = .ok (.iload_n 3, 1) := by decide +kernel
theorem dX5_copyFrom_48 : decode cX5_copyFrom 48 = .ok (.bipush 24, 2) := by decide +kernel
theorem dX5_copyFrom_50 : decode cX5_copyFrom 50 = .ok (.if_icmp .ge 24, 3) := by decide +kernel
theorem dX5_copyFrom_53 : decode cX5_copyFrom 53 = .ok (.aload_n 0, 1) := by decide +kernel
theorem dX5_copyFrom_54 : decode cX5_copyFrom 54 = .ok (.getfield 20, 3) := by decide +kernel
theorem dX5_copyFrom_57 : decode cX5_copyFrom 57 = .ok (.iload_n 3, 1) := by decide +kernel
theorem dX5_copyFrom_58 : decode cX5_copyFrom 58 = .ok (.aaload, 1) := by decide +kernel
theorem dX5_copyFrom_59 : decode cX5_copyFrom 59 = .ok (.aload_n 1, 1) := by decide +kernel
theorem dX5_copyFrom_60 : decode cX5_copyFrom 60 = .ok (.getfield 20, 3) := by decide +kernel
theorem dX5_copyFrom_63 : decode cX5_copyFrom 63 = .ok (.iload_n 3, 1) := by decide +kernel
theorem dX5_copyFrom_64 : decode cX5_copyFrom 64 = .ok (.aaload, 1) := by decide +kernel
theorem dX5_copyFrom_65 : decode cX5_copyFrom 65 = .ok (.invokevirtual 66, 3) := by decide +kernel
theorem dX5_copyFrom_68 : decode cX5_copyFrom 68 = .ok (.iinc 3 1, 3) := by decide +kernel
theorem dX5_copyFrom_71 : decode cX5_copyFrom 71 = .ok (.goto (-29), 3) := by decide +kernel
theorem dX5_copyFrom_74 : decode cX5_copyFrom 74 = .ok (.aload_n 0, 1) := by decide +kernel
theorem dX5_copyFrom_75 : decode cX5_copyFrom 75 = .ok (.aload_n 1, 1) := by decide +kernel
theorem dX5_copyFrom_76 : decode cX5_copyFrom 76 = .ok (.getfield 56, 3) := by decide +kernel
theorem dX5_copyFrom_79 : decode cX5_copyFrom 79 = .ok (.putfield 56, 3) := by decide +kernel
theorem dX5_copyFrom_82 : decode cX5_copyFrom 82 = .ok (.aload_n 0, 1) := by decide +kernel
theorem dX5_copyFrom_83 : decode cX5_copyFrom 83 = .ok (.aload_n 1, 1) := by decide +kernel
theorem dX5_copyFrom_84 : decode cX5_copyFrom 84 = .ok (.getfield 70, 3) := by decide +kernel
theorem dX5_copyFrom_87 : decode cX5_copyFrom 87 = .ok (.putfield 70, 3) := by decide +kernel
theorem dX5_copyFrom_90 : decode cX5_copyFrom 90 = .ok (.aload_n 0, 1) := by decide +kernel
theorem dX5_copyFrom_91 : decode cX5_copyFrom 91 = .ok (.aload_n 1, 1) := by decide +kernel
theorem dX5_copyFrom_92 : decode cX5_copyFrom 92 = .ok (.getfield 73, 3) := by decide +kernel
theorem dX5_copyFrom_95 : decode cX5_copyFrom 95 = .ok (.putfield 73, 3) := by decide +kernel
theorem dX5_copyFrom_98 : decode cX5_copyFrom 98 = .ok (.aload_n 0, 1) := by decide +kernel
theorem dX5_copyFrom_99 : decode cX5_copyFrom 99 = .ok (.aload_n 1, 1) := by decide +kernel
theorem dX5_copyFrom_100 : decode cX5_copyFrom 100 = .ok (.getfield 76, 3) := by decide +kernel
theorem dX5_copyFrom_103 : decode cX5_copyFrom 103 = .ok (.putfield 76, 3) := by decide +kernel
theorem dX5_copyFrom_106 : decode cX5_copyFrom 106 = .ok (.aload_n 0, 1) := by decide +kernel
theorem dX5_copyFrom_107 : decode cX5_copyFrom 107 = .ok (.aload_n 1, 1) := by decide +kernel
theorem dX5_copyFrom_108 : decode cX5_copyFrom 108 = .ok (.getfield 79, 3) := by decide +kernel
theorem dX5_copyFrom_111 : decode cX5_copyFrom 111 = .ok (.putfield 79, 3) := by decide +kernel
theorem dX5_copyFrom_114 : decode cX5_copyFrom 114 = .ok (.aload_n 0, 1) := by decide +kernel
theorem dX5_copyFrom_115 : decode cX5_copyFrom 115 = .ok (.aload_n 1, 1) := by decide +kernel
theorem dX5_copyFrom_116 : decode cX5_copyFrom 116 = .ok (.getfield 82, 3) := by decide +kernel
theorem dX5_copyFrom_119 : decode cX5_copyFrom 119 = .ok (.putfield 82, 3) := by decide +kernel
theorem dX5_copyFrom_122 : decode cX5_copyFrom 122 = .ok (.aload_n 1, 1) := by decide +kernel
theorem dX5_copyFrom_123 : decode cX5_copyFrom 123 = .ok (.getfield 24, 3) := by decide +kernel
theorem dX5_copyFrom_126 : decode cX5_copyFrom 126 = .ok (.iconst 0, 1) := by decide +kernel
theorem dX5_copyFrom_127 : decode cX5_copyFrom 127 = .ok (.aload_n 0, 1) := by decide +kernel
theorem dX5_copyFrom_128 : decode cX5_copyFrom 128 = .ok (.getfield 24, 3) := by decide +kernel
theorem dX5_copyFrom_131 : decode cX5_copyFrom 131 = .ok (.iconst 0, 1) := by decide +kernel
theorem dX5_copyFrom_132 : decode cX5_copyFrom 132 = .ok (.bipush 24, 2) := by decide +kernel
theorem dX5_copyFrom_134 : decode cX5_copyFrom 134 = .ok (.invokestatic 50, 3) := by decide +kernel
theorem dX5_copyFrom_137 : decode cX5_copyFrom 137 = .ok (.aload_n 0, 1) := by decide +kernel
theorem dX5_copyFrom_138 : decode cX5_copyFrom 138 = .ok (.aload_n 1, 1) := by decide +kernel
theorem dX5_copyFrom_139 : decode cX5_copyFrom 139 = .ok (.getfield 85, 3) := by decide +kernel
theorem dX5_copyFrom_142 : decode cX5_copyFrom 142 = .ok (.putfield 85, 3) := by decide +kernel
theorem dX5_copyFrom_145 : decode cX5_copyFrom 145 = .ok (.aload_n 0, 1) := by decide +kernel
theorem dX5_copyFrom_146 : decode cX5_copyFrom 146 = .ok (.aload_n 1, 1) := by decide +kernel
theorem dX5_copyFrom_147 : decode cX5_copyFrom 147 = .ok (.getfield 88, 3) := by decide +kernel
theorem dX5_copyFrom_150 : decode cX5_copyFrom 150 = .ok (.putfield 88, 3) := by decide +kernel
theorem dX5_copyFrom_153 : decode cX5_copyFrom 153 = .ok (.aload_n 1, 1) := by decide +kernel
theorem dX5_copyFrom_154 : decode cX5_copyFrom 154 = .ok (.getfield 27, 3) := by decide +kernel
theorem dX5_copyFrom_157 : decode cX5_copyFrom 157 = .ok (.iconst 0, 1) := by decide +kernel
theorem dX5_copyFrom_158 : decode cX5_copyFrom 158 = .ok (.aload_n 0, 1) := by decide +kernel
theorem dX5_copyFrom_159 : decode cX5_copyFrom 159 = .ok (.getfield 27, 3) := by decide +kernel
theorem dX5_copyFrom_162 : decode cX5_copyFrom 162 = .ok (.iconst 0, 1) := by decide +kernel
theorem dX5_copyFrom_163 : decode cX5_copyFrom 163 = .ok (.bipush 24, 2) := by decide +kernel
theorem dX5_copyFrom_165 : decode cX5_copyFrom 165 = .ok (.invokestatic 50, 3) := by decide +kernel
theorem dX5_copyFrom_168 : decode cX5_copyFrom 168 = .ok (.aload_n 1, 1) := by decide +kernel
theorem dX5_copyFrom_169 : decode cX5_copyFrom 169 = .ok (.getfield 30, 3) := by decide +kernel
theorem dX5_copyFrom_172 : decode cX5_copyFrom 172 = .ok (.iconst 0, 1) := by decide +kernel
theorem dX5_copyFrom_173 : decode cX5_copyFrom 173 = .ok (.aload_n 0, 1) := by decide +kernel
theorem dX5_copyFrom_174 : decode cX5_copyFrom 174 = .ok (.getfield 30, 3) := by decide +kernel
theorem dX5_copyFrom_177 : decode cX5_copyFrom 177 = .ok (.iconst 0, 1) := by decide +kernel
theorem dX5_copyFrom_178 : decode cX5_copyFrom 178 = .ok (.bipush 24, 2) := by decide +kernel
theorem dX5_copyFrom_180 : decode cX5_copyFrom 180 = .ok (.invokestatic 50, 3) := by decide +kernel
theorem dX5_copyFrom_183 : decode cX5_copyFrom 183 = .ok (.aload_n 0, 1) := by decide +kernel
theorem dX5_copyFrom_184 : decode cX5_copyFrom 184 = .ok (.aload_n 1, 1) := by decide +kernel
theorem dX5_copyFrom_185 : decode cX5_copyFrom 185 = .ok (.getfield 91, 3) := by decide +kernel
theorem dX5_copyFrom_188 : decode cX5_copyFrom 188 = .ok (.putfield 91, 3) := by decide +kernel
theorem dX5_copyFrom_191 : decode cX5_copyFrom 191 = .ok (.return_, 1) := by decide +kernel
theorem dX5_currentOf_0 : decode cX5_currentOf 0 = .ok (.aload_n 0, 1) := by decide +kernel
theorem dX5_currentOf_1 : decode cX5_currentOf 1 = .ok (.getfield 33, 3) := by decide +kernel
theorem dX5_currentOf_4 : decode cX5_currentOf 4 = .ok (.iload_n 1, 1) := by decide +kernel
theorem dX5_currentOf_5 : decode cX5_currentOf 5 = .ok (.invokevirtual 97, 3) := by decide +kernel
theorem dX5_currentOf_8 : decode cX5_currentOf 8 = .ok (.ifCond .eq 12, 3) := by decide +kernel
theorem dX5_currentOf_11 : decode cX5_currentOf 11 = .ok (.aload_n 0, 1) := by decide +kernel
theorem dX5_currentOf_12 : decode cX5_currentOf 12 = .ok (.getfield 9, 3) := by decide +kernel
theorem dX5_currentOf_15 : decode cX5_currentOf 15 = .ok (.iload_n 1, 1) := by decide +kernel
theorem dX5_currentOf_16 : decode cX5_currentOf 16 = .ok (.iaload, 1) := by decide +kernel
theorem dX5_currentOf_17 : decode cX5_currentOf 17 = .ok (.goto 4, 3) := by decide +kernel
theorem dX5_currentOf_20 : decode cX5_currentOf 20 = .ok (.iconst (-1), 1) := by decide +kernel
theorem dX5_currentOf_21 : decode cX5_currentOf 21 = .ok (.ireturn, 1) := by decide +kernel
theorem dX5_doLine_0 : decode cX5_doLine 0 = .ok (.aload_n 0, 1) := by decide +kernel
theorem dX5_doLine_1 : decode cX5_doLine 1 = .ok (.getfield 33, 3) := by decide +kernel
theorem dX5_doLine_4 : decode cX5_doLine 4 = .ok (.getfield 301, 3) := by decide +kernel
theorem dX5_doLine_7 : decode cX5_doLine 7 = .ok (.iload_n 2, 1) := by decide +kernel
theorem dX5_doLine_8 : decode cX5_doLine 8 = .ok (.iaload, 1) := by decide +kernel
theorem dX5_doLine_9 : decode cX5_doLine 9 = .ok (.istore_n 3, 1) := by decide +kernel
theorem dX5_doLine_10 : decode cX5_doLine 10 = .ok (.aload_n 0, 1) := by decide +kernel
theorem dX5_doLine_11 : decode cX5_doLine 11 = .ok (.getfield 33, 3) := by decide +kernel
theorem dX5_doLine_14 : decode cX5_doLine 14 = .ok (.getfield 304, 3) := by decide +kernel
theorem dX5_doLine_17 : decode cX5_doLine 17 = .ok (.iload_n 2, 1) := by decide +kernel
theorem dX5_doLine_18 : decode cX5_doLine 18 = .ok (.iaload, 1) := by decide +kernel
theorem dX5_doLine_19 : decode cX5_doLine 19 = .ok (.istore 4, 2) := by decide +kernel
theorem dX5_doLine_21 : decode cX5_doLine 21 = .ok (.aload_n 1, 1) := by decide +kernel
theorem dX5_doLine_22 : decode cX5_doLine 22 = .ok (.getfield 125, 3) := by decide +kernel
theorem dX5_doLine_25 : decode cX5_doLine 25 = .ok (.iconst 1, 1) := by decide +kernel
theorem dX5_doLine_26 : decode cX5_doLine 26 = .ok (.iadd, 1) := by decide +kernel
theorem dX5_doLine_27 : decode cX5_doLine 27 = .ok (.istore 5, 2) := by decide +kernel
theorem dX5_doLine_29 : decode cX5_doLine 29 = .ok (.aload_n 0, 1) := by decide +kernel
theorem dX5_doLine_30 : decode cX5_doLine 30 = .ok (.getfield 33, 3) := by decide +kernel
theorem dX5_doLine_33 : decode cX5_doLine 33 = .ok (.getfield 289, 3) := by decide +kernel
theorem dX5_doLine_36 : decode cX5_doLine 36 = .ok (.iload_n 2, 1) := by decide +kernel
theorem dX5_doLine_37 : decode cX5_doLine 37 = .ok (.iaload, 1) := by decide +kernel
theorem dX5_doLine_38 : decode cX5_doLine 38 = .ok (.tableswitch 228 0 15 #[78, 91, 103, 115, 141, 156, 228, 228, 228, 228, 165, 228, 228, 228, 182, 214], 78) := by decide +kernel
theorem dX5_doLine_116 : decode cX5_doLine 116 = .ok (.aload_n 1, 1) := by decide +kernel
theorem dX5_doLine_117 : decode cX5_doLine 117 = .ok (.aload_n 1, 1) := by decide +kernel
theorem dX5_doLine_118 : decode cX5_doLine 118 = .ok (.getfield 307, 3) := by decide +kernel
theorem dX5_doLine_121 : decode cX5_doLine 121 = .ok (.iload_n 3, 1) := by decide +kernel
theorem dX5_doLine_122 : decode cX5_doLine 122 = .ok (.iadd, 1) := by decide +kernel
theorem dX5_doLine_123 : decode cX5_doLine 123 = .ok (.invokevirtual 310, 3) := by decide +kernel
theorem dX5_doLine_126 : decode cX5_doLine 126 = .ok (.iload 5, 2) := by decide +kernel
theorem dX5_doLine_128 : decode cX5_doLine 128 = .ok (.ireturn, 1) := by decide +kernel
theorem dX5_doLine_129 : decode cX5_doLine 129 = .ok (.aload_n 1, 1) := by decide +kernel
theorem dX5_doLine_130 : decode cX5_doLine 130 = .ok (.aload_n 1, 1) := by decide +kernel
theorem dX5_doLine_131 : decode cX5_doLine 131 = .ok (.iload_n 3, 1) := by decide +kernel
theorem dX5_doLine_132 : decode cX5_doLine 132 = .ok (.invokevirtual 313, 3) := by decide +kernel
theorem dX5_doLine_135 : decode cX5_doLine 135 = .ok (.putfield 307, 3) := by decide +kernel
theorem dX5_doLine_138 : decode cX5_doLine 138 = .ok (.iload 5, 2) := by decide +kernel
theorem dX5_doLine_140 : decode cX5_doLine 140 = .ok (.ireturn, 1) := by decide +kernel
theorem dX5_doLine_141 : decode cX5_doLine 141 = .ok (.aload_n 1, 1) := by decide +kernel
theorem dX5_doLine_142 : decode cX5_doLine 142 = .ok (.iload_n 3, 1) := by decide +kernel
theorem dX5_doLine_143 : decode cX5_doLine 143 = .ok (.aload_n 1, 1) := by decide +kernel
theorem dX5_doLine_144 : decode cX5_doLine 144 = .ok (.getfield 307, 3) := by decide +kernel
theorem dX5_doLine_147 : decode cX5_doLine 147 = .ok (.invokevirtual 316, 3) := by decide +kernel
theorem dX5_doLine_150 : decode cX5_doLine 150 = .ok (.iload 5, 2) := by decide +kernel
theorem dX5_doLine_152 : decode cX5_doLine 152 = .ok (.ireturn, 1) := by decide +kernel
theorem dX5_doLine_153 : decode cX5_doLine 153 = .ok (.aload_n 1, 1) := by decide +kernel
theorem dX5_doLine_154 : decode cX5_doLine 154 = .ok (.iload_n 3, 1) := by decide +kernel
theorem dX5_doLine_155 : decode cX5_doLine 155 = .ok (.invokevirtual 313, 3) := by decide +kernel
theorem dX5_doLine_158 : decode cX5_doLine 158 = .ok (.ifCond .gt 6, 3) := by decide +kernel
theorem dX5_doLine_161 : decode cX5_doLine 161 = .ok (.iload 5, 2) := by decide +kernel
theorem dX5_doLine_163 : decode cX5_doLine 163 = .ok (.ireturn, 1) := by decide +kernel
theorem dX5_doLine_164 : decode cX5_doLine 164 = .ok (.aload_n 1, 1) := by decide +kernel
theorem dX5_doLine_165 : decode cX5_doLine 165 = .ok (.iload_n 3, 1) := by decide +kernel
theorem dX5_doLine_166 : decode cX5_doLine 166 = .ok (.aload_n 1, 1) := by decide +kernel
theorem dX5_doLine_167 : decode cX5_doLine 167 = .ok (.iload_n 3, 1) := by decide +kernel
theorem dX5_doLine_168 : decode cX5_doLine 168 = .ok (.invokevirtual 313, 3) := by decide +kernel
theorem dX5_doLine_171 : decode cX5_doLine 171 = .ok (.iconst 1, 1) := by decide +kernel
theorem dX5_doLine_172 : decode cX5_doLine 172 = .ok (.isub, 1) := by decide +kernel
theorem dX5_doLine_173 : decode cX5_doLine 173 = .ok (.invokevirtual 316, 3) := by decide +kernel
theorem dX5_doLine_176 : decode cX5_doLine 176 = .ok (.iload 4, 2) := by decide +kernel
theorem dX5_doLine_178 : decode cX5_doLine 178 = .ok (.ireturn, 1) := by decide +kernel
theorem dX5_doLine_179 : decode cX5_doLine 179 = .ok (.aload_n 1, 1) := by decide +kernel
theorem dX5_doLine_180 : decode cX5_doLine 180 = .ok (.getfield 307, 3) := by decide +kernel
theorem dX5_doLine_183 : decode cX5_doLine 183 = .ok (.ifCond .gt 8, 3) := by decide +kernel
theorem dX5_doLine_186 : decode cX5_doLine 186 = .ok (.iload 4, 2) := by decide +kernel
theorem dX5_doLine_188 : decode cX5_doLine 188 = .ok (.goto 5, 3) := by decide +kernel
theorem dX5_doLine_191 : decode cX5_doLine 191 = .ok (.iload 5, 2) := by decide +kernel
theorem dX5_doLine_193 : decode cX5_doLine 193 = .ok (.ireturn, 1) := by decide +kernel
theorem dX5_doLine_194 : decode cX5_doLine 194 = .ok (.aload_n 0, 1) := by decide +kernel
theorem dX5_doLine_195 : decode cX5_doLine 195 = .ok (.aload_n 1, 1) := by decide +kernel
theorem dX5_doLine_196 : decode cX5_doLine 196 = .ok (.iload_n 3, 1) := by decide +kernel
theorem dX5_doLine_197 : decode cX5_doLine 197 = .ok (.invokevirtual 156, 3) := by decide +kernel
theorem dX5_doLine_200 : decode cX5_doLine 200 = .ok (.iload 5, 2) := by decide +kernel
theorem dX5_doLine_202 : decode cX5_doLine 202 = .ok (.ireturn, 1) := by decide +kernel
theorem dX5_doLine_203 : decode cX5_doLine 203 = .ok (.aload_n 1, 1) := by decide +kernel
theorem dX5_doLine_204 : decode cX5_doLine 204 = .ok (.iload_n 3, 1) := by decide +kernel
theorem dX5_doLine_205 : decode cX5_doLine 205 = .ok (.iconst 1, 1) := by decide +kernel
theorem dX5_doLine_206 : decode cX5_doLine 206 = .ok (.if_icmp .ne 7, 3) := by decide +kernel
theorem dX5_doLine_209 : decode cX5_doLine 209 = .ok (.iconst 1, 1) := by decide +kernel
theorem dX5_doLine_210 : decode cX5_doLine 210 = .ok (.goto 4, 3) := by decide +kernel
theorem dX5_doLine_213 : decode cX5_doLine 213 = .ok (.iconst 0, 1) := by decide +kernel
theorem dX5_doLine_214 : decode cX5_doLine 214 = .ok (.putfield 194, 3) := by decide +kernel
theorem dX5_doLine_217 : decode cX5_doLine 217 = .ok (.iload 5, 2) := by decide +kernel
theorem dX5_doLine_219 : decode cX5_doLine 219 = .ok (.ireturn, 1) := by decide +kernel
theorem dX5_doLine_220 : decode cX5_doLine 220 = .ok (.aload_n 1, 1) := by decide +kernel
theorem dX5_doLine_221 : decode cX5_doLine 221 = .ok (.iload_n 3, 1) := by decide +kernel
theorem dX5_doLine_222 : decode cX5_doLine 222 = .ok (.invokevirtual 320, 3) := by decide +kernel
theorem dX5_doLine_225 : decode cX5_doLine 225 = .ok (.ifCond .ne 24, 3) := by decide +kernel
theorem dX5_doLine_228 : decode cX5_doLine 228 = .ok (.aload_n 1, 1) := by decide +kernel
theorem dX5_doLine_229 : decode cX5_doLine 229 = .ok (.iload_n 3, 1) := by decide +kernel
theorem dX5_doLine_230 : decode cX5_doLine 230 = .ok (.iload 4, 2) := by decide +kernel
theorem dX5_doLine_232 : decode cX5_doLine 232 = .ok (.ifCond .le 13, 3) := by decide +kernel
theorem dX5_doLine_235 : decode cX5_doLine 235 = .ok (.aload_n 0, 1) := by decide +kernel
theorem dX5_doLine_236 : decode cX5_doLine 236 = .ok (.getfield 70, 3) := by decide +kernel
theorem dX5_doLine_239 : decode cX5_doLine 239 = .ok (.iload 4, 2) := by decide +kernel
theorem dX5_doLine_241 : decode cX5_doLine 241 = .ok (.iadd, 1) := by decide +kernel
theorem dX5_doLine_242 : decode cX5_doLine 242 = .ok (.goto 4, 3) := by decide +kernel
theorem dX5_doLine_245 : decode cX5_doLine 245 = .ok (.iconst (-1), 1) := by decide +kernel
theorem dX5_doLine_246 : decode cX5_doLine 246 = .ok (.invokevirtual 323, 3) := by decide +kernel
theorem dX5_doLine_249 : decode cX5_doLine 249 = .ok (.iload 5, 2) := by decide +kernel
theorem dX5_doLine_251 : decode cX5_doLine 251 = .ok (.ireturn, 1) := by decide +kernel
theorem dX5_doLine_252 : decode cX5_doLine 252 = .ok (.aload_n 1, 1) := by decide +kernel
theorem dX5_doLine_253 : decode cX5_doLine 253 = .ok (.iconst 5, 1) := by decide +kernel
theorem dX5_doLine_254 : decode cX5_doLine 254 = .ok (.aload_n 0, 1) := by decide +kernel
theorem dX5_doLine_255 : decode cX5_doLine 255 = .ok (.getfield 70, 3) := by decide +kernel
theorem dX5_doLine_258 : decode cX5_doLine 258 = .ok (.iload_n 3, 1) := by decide +kernel
theorem dX5_doLine_259 : decode cX5_doLine 259 = .ok (.iadd, 1) := by decide +kernel
theorem dX5_doLine_260 : decode cX5_doLine 260 = .ok (.invokevirtual 323, 3) := by decide +kernel
theorem dX5_doLine_263 : decode cX5_doLine 263 = .ok (.iload 5, 2) := by decide +kernel
theorem dX5_doLine_265 : decode cX5_doLine 265 = .ok (.ireturn, 1) := by decide +kernel
theorem dX5_doLine_266 : decode cX5_doLine 266 = .ok (.aload_n 1, 1) := by decide +kernel
theorem dX5_doLine_267 : decode cX5_doLine 267 = .ok (.aload_n 0, 1) := by decide +kernel
theorem dX5_doLine_268 : decode cX5_doLine 268 = .ok (.aload_n 1, 1) := by decide +kernel
theorem dX5_doLine_269 : decode cX5_doLine 269 = .ok (.getfield 110, 3) := by decide +kernel
theorem dX5_doLine_272 : decode cX5_doLine 272 = .ok (.invokevirtual 326, 3) := by decide +kernel
theorem dX5_doLine_275 : decode cX5_doLine 275 = .ok (.putfield 113, 3) := by decide +kernel
theorem dX5_doLine_278 : decode cX5_doLine 278 = .ok (.iconst 0, 1) := by decide +kernel
theorem dX5_doLine_279 : decode cX5_doLine 279 = .ok (.ireturn, 1) := by decide +kernel
theorem dX5_doLineOut_0 : decode cX5_doLineOut 0 = .ok (.aload_n 0, 1) := by decide +kernel
theorem dX5_doLineOut_1 : decode cX5_doLineOut 1 = .ok (.getfield 33, 3) := by decide +kernel
theorem dX5_doLineOut_4 : decode cX5_doLineOut 4 = .ok (.getfield 301, 3) := by decide +kernel
theorem dX5_doLineOut_7 : decode cX5_doLineOut 7 = .ok (.iload_n 2, 1) := by decide +kernel
theorem dX5_doLineOut_8 : decode cX5_doLineOut 8 = .ok (.iaload, 1) := by decide +kernel
theorem dX5_doLineOut_9 : decode cX5_doLineOut 9 = .ok (.istore_n 3, 1) := by decide +kernel
theorem dX5_doLineOut_10 : decode cX5_doLineOut 10 = .ok (.aload_n 0, 1) := by decide +kernel
theorem dX5_doLineOut_11 : decode cX5_doLineOut 11 = .ok (.getfield 33, 3) := by decide +kernel
theorem dX5_doLineOut_14 : decode cX5_doLineOut 14 = .ok (.getfield 304, 3) := by decide +kernel
theorem dX5_doLineOut_17 : decode cX5_doLineOut 17 = .ok (.iload_n 2, 1) := by decide +kernel
theorem dX5_doLineOut_18 : decode cX5_doLineOut 18 = .ok (.iaload, 1) := by decide +kernel
theorem dX5_doLineOut_19 : decode cX5_doLineOut 19 = .ok (.istore 4, 2) := by decide +kernel
theorem dX5_doLineOut_21 : decode cX5_doLineOut 21 = .ok (.aload_n 0, 1) := by decide +kernel
theorem dX5_doLineOut_22 : decode cX5_doLineOut 22 = .ok (.aload_n 1, 1) := by decide +kernel
theorem dX5_doLineOut_23 : decode cX5_doLineOut 23 = .ok (.getfield 307, 3) := by decide +kernel
theorem dX5_doLineOut_26 : decode cX5_doLineOut 26 = .ok (.invokevirtual 170, 3) := by decide +kernel
theorem dX5_doLineOut_29 : decode cX5_doLineOut 29 = .ok (.astore 5, 2) := by decide +kernel
theorem dX5_doLineOut_31 : decode cX5_doLineOut 31 = .ok (.aload_n 0, 1) := by decide +kernel
theorem dX5_doLineOut_32 : decode cX5_doLineOut 32 = .ok (.getfield 33, 3) := by decide +kernel
theorem dX5_doLineOut_35 : decode cX5_doLineOut 35 = .ok (.getfield 289, 3) := by decide +kernel
theorem dX5_doLineOut_38 : decode cX5_doLineOut 38 = .ok (.iload_n 2, 1) := by decide +kernel
theorem dX5_doLineOut_39 : decode cX5_doLineOut 39 = .ok (.iaload, 1) := by decide +kernel
theorem dX5_doLineOut_40 : decode cX5_doLineOut 40 = .ok (.tableswitch 196 6 13 #[48, 68, 100, 115, 196, 158, 167, 185], 48) := by decide +kernel
theorem dX5_doLineOut_88 : decode cX5_doLineOut 88 = .ok (.aload_n 0, 1) := by decide +kernel
theorem dX5_doLineOut_89 : decode cX5_doLineOut 89 = .ok (.aload_n 1, 1) := by decide +kernel
theorem dX5_doLineOut_90 : decode cX5_doLineOut 90 = .ok (.iload_n 3, 1) := by decide +kernel
theorem dX5_doLineOut_91 : decode cX5_doLineOut 91 = .ok (.iload 4, 2) := by decide +kernel
theorem dX5_doLineOut_93 : decode cX5_doLineOut 93 = .ok (.iconst 1, 1) := by decide +kernel
theorem dX5_doLineOut_94 : decode cX5_doLineOut 94 = .ok (.if_icmp .ne 7, 3) := by decide +kernel
theorem dX5_doLineOut_97 : decode cX5_doLineOut 97 = .ok (.iconst 1, 1) := by decide +kernel
theorem dX5_doLineOut_98 : decode cX5_doLineOut 98 = .ok (.goto 4, 3) := by decide +kernel
theorem dX5_doLineOut_101 : decode cX5_doLineOut 101 = .ok (.iconst 0, 1) := by decide +kernel
theorem dX5_doLineOut_102 : decode cX5_doLineOut 102 = .ok (.invokevirtual 329, 3) := by decide +kernel
theorem dX5_doLineOut_105 : decode cX5_doLineOut 105 = .ok (.goto 144, 3) := by decide +kernel
theorem dX5_doLineOut_108 : decode cX5_doLineOut 108 = .ok (.aload 5, 2) := by decide +kernel
theorem dX5_doLineOut_110 : decode cX5_doLineOut 110 = .ok (.ifnonnull 20, 3) := by decide +kernel
theorem dX5_doLineOut_113 : decode cX5_doLineOut 113 = .ok (.aload_n 0, 1) := by decide +kernel
theorem dX5_doLineOut_114 : decode cX5_doLineOut 114 = .ok (.aload_n 1, 1) := by decide +kernel
theorem dX5_doLineOut_115 : decode cX5_doLineOut 115 = .ok (.getfield 146, 3) := by decide +kernel
theorem dX5_doLineOut_118 : decode cX5_doLineOut 118 = .ok (.aload_n 1, 1) := by decide +kernel
theorem dX5_doLineOut_119 : decode cX5_doLineOut 119 = .ok (.getfield 307, 3) := by decide +kernel
theorem dX5_doLineOut_122 : decode cX5_doLineOut 122 = .ok (.bipush 7, 2) := by decide +kernel
theorem dX5_doLineOut_124 : decode cX5_doLineOut 124 = .ok (.invokevirtual 222, 3) := by decide +kernel
theorem dX5_doLineOut_127 : decode cX5_doLineOut 127 = .ok (.goto 122, 3) := by decide +kernel
theorem dX5_doLineOut_130 : decode cX5_doLineOut 130 = .ok (.aload_n 0, 1) := by decide +kernel
theorem dX5_doLineOut_131 : decode cX5_doLineOut 131 = .ok (.aload_n 1, 1) := by decide +kernel
theorem dX5_doLineOut_132 : decode cX5_doLineOut 132 = .ok (.aload 5, 2) := by decide +kernel
theorem dX5_doLineOut_134 : decode cX5_doLineOut 134 = .ok (.invokevirtual 333, 3) := by decide +kernel
theorem dX5_doLineOut_137 : decode cX5_doLineOut 137 = .ok (.goto 112, 3) := by decide +kernel
theorem dX5_doLineOut_140 : decode cX5_doLineOut 140 = .ok (.aload 5, 2) := by decide +kernel
theorem dX5_doLineOut_142 : decode cX5_doLineOut 142 = .ok (.ifnull 107, 3) := by decide +kernel
theorem dX5_doLineOut_145 : decode cX5_doLineOut 145 = .ok (.aload_n 0, 1) := by decide +kernel
theorem dX5_doLineOut_146 : decode cX5_doLineOut 146 = .ok (.aload_n 1, 1) := by decide +kernel
theorem dX5_doLineOut_147 : decode cX5_doLineOut 147 = .ok (.aload 5, 2) := by decide +kernel
theorem dX5_doLineOut_149 : decode cX5_doLineOut 149 = .ok (.invokevirtual 218, 3) := by decide +kernel
theorem dX5_doLineOut_152 : decode cX5_doLineOut 152 = .ok (.goto 97, 3) := by decide +kernel
theorem dX5_doLineOut_155 : decode cX5_doLineOut 155 = .ok (.aload 5, 2) := by decide +kernel
theorem dX5_doLineOut_157 : decode cX5_doLineOut 157 = .ok (.ifnonnull 26, 3) := by decide +kernel
theorem dX5_doLineOut_160 : decode cX5_doLineOut 160 = .ok (.aload_n 0, 1) := by decide +kernel
theorem dX5_doLineOut_161 : decode cX5_doLineOut 161 = .ok (.aload_n 1, 1) := by decide +kernel
theorem dX5_doLineOut_162 : decode cX5_doLineOut 162 = .ok (.getfield 146, 3) := by decide +kernel
theorem dX5_doLineOut_165 : decode cX5_doLineOut 165 = .ok (.iconst 2, 1) := by decide +kernel
theorem dX5_doLineOut_166 : decode cX5_doLineOut 166 = .ok (.bipush 10, 2) := by decide +kernel
theorem dX5_doLineOut_168 : decode cX5_doLineOut 168 = .ok (.aload_n 1, 1) := by decide +kernel
theorem dX5_doLineOut_169 : decode cX5_doLineOut 169 = .ok (.getfield 307, 3) := by decide +kernel
theorem dX5_doLineOut_172 : decode cX5_doLineOut 172 = .ok (.imul, 1) := by decide +kernel
theorem dX5_doLineOut_173 : decode cX5_doLineOut 173 = .ok (.bipush 7, 2) := by decide +kernel
theorem dX5_doLineOut_175 : decode cX5_doLineOut 175 = .ok (.iadd, 1) := by decide +kernel
theorem dX5_doLineOut_176 : decode cX5_doLineOut 176 = .ok (.invokevirtual 198, 3) := by decide +kernel
theorem dX5_doLineOut_179 : decode cX5_doLineOut 179 = .ok (.pop, 1) := by decide +kernel
theorem dX5_doLineOut_180 : decode cX5_doLineOut 180 = .ok (.goto 69, 3) := by decide +kernel
theorem dX5_doLineOut_183 : decode cX5_doLineOut 183 = .ok (.aload 5, 2) := by decide +kernel
theorem dX5_doLineOut_185 : decode cX5_doLineOut 185 = .ok (.getfield 229, 3) := by decide +kernel
theorem dX5_doLineOut_188 : decode cX5_doLineOut 188 = .ok (.aload_n 1, 1) := by decide +kernel
theorem dX5_doLineOut_189 : decode cX5_doLineOut 189 = .ok (.getfield 146, 3) := by decide +kernel
theorem dX5_doLineOut_192 : decode cX5_doLineOut 192 = .ok (.invokevirtual 336, 3) := by decide +kernel
theorem dX5_doLineOut_195 : decode cX5_doLineOut 195 = .ok (.goto 54, 3) := by decide +kernel
theorem dX5_doLineOut_198 : decode cX5_doLineOut 198 = .ok (.aload_n 0, 1) := by decide +kernel
theorem dX5_doLineOut_199 : decode cX5_doLineOut 199 = .ok (.aload_n 1, 1) := by decide +kernel
theorem dX5_doLineOut_200 : decode cX5_doLineOut 200 = .ok (.iload_n 3, 1) := by decide +kernel
theorem dX5_doLineOut_201 : decode cX5_doLineOut 201 = .ok (.invokevirtual 339, 3) := by decide +kernel
theorem dX5_doLineOut_204 : decode cX5_doLineOut 204 = .ok (.goto 45, 3) := by decide +kernel
theorem dX5_doLineOut_207 : decode cX5_doLineOut 207 = .ok (.aload_n 0, 1) := by decide +kernel
theorem dX5_doLineOut_208 : decode cX5_doLineOut 208 = .ok (.aload_n 1, 1) := by decide +kernel
theorem dX5_doLineOut_209 : decode cX5_doLineOut 209 = .ok (.getfield 307, 3) := by decide +kernel
theorem dX5_doLineOut_212 : decode cX5_doLineOut 212 = .ok (.iload_n 3, 1) := by decide +kernel
theorem dX5_doLineOut_213 : decode cX5_doLineOut 213 = .ok (.aload_n 1, 1) := by decide +kernel
theorem dX5_doLineOut_214 : decode cX5_doLineOut 214 = .ok (.iconst 3, 1) := by decide +kernel
theorem dX5_doLineOut_215 : decode cX5_doLineOut 215 = .ok (.invokevirtual 313, 3) := by decide +kernel
theorem dX5_doLineOut_218 : decode cX5_doLineOut 218 = .ok (.invokevirtual 198, 3) := by decide +kernel
theorem dX5_doLineOut_221 : decode cX5_doLineOut 221 = .ok (.pop, 1) := by decide +kernel
