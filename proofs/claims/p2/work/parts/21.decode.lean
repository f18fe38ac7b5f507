/-! Decode rows; written by wip/tools/gen.py. -/
theorem d_Me_byteAt_0 : decode prog_7_method_2_code 0 = .ok (.iload_n 1, 1) := by decide +kernel
theorem d_Me_byteAt_1 : decode prog_7_method_2_code 1 = .ok (.ifCond .lt 10, 3) := by decide +kernel
theorem d_Me_byteAt_4 : decode prog_7_method_2_code 4 = .ok (.iload_n 1, 1) := by decide +kernel
theorem d_Me_byteAt_5 : decode prog_7_method_2_code 5 = .ok (.sipush 512, 3) := by decide +kernel
theorem d_Me_byteAt_8 : decode prog_7_method_2_code 8 = .ok (.if_icmp .lt 11, 3) := by decide +kernel
theorem d_Me_byteAt_11 : decode prog_7_method_2_code 11 = .ok (.new 13, 3) := by decide +kernel
theorem d_Me_byteAt_14 : decode prog_7_method_2_code 14 = .ok (.dup, 1) := by decide +kernel
theorem d_Me_byteAt_15 : decode prog_7_method_2_code 15 = .ok (.invokespecial 15, 3) := by decide +kernel
theorem d_Me_byteAt_18 : decode prog_7_method_2_code 18 = .ok (.athrow, 1) := by decide +kernel
theorem d_Me_byteAt_19 : decode prog_7_method_2_code 19 = .ok (.aload_n 0, 1) := by decide +kernel
theorem d_Me_byteAt_20 : decode prog_7_method_2_code 20 = .ok (.getfield 9, 3) := by decide +kernel
theorem d_Me_byteAt_23 : decode prog_7_method_2_code 23 = .ok (.iload_n 1, 1) := by decide +kernel
theorem d_Me_byteAt_24 : decode prog_7_method_2_code 24 = .ok (.iaload, 1) := by decide +kernel
theorem d_Me_byteAt_25 : decode prog_7_method_2_code 25 = .ok (.ireturn, 1) := by decide +kernel
theorem d_Me_wordAt_0 : decode prog_7_method_3_code 0 = .ok (.iload_n 1, 1) := by decide +kernel
theorem d_Me_wordAt_1 : decode prog_7_method_3_code 1 = .ok (.ifCond .lt 10, 3) := by decide +kernel
theorem d_Me_wordAt_4 : decode prog_7_method_3_code 4 = .ok (.iload_n 1, 1) := by decide +kernel
theorem d_Me_wordAt_5 : decode prog_7_method_3_code 5 = .ok (.sipush 511, 3) := by decide +kernel
theorem d_Me_wordAt_8 : decode prog_7_method_3_code 8 = .ok (.if_icmp .lt 11, 3) := by decide +kernel
theorem d_Me_wordAt_11 : decode prog_7_method_3_code 11 = .ok (.new 13, 3) := by decide +kernel
theorem d_Me_wordAt_14 : decode prog_7_method_3_code 14 = .ok (.dup, 1) := by decide +kernel
theorem d_Me_wordAt_15 : decode prog_7_method_3_code 15 = .ok (.invokespecial 15, 3) := by decide +kernel
theorem d_Me_wordAt_18 : decode prog_7_method_3_code 18 = .ok (.athrow, 1) := by decide +kernel
theorem d_Me_wordAt_19 : decode prog_7_method_3_code 19 = .ok (.sipush 256, 3) := by decide +kernel
theorem d_Me_wordAt_22 : decode prog_7_method_3_code 22 = .ok (.aload_n 0, 1) := by decide +kernel
theorem d_Me_wordAt_23 : decode prog_7_method_3_code 23 = .ok (.getfield 9, 3) := by decide +kernel
theorem d_Me_wordAt_26 : decode prog_7_method_3_code 26 = .ok (.iload_n 1, 1) := by decide +kernel
theorem d_Me_wordAt_27 : decode prog_7_method_3_code 27 = .ok (.iaload, 1) := by decide +kernel
theorem d_Me_wordAt_28 : decode prog_7_method_3_code 28 = .ok (.imul, 1) := by decide +kernel
theorem d_Me_wordAt_29 : decode prog_7_method_3_code 29 = .ok (.aload_n 0, 1) := by decide +kernel
theorem d_Me_wordAt_30 : decode prog_7_method_3_code 30 = .ok (.getfield 9, 3) := by decide +kernel
theorem d_Me_wordAt_33 : decode prog_7_method_3_code 33 = .ok (.iload_n 1, 1) := by decide +kernel
theorem d_Me_wordAt_34 : decode prog_7_method_3_code 34 = .ok (.iconst 1, 1) := by decide +kernel
theorem d_Me_wordAt_35 : decode prog_7_method_3_code 35 = .ok (.iadd, 1) := by decide +kernel
theorem d_Me_wordAt_36 : decode prog_7_method_3_code 36 = .ok (.iaload, 1) := by decide +kernel
theorem d_Me_wordAt_37 : decode prog_7_method_3_code 37 = .ok (.iadd, 1) := by decide +kernel
theorem d_Me_wordAt_38 : decode prog_7_method_3_code 38 = .ok (.ireturn, 1) := by decide +kernel
theorem d_Me_mayWrite_0 : decode prog_7_method_6_code 0 = .ok (.sipush 256, 3) := by decide +kernel
theorem d_Me_mayWrite_3 : decode prog_7_method_6_code 3 = .ok (.aload_n 0, 1) := by decide +kernel
theorem d_Me_mayWrite_4 : decode prog_7_method_6_code 4 = .ok (.getfield 9, 3) := by decide +kernel
theorem d_Me_mayWrite_7 : decode prog_7_method_6_code 7 = .ok (.bipush 12, 2) := by decide +kernel
theorem d_Me_mayWrite_9 : decode prog_7_method_6_code 9 = .ok (.iaload, 1) := by decide +kernel
theorem d_Me_mayWrite_10 : decode prog_7_method_6_code 10 = .ok (.imul, 1) := by decide +kernel
theorem d_Me_mayWrite_11 : decode prog_7_method_6_code 11 = .ok (.aload_n 0, 1) := by decide +kernel
theorem d_Me_mayWrite_12 : decode prog_7_method_6_code 12 = .ok (.getfield 9, 3) := by decide +kernel
theorem d_Me_mayWrite_15 : decode prog_7_method_6_code 15 = .ok (.bipush 13, 2) := by decide +kernel
theorem d_Me_mayWrite_17 : decode prog_7_method_6_code 17 = .ok (.iaload, 1) := by decide +kernel
theorem d_Me_mayWrite_18 : decode prog_7_method_6_code 18 = .ok (.iadd, 1) := by decide +kernel
theorem d_Me_mayWrite_19 : decode prog_7_method_6_code 19 = .ok (.istore_n 3, 1) := by decide +kernel
theorem d_Me_mayWrite_20 : decode prog_7_method_6_code 20 = .ok (.iload_n 1, 1) := by decide +kernel
theorem d_Me_mayWrite_21 : decode prog_7_method_6_code 21 = .ok (.bipush 16, 2) := by decide +kernel
theorem d_Me_mayWrite_23 : decode prog_7_method_6_code 23 = .ok (.if_icmp .lt 23, 3) := by decide +kernel
theorem d_Me_mayWrite_26 : decode prog_7_method_6_code 26 = .ok (.iload_n 1, 1) := by decide +kernel
theorem d_Me_mayWrite_27 : decode prog_7_method_6_code 27 = .ok (.sipush 512, 3) := by decide +kernel
theorem d_Me_mayWrite_30 : decode prog_7_method_6_code 30 = .ok (.iload_n 2, 1) := by decide +kernel
theorem d_Me_mayWrite_31 : decode prog_7_method_6_code 31 = .ok (.isub, 1) := by decide +kernel
theorem d_Me_mayWrite_32 : decode prog_7_method_6_code 32 = .ok (.if_icmp .gt 14, 3) := by decide +kernel
theorem d_Me_mayWrite_35 : decode prog_7_method_6_code 35 = .ok (.iload_n 1, 1) := by decide +kernel
theorem d_Me_mayWrite_36 : decode prog_7_method_6_code 36 = .ok (.iload_n 3, 1) := by decide +kernel
theorem d_Me_mayWrite_37 : decode prog_7_method_6_code 37 = .ok (.iload_n 2, 1) := by decide +kernel
theorem d_Me_mayWrite_38 : decode prog_7_method_6_code 38 = .ok (.isub, 1) := by decide +kernel
theorem d_Me_mayWrite_39 : decode prog_7_method_6_code 39 = .ok (.if_icmp .gt 7, 3) := by decide +kernel
theorem d_Me_mayWrite_42 : decode prog_7_method_6_code 42 = .ok (.iconst 1, 1) := by decide +kernel
theorem d_Me_mayWrite_43 : decode prog_7_method_6_code 43 = .ok (.goto 4, 3) := by decide +kernel
theorem d_Me_mayWrite_46 : decode prog_7_method_6_code 46 = .ok (.iconst 0, 1) := by decide +kernel
theorem d_Me_mayWrite_47 : decode prog_7_method_6_code 47 = .ok (.ireturn, 1) := by decide +kernel
theorem d_Me_writeByte_0 : decode prog_7_method_4_code 0 = .ok (.aload_n 0, 1) := by decide +kernel
theorem d_Me_writeByte_1 : decode prog_7_method_4_code 1 = .ok (.iload_n 1, 1) := by decide +kernel
theorem d_Me_writeByte_2 : decode prog_7_method_4_code 2 = .ok (.iconst 1, 1) := by decide +kernel
theorem d_Me_writeByte_3 : decode prog_7_method_4_code 3 = .ok (.invokevirtual 16, 3) := by decide +kernel
theorem d_Me_writeByte_6 : decode prog_7_method_4_code 6 = .ok (.ifCond .ne 11, 3) := by decide +kernel
theorem d_Me_writeByte_9 : decode prog_7_method_4_code 9 = .ok (.new 13, 3) := by decide +kernel
theorem d_Me_writeByte_12 : decode prog_7_method_4_code 12 = .ok (.dup, 1) := by decide +kernel
theorem d_Me_writeByte_13 : decode prog_7_method_4_code 13 = .ok (.invokespecial 15, 3) := by decide +kernel
theorem d_Me_writeByte_16 : decode prog_7_method_4_code 16 = .ok (.athrow, 1) := by decide +kernel
theorem d_Me_writeByte_17 : decode prog_7_method_4_code 17 = .ok (.aload_n 0, 1) := by decide +kernel
theorem d_Me_writeByte_18 : decode prog_7_method_4_code 18 = .ok (.getfield 9, 3) := by decide +kernel
theorem d_Me_writeByte_21 : decode prog_7_method_4_code 21 = .ok (.iload_n 1, 1) := by decide +kernel
theorem d_Me_writeByte_22 : decode prog_7_method_4_code 22 = .ok (.iload_n 2, 1) := by decide +kernel
theorem d_Me_writeByte_23 : decode prog_7_method_4_code 23 = .ok (.sipush 255, 3) := by decide +kernel
theorem d_Me_writeByte_26 : decode prog_7_method_4_code 26 = .ok (.iand, 1) := by decide +kernel
theorem d_Me_writeByte_27 : decode prog_7_method_4_code 27 = .ok (.iastore, 1) := by decide +kernel
theorem d_Me_writeByte_28 : decode prog_7_method_4_code 28 = .ok (.return_, 1) := by decide +kernel
theorem d_Me_writeWord_0 : decode prog_7_method_5_code 0 = .ok (.aload_n 0, 1) := by decide +kernel
theorem d_Me_writeWord_1 : decode prog_7_method_5_code 1 = .ok (.iload_n 1, 1) := by decide +kernel
theorem d_Me_writeWord_2 : decode prog_7_method_5_code 2 = .ok (.iconst 2, 1) := by decide +kernel
theorem d_Me_writeWord_3 : decode prog_7_method_5_code 3 = .ok (.invokevirtual 16, 3) := by decide +kernel
theorem d_Me_writeWord_6 : decode prog_7_method_5_code 6 = .ok (.ifCond .ne 11, 3) := by decide +kernel
theorem d_Me_writeWord_9 : decode prog_7_method_5_code 9 = .ok (.new 13, 3) := by decide +kernel
theorem d_Me_writeWord_12 : decode prog_7_method_5_code 12 = .ok (.dup, 1) := by decide +kernel
theorem d_Me_writeWord_13 : decode prog_7_method_5_code 13 = .ok (.invokespecial 15, 3) := by decide +kernel
theorem d_Me_writeWord_16 : decode prog_7_method_5_code 16 = .ok (.athrow, 1) := by decide +kernel
theorem d_Me_writeWord_17 : decode prog_7_method_5_code 17 = .ok (.aload_n 0, 1) := by decide +kernel
theorem d_Me_writeWord_18 : decode prog_7_method_5_code 18 = .ok (.getfield 9, 3) := by decide +kernel
theorem d_Me_writeWord_21 : decode prog_7_method_5_code 21 = .ok (.iload_n 1, 1) := by decide +kernel
theorem d_Me_writeWord_22 : decode prog_7_method_5_code 22 = .ok (.iload_n 2, 1) := by decide +kernel
theorem d_Me_writeWord_23 : decode prog_7_method_5_code 23 = .ok (.bipush 8, 2) := by decide +kernel
theorem d_Me_writeWord_25 : decode prog_7_method_5_code 25 = .ok (.ishr, 1) := by decide +kernel
theorem d_Me_writeWord_26 : decode prog_7_method_5_code 26 = .ok (.sipush 255, 3) := by decide +kernel
theorem d_Me_writeWord_29 : decode prog_7_method_5_code 29 = .ok (.iand, 1) := by decide +kernel
theorem d_Me_writeWord_30 : decode prog_7_method_5_code 30 = .ok (.iastore, 1) := by decide +kernel
theorem d_Me_writeWord_31 : decode prog_7_method_5_code 31 = .ok (.aload_n 0, 1) := by decide +kernel
theorem d_Me_writeWord_32 : decode prog_7_method_5_code 32 = .ok (.getfield 9, 3) := by decide +kernel
theorem d_Me_writeWord_35 : decode prog_7_method_5_code 35 = .ok (.iload_n 1, 1) := by decide +kernel
theorem d_Me_writeWord_36 : decode prog_7_method_5_code 36 = .ok (.iconst 1, 1) := by decide +kernel
theorem d_Me_writeWord_37 : decode prog_7_method_5_code 37 = .ok (.iadd, 1) := by decide +kernel
theorem d_Me_writeWord_38 : decode prog_7_method_5_code 38 = .ok (.iload_n 2, 1) := by decide +kernel
theorem d_Me_writeWord_39 : decode prog_7_method_5_code 39 = .ok (.sipush 255, 3) := by decide +kernel
theorem d_Me_writeWord_42 : decode prog_7_method_5_code 42 = .ok (.iand, 1) := by decide +kernel
theorem d_Me_writeWord_43 : decode prog_7_method_5_code 43 = .ok (.iastore, 1) := by decide +kernel
theorem d_Me_writeWord_44 : decode prog_7_method_5_code 44 = .ok (.return_, 1) := by decide +kernel
theorem d_Me_copyFrom_0 : decode prog_7_method_7_code 0 = .ok (.aload_n 1, 1) := by decide +kernel
theorem d_Me_copyFrom_1 : decode prog_7_method_7_code 1 = .ok (.getfield 9, 3) := by decide +kernel
theorem d_Me_copyFrom_4 : decode prog_7_method_7_code 4 = .ok (.iconst 0, 1) := by decide +kernel
theorem d_Me_copyFrom_5 : decode prog_7_method_7_code 5 = .ok (.aload_n 0, 1) := by decide +kernel
theorem d_Me_copyFrom_6 : decode prog_7_method_7_code 6 = .ok (.getfield 9, 3) := by decide +kernel
theorem d_Me_copyFrom_9 : decode prog_7_method_7_code 9 = .ok (.iconst 0, 1) := by decide +kernel
theorem d_Me_copyFrom_10 : decode prog_7_method_7_code 10 = .ok (.sipush 512, 3) := by decide +kernel
theorem d_Me_copyFrom_13 : decode prog_7_method_7_code 13 = .ok (.invokestatic 20, 3) := by decide +kernel
theorem d_Me_copyFrom_16 : decode prog_7_method_7_code 16 = .ok (.return_, 1) := by decide +kernel
theorem d_Ro_copyFrom_0 : decode prog_9_method_15_code 0 = .ok (.aload_n 0, 1) := by decide +kernel
theorem d_Ro_copyFrom_1 : decode prog_9_method_15_code 1 = .ok (.aload_n 1, 1) := by decide +kernel
theorem d_Ro_copyFrom_2 : decode prog_9_method_15_code 2 = .ok (.getfield 28, 3) := by decide +kernel
theorem d_Ro_copyFrom_5 : decode prog_9_method_15_code 5 = .ok (.putfield 28, 3) := by decide +kernel
theorem d_Ro_copyFrom_8 : decode prog_9_method_15_code 8 = .ok (.aload_n 0, 1) := by decide +kernel
theorem d_Ro_copyFrom_9 : decode prog_9_method_15_code 9 = .ok (.aload_n 1, 1) := by decide +kernel
theorem d_Ro_copyFrom_10 : decode prog_9_method_15_code 10 = .ok (.getfield 32, 3) := by decide +kernel
theorem d_Ro_copyFrom_13 : decode prog_9_method_15_code 13 = .ok (.putfield 32, 3) := by decide +kernel
theorem d_Ro_copyFrom_16 : decode prog_9_method_15_code 16 = .ok (.aload_n 1, 1) := by decide +kernel
theorem d_Ro_copyFrom_17 : decode prog_9_method_15_code 17 = .ok (.getfield 9, 3) := by decide +kernel
theorem d_Ro_copyFrom_20 : decode prog_9_method_15_code 20 = .ok (.iconst 0, 1) := by decide +kernel
theorem d_Ro_copyFrom_21 : decode prog_9_method_15_code 21 = .ok (.aload_n 0, 1) := by decide +kernel
theorem d_Ro_copyFrom_22 : decode prog_9_method_15_code 22 = .ok (.getfield 9, 3) := by decide +kernel
theorem d_Ro_copyFrom_25 : decode prog_9_method_15_code 25 = .ok (.iconst 0, 1) := by decide +kernel
theorem d_Ro_copyFrom_26 : decode prog_9_method_15_code 26 = .ok (.aload_n 0, 1) := by decide +kernel
theorem d_Ro_copyFrom_27 : decode prog_9_method_15_code 27 = .ok (.getfield 9, 3) := by decide +kernel
theorem d_Ro_copyFrom_30 : decode prog_9_method_15_code 30 = .ok (.arraylength, 1) := by decide +kernel
theorem d_Ro_copyFrom_31 : decode prog_9_method_15_code 31 = .ok (.invokestatic 49, 3) := by decide +kernel
theorem d_Ro_copyFrom_34 : decode prog_9_method_15_code 34 = .ok (.aload_n 1, 1) := by decide +kernel
theorem d_Ro_copyFrom_35 : decode prog_9_method_15_code 35 = .ok (.getfield 13, 3) := by decide +kernel
theorem d_Ro_copyFrom_38 : decode prog_9_method_15_code 38 = .ok (.iconst 0, 1) := by decide +kernel
theorem d_Ro_copyFrom_39 : decode prog_9_method_15_code 39 = .ok (.aload_n 0, 1) := by decide +kernel
theorem d_Ro_copyFrom_40 : decode prog_9_method_15_code 40 = .ok (.getfield 13, 3) := by decide +kernel
theorem d_Ro_copyFrom_43 : decode prog_9_method_15_code 43 = .ok (.iconst 0, 1) := by decide +kernel
theorem d_Ro_copyFrom_44 : decode prog_9_method_15_code 44 = .ok (.aload_n 0, 1) := by decide +kernel
theorem d_Ro_copyFrom_45 : decode prog_9_method_15_code 45 = .ok (.getfield 13, 3) := by decide +kernel
theorem d_Ro_copyFrom_48 : decode prog_9_method_15_code 48 = .ok (.arraylength, 1) := by decide +kernel
theorem d_Ro_copyFrom_49 : decode prog_9_method_15_code 49 = .ok (.invokestatic 49, 3) := by decide +kernel
theorem d_Ro_copyFrom_52 : decode prog_9_method_15_code 52 = .ok (.aload_n 1, 1) := by decide +kernel
theorem d_Ro_copyFrom_53 : decode prog_9_method_15_code 53 = .ok (.getfield 16, 3) := by decide +kernel
theorem d_Ro_copyFrom_56 : decode prog_9_method_15_code 56 = .ok (.iconst 0, 1) := by decide +kernel
theorem d_Ro_copyFrom_57 : decode prog_9_method_15_code 57 = .ok (.aload_n 0, 1) := by decide +kernel
theorem d_Ro_copyFrom_58 : decode prog_9_method_15_code 58 = .ok (.getfield 16, 3) := by decide +kernel
theorem d_Ro_copyFrom_61 : decode prog_9_method_15_code 61 = .ok (.iconst 0, 1) := by decide +kernel
theorem d_Ro_copyFrom_62 : decode prog_9_method_15_code 62 = .ok (.aload_n 0, 1) := by decide +kernel
theorem d_Ro_copyFrom_63 : decode prog_9_method_15_code 63 = .ok (.getfield 16, 3) := by decide +kernel
theorem d_Ro_copyFrom_66 : decode prog_9_method_15_code 66 = .ok (.arraylength, 1) := by decide +kernel
theorem d_Ro_copyFrom_67 : decode prog_9_method_15_code 67 = .ok (.invokestatic 49, 3) := by decide +kernel
theorem d_Ro_copyFrom_70 : decode prog_9_method_15_code 70 = .ok (.aload_n 1, 1) := by decide +kernel
theorem d_Ro_copyFrom_71 : decode prog_9_method_15_code 71 = .ok (.getfield 19, 3) := by decide +kernel
theorem d_Ro_copyFrom_74 : decode prog_9_method_15_code 74 = .ok (.iconst 0, 1) := by decide +kernel
theorem d_Ro_copyFrom_75 : decode prog_9_method_15_code 75 = .ok (.aload_n 0, 1) := by decide +kernel
theorem d_Ro_copyFrom_76 : decode prog_9_method_15_code 76 = .ok (.getfield 19, 3) := by decide +kernel
theorem d_Ro_copyFrom_79 : decode prog_9_method_15_code 79 = .ok (.iconst 0, 1) := by decide +kernel
theorem d_Ro_copyFrom_80 : decode prog_9_method_15_code 80 = .ok (.aload_n 0, 1) := by decide +kernel
theorem d_Ro_copyFrom_81 : decode prog_9_method_15_code 81 = .ok (.getfield 19, 3) := by decide +kernel
theorem d_Ro_copyFrom_84 : decode prog_9_method_15_code 84 = .ok (.arraylength, 1) := by decide +kernel
theorem d_Ro_copyFrom_85 : decode prog_9_method_15_code 85 = .ok (.invokestatic 49, 3) := by decide +kernel
theorem d_Ro_copyFrom_88 : decode prog_9_method_15_code 88 = .ok (.aload_n 1, 1) := by decide +kernel
theorem d_Ro_copyFrom_89 : decode prog_9_method_15_code 89 = .ok (.getfield 22, 3) := by decide +kernel
theorem d_Ro_copyFrom_92 : decode prog_9_method_15_code 92 = .ok (.iconst 0, 1) := by decide +kernel
theorem d_Ro_copyFrom_93 : decode prog_9_method_15_code 93 = .ok (.aload_n 0, 1) := by decide +kernel
theorem d_Ro_copyFrom_94 : decode prog_9_method_15_code 94 = .ok (.getfield 22, 3) := by decide +kernel
theorem d_Ro_copyFrom_97 : decode prog_9_method_15_code 97 = .ok (.iconst 0, 1) := by decide +kernel
theorem d_Ro_copyFrom_98 : decode prog_9_method_15_code 98 = .ok (.aload_n 0, 1) := by decide +kernel
theorem d_Ro_copyFrom_99 : decode prog_9_method_15_code 99 = .ok (.getfield 22, 3) := by decide +kernel
theorem d_Ro_copyFrom_102 : decode prog_9_method_15_code 102 = .ok (.arraylength, 1) := by decide +kernel
theorem d_Ro_copyFrom_103 : decode prog_9_method_15_code 103 = .ok (.invokestatic 49, 3) := by decide +kernel
theorem d_Ro_copyFrom_106 : decode prog_9_method_15_code 106 = .ok (.aload_n 1, 1) := by decide +kernel
theorem d_Ro_copyFrom_107 : decode prog_9_method_15_code 107 = .ok (.getfield 25, 3) := by decide +kernel
theorem d_Ro_copyFrom_110 : decode prog_9_method_15_code 110 = .ok (.iconst 0, 1) := by decide +kernel
theorem d_Ro_copyFrom_111 : decode prog_9_method_15_code 111 = .ok (.aload_n 0, 1) := by decide +kernel
theorem d_Ro_copyFrom_112 : decode prog_9_method_15_code 112 = .ok (.getfield 25, 3) := by decide +kernel
theorem d_Ro_copyFrom_115 : decode prog_9_method_15_code 115 = .ok (.iconst 0, 1) := by decide +kernel
theorem d_Ro_copyFrom_116 : decode prog_9_method_15_code 116 = .ok (.aload_n 0, 1) := by decide +kernel
theorem d_Ro_copyFrom_117 : decode prog_9_method_15_code 117 = .ok (.getfield 25, 3) := by decide +kernel
theorem d_Ro_copyFrom_120 : decode prog_9_method_15_code 120 = .ok (.arraylength, 1) := by decide +kernel
theorem d_Ro_copyFrom_121 : decode prog_9_method_15_code 121 = .ok (.invokestatic 49, 3) := by decide +kernel
theorem d_Ro_copyFrom_124 : decode prog_9_method_15_code 124 = .ok (.return_, 1) := by decide +kernel
theorem d_Ro_clear_0 : decode prog_9_method_2_code 0 = .ok (.aload_n 0, 1) := by decide +kernel
theorem d_Ro_clear_1 : decode prog_9_method_2_code 1 = .ok (.iconst 0, 1) := by decide +kernel
theorem d_Ro_clear_2 : decode prog_9_method_2_code 2 = .ok (.putfield 28, 3) := by decide +kernel
theorem d_Ro_clear_5 : decode prog_9_method_2_code 5 = .ok (.aload_n 0, 1) := by decide +kernel
theorem d_Ro_clear_6 : decode prog_9_method_2_code 6 = .ok (.iconst 0, 1) := by decide +kernel
theorem d_Ro_clear_7 : decode prog_9_method_2_code 7 = .ok (.putfield 32, 3) := by decide +kernel
theorem d_Ro_clear_10 : decode prog_9_method_2_code 10 = .ok (.aload_n 0, 1) := by decide +kernel
theorem d_Ro_clear_11 : decode prog_9_method_2_code 11 = .ok (.getfield 13, 3) := by decide +kernel
theorem d_Ro_clear_14 : decode prog_9_method_2_code 14 = .ok (.iconst 0, 1) := by decide +kernel
theorem d_Ro_clear_15 : decode prog_9_method_2_code 15 = .ok (.iconst 0, 1) := by decide +kernel
theorem d_Ro_clear_16 : decode prog_9_method_2_code 16 = .ok (.iastore, 1) := by decide +kernel
theorem d_Ro_clear_17 : decode prog_9_method_2_code 17 = .ok (.aload_n 0, 1) := by decide +kernel
theorem d_Ro_clear_18 : decode prog_9_method_2_code 18 = .ok (.getfield 22, 3) := by decide +kernel
theorem d_Ro_clear_21 : decode prog_9_method_2_code 21 = .ok (.iconst 0, 1) := by decide +kernel
theorem d_Ro_clear_22 : decode prog_9_method_2_code 22 = .ok (.iconst 0, 1) := by decide +kernel
theorem d_Ro_clear_23 : decode prog_9_method_2_code 23 = .ok (.iastore, 1) := by decide +kernel
theorem d_Ro_clear_24 : decode prog_9_method_2_code 24 = .ok (.return_, 1) := by decide +kernel
theorem d_Ro_push_0 : decode prog_9_method_3_code 0 = .ok (.aload_n 0, 1) := by decide +kernel
theorem d_Ro_push_1 : decode prog_9_method_3_code 1 = .ok (.getfield 28, 3) := by decide +kernel
theorem d_Ro_push_4 : decode prog_9_method_3_code 4 = .ok (.bipush 48, 2) := by decide +kernel
theorem d_Ro_push_6 : decode prog_9_method_3_code 6 = .ok (.if_icmp .lt 11, 3) := by decide +kernel
theorem d_Ro_push_9 : decode prog_9_method_3_code 9 = .ok (.new 35, 3) := by decide +kernel
theorem d_Ro_push_12 : decode prog_9_method_3_code 12 = .ok (.dup, 1) := by decide +kernel
theorem d_Ro_push_13 : decode prog_9_method_3_code 13 = .ok (.invokespecial 37, 3) := by decide +kernel
theorem d_Ro_push_16 : decode prog_9_method_3_code 16 = .ok (.athrow, 1) := by decide +kernel
theorem d_Ro_push_17 : decode prog_9_method_3_code 17 = .ok (.aload_n 0, 1) := by decide +kernel
theorem d_Ro_push_18 : decode prog_9_method_3_code 18 = .ok (.getfield 9, 3) := by decide +kernel
theorem d_Ro_push_21 : decode prog_9_method_3_code 21 = .ok (.aload_n 0, 1) := by decide +kernel
theorem d_Ro_push_22 : decode prog_9_method_3_code 22 = .ok (.getfield 28, 3) := by decide +kernel
theorem d_Ro_push_25 : decode prog_9_method_3_code 25 = .ok (.iload_n 1, 1) := by decide +kernel
theorem d_Ro_push_26 : decode prog_9_method_3_code 26 = .ok (.ldc 38, 2) := by decide +kernel
theorem d_Ro_push_28 : decode prog_9_method_3_code 28 = .ok (.iand, 1) := by decide +kernel
theorem d_Ro_push_29 : decode prog_9_method_3_code 29 = .ok (.iastore, 1) := by decide +kernel
theorem d_Ro_push_30 : decode prog_9_method_3_code 30 = .ok (.aload_n 0, 1) := by decide +kernel
theorem d_Ro_push_31 : decode prog_9_method_3_code 31 = .ok (.dup, 1) := by decide +kernel
theorem d_Ro_push_32 : decode prog_9_method_3_code 32 = .ok (.getfield 28, 3) := by decide +kernel
theorem d_Ro_push_35 : decode prog_9_method_3_code 35 = .ok (.iconst 1, 1) := by decide +kernel
theorem d_Ro_push_36 : decode prog_9_method_3_code 36 = .ok (.iadd, 1) := by decide +kernel
theorem d_Ro_push_37 : decode prog_9_method_3_code 37 = .ok (.putfield 28, 3) := by decide +kernel
theorem d_Ro_push_40 : decode prog_9_method_3_code 40 = .ok (.return_, 1) := by decide +kernel
theorem d_Ro_top_0 : decode prog_9_method_5_code 0 = .ok (.aload_n 0, 1) := by decide +kernel
theorem d_Ro_top_1 : decode prog_9_method_5_code 1 = .ok (.getfield 28, 3) := by decide +kernel
theorem d_Ro_top_4 : decode prog_9_method_5_code 4 = .ok (.aload_n 0, 1) := by decide +kernel
theorem d_Ro_top_5 : decode prog_9_method_5_code 5 = .ok (.getfield 13, 3) := by decide +kernel
theorem d_Ro_top_8 : decode prog_9_method_5_code 8 = .ok (.aload_n 0, 1) := by decide +kernel
theorem d_Ro_top_9 : decode prog_9_method_5_code 9 = .ok (.getfield 32, 3) := by decide +kernel
theorem d_Ro_top_12 : decode prog_9_method_5_code 12 = .ok (.iaload, 1) := by decide +kernel
theorem d_Ro_top_13 : decode prog_9_method_5_code 13 = .ok (.if_icmp .gt 11, 3) := by decide +kernel
theorem d_Ro_top_16 : decode prog_9_method_5_code 16 = .ok (.new 35, 3) := by decide +kernel
theorem d_Ro_top_19 : decode prog_9_method_5_code 19 = .ok (.dup, 1) := by decide +kernel
theorem d_Ro_top_20 : decode prog_9_method_5_code 20 = .ok (.invokespecial 37, 3) := by decide +kernel
theorem d_Ro_top_23 : decode prog_9_method_5_code 23 = .ok (.athrow, 1) := by decide +kernel
theorem d_Ro_top_24 : decode prog_9_method_5_code 24 = .ok (.aload_n 0, 1) := by decide +kernel
theorem d_Ro_top_25 : decode prog_9_method_5_code 25 = .ok (.getfield 9, 3) := by decide +kernel
theorem d_Ro_top_28 : decode prog_9_method_5_code 28 = .ok (.aload_n 0, 1) := by decide +kernel
theorem d_Ro_top_29 : decode prog_9_method_5_code 29 = .ok (.getfield 28, 3) := by decide +kernel
theorem d_Ro_top_32 : decode prog_9_method_5_code 32 = .ok (.iconst 1, 1) := by decide +kernel
theorem d_Ro_top_33 : decode prog_9_method_5_code 33 = .ok (.isub, 1) := by decide +kernel
theorem d_Ro_top_34 : decode prog_9_method_5_code 34 = .ok (.iaload, 1) := by decide +kernel
theorem d_Ro_top_35 : decode prog_9_method_5_code 35 = .ok (.ireturn, 1) := by decide +kernel
theorem d_Ro_pop_0 : decode prog_9_method_4_code 0 = .ok (.aload_n 0, 1) := by decide +kernel
theorem d_Ro_pop_1 : decode prog_9_method_4_code 1 = .ok (.invokevirtual 39, 3) := by decide +kernel
theorem d_Ro_pop_4 : decode prog_9_method_4_code 4 = .ok (.istore_n 1, 1) := by decide +kernel
theorem d_Ro_pop_5 : decode prog_9_method_4_code 5 = .ok (.aload_n 0, 1) := by decide +kernel
theorem d_Ro_pop_6 : decode prog_9_method_4_code 6 = .ok (.dup, 1) := by decide +kernel
theorem d_Ro_pop_7 : decode prog_9_method_4_code 7 = .ok (.getfield 28, 3) := by decide +kernel
theorem d_Ro_pop_10 : decode prog_9_method_4_code 10 = .ok (.iconst 1, 1) := by decide +kernel
theorem d_Ro_pop_11 : decode prog_9_method_4_code 11 = .ok (.isub, 1) := by decide +kernel
theorem d_Ro_pop_12 : decode prog_9_method_4_code 12 = .ok (.putfield 28, 3) := by decide +kernel
theorem d_Ro_pop_15 : decode prog_9_method_4_code 15 = .ok (.iload_n 1, 1) := by decide +kernel
theorem d_Ro_pop_16 : decode prog_9_method_4_code 16 = .ok (.ireturn, 1) := by decide +kernel
theorem d_Ro_replaceTop_0 : decode prog_9_method_6_code 0 = .ok (.aload_n 0, 1) := by decide +kernel
theorem d_Ro_replaceTop_1 : decode prog_9_method_6_code 1 = .ok (.getfield 28, 3) := by decide +kernel
theorem d_Ro_replaceTop_4 : decode prog_9_method_6_code 4 = .ok (.aload_n 0, 1) := by decide +kernel
theorem d_Ro_replaceTop_5 : decode prog_9_method_6_code 5 = .ok (.getfield 13, 3) := by decide +kernel
theorem d_Ro_replaceTop_8 : decode prog_9_method_6_code 8 = .ok (.aload_n 0, 1) := by decide +kernel
theorem d_Ro_replaceTop_9 : decode prog_9_method_6_code 9 = .ok (.getfield 32, 3) := by decide +kernel
theorem d_Ro_replaceTop_12 : decode prog_9_method_6_code 12 = .ok (.iaload, 1) := by decide +kernel
theorem d_Ro_replaceTop_13 : decode prog_9_method_6_code 13 = .ok (.if_icmp .gt 11, 3) := by decide +kernel
theorem d_Ro_replaceTop_16 : decode prog_9_method_6_code 16 = .ok (.new 35, 3) := by decide +kernel
theorem d_Ro_replaceTop_19 : decode prog_9_method_6_code 19 = .ok (.dup, 1) := by decide +kernel
theorem d_Ro_replaceTop_20 : decode prog_9_method_6_code 20 = .ok (.invokespecial 37, 3) := by decide +kernel
theorem d_Ro_replaceTop_23 : decode prog_9_method_6_code 23 = .ok (.athrow, 1) := by decide +kernel
theorem d_Ro_replaceTop_24 : decode prog_9_method_6_code 24 = .ok (.aload_n 0, 1) := by decide +kernel
theorem d_Ro_replaceTop_25 : decode prog_9_method_6_code 25 = .ok (.getfield 9, 3) := by decide +kernel
theorem d_Ro_replaceTop_28 : decode prog_9_method_6_code 28 = .ok (.aload_n 0, 1) := by decide +kernel
theorem d_Ro_replaceTop_29 : decode prog_9_method_6_code 29 = .ok (.getfield 28, 3) := by decide +kernel
theorem d_Ro_replaceTop_32 : decode prog_9_method_6_code 32 = .ok (.iconst 1, 1) := by decide +kernel
theorem d_Ro_replaceTop_33 : decode prog_9_method_6_code 33 = .ok (.isub, 1) := by decide +kernel
theorem d_Ro_replaceTop_34 : decode prog_9_method_6_code 34 = .ok (.iload_n 1, 1) := by decide +kernel
theorem d_Ro_replaceTop_35 : decode prog_9_method_6_code 35 = .ok (.ldc 38, 2) := by decide +kernel
theorem d_Ro_replaceTop_37 : decode prog_9_method_6_code 37 = .ok (.iand, 1) := by decide +kernel
theorem d_Ro_replaceTop_38 : decode prog_9_method_6_code 38 = .ok (.iastore, 1) := by decide +kernel
theorem d_Ro_replaceTop_39 : decode prog_9_method_6_code 39 = .ok (.return_, 1) := by decide +kernel
theorem d_Ro_localCount_0 : decode prog_9_method_7_code 0 = .ok (.aload_n 0, 1) := by decide +kernel
theorem d_Ro_localCount_1 : decode prog_9_method_7_code 1 = .ok (.getfield 22, 3) := by decide +kernel
theorem d_Ro_localCount_4 : decode prog_9_method_7_code 4 = .ok (.aload_n 0, 1) := by decide +kernel
theorem d_Ro_localCount_5 : decode prog_9_method_7_code 5 = .ok (.getfield 32, 3) := by decide +kernel
theorem d_Ro_localCount_8 : decode prog_9_method_7_code 8 = .ok (.iaload, 1) := by decide +kernel
theorem d_Ro_localCount_9 : decode prog_9_method_7_code 9 = .ok (.ireturn, 1) := by decide +kernel
theorem d_Ro_localValue_0 : decode prog_9_method_8_code 0 = .ok (.iload_n 1, 1) := by decide +kernel
theorem d_Ro_localValue_1 : decode prog_9_method_8_code 1 = .ok (.iconst 1, 1) := by decide +kernel
theorem d_Ro_localValue_2 : decode prog_9_method_8_code 2 = .ok (.if_icmp .lt 16, 3) := by decide +kernel
theorem d_Ro_localValue_5 : decode prog_9_method_8_code 5 = .ok (.iload_n 1, 1) := by decide +kernel
theorem d_Ro_localValue_6 : decode prog_9_method_8_code 6 = .ok (.aload_n 0, 1) := by decide +kernel
theorem d_Ro_localValue_7 : decode prog_9_method_8_code 7 = .ok (.getfield 22, 3) := by decide +kernel
theorem d_Ro_localValue_10 : decode prog_9_method_8_code 10 = .ok (.aload_n 0, 1) := by decide +kernel
theorem d_Ro_localValue_11 : decode prog_9_method_8_code 11 = .ok (.getfield 32, 3) := by decide +kernel
theorem d_Ro_localValue_14 : decode prog_9_method_8_code 14 = .ok (.iaload, 1) := by decide +kernel
theorem d_Ro_localValue_15 : decode prog_9_method_8_code 15 = .ok (.if_icmp .le 11, 3) := by decide +kernel
theorem d_Ro_localValue_18 : decode prog_9_method_8_code 18 = .ok (.new 43, 3) := by decide +kernel
theorem d_Ro_localValue_21 : decode prog_9_method_8_code 21 = .ok (.dup, 1) := by decide +kernel
theorem d_Ro_localValue_22 : decode prog_9_method_8_code 22 = .ok (.invokespecial 45, 3) := by decide +kernel
theorem d_Ro_localValue_25 : decode prog_9_method_8_code 25 = .ok (.athrow, 1) := by decide +kernel
theorem d_Ro_localValue_26 : decode prog_9_method_8_code 26 = .ok (.aload_n 0, 1) := by decide +kernel
theorem d_Ro_localValue_27 : decode prog_9_method_8_code 27 = .ok (.getfield 25, 3) := by decide +kernel
theorem d_Ro_localValue_30 : decode prog_9_method_8_code 30 = .ok (.aload_n 0, 1) := by decide +kernel
theorem d_Ro_localValue_31 : decode prog_9_method_8_code 31 = .ok (.getfield 32, 3) := by decide +kernel
theorem d_Ro_localValue_34 : decode prog_9_method_8_code 34 = .ok (.bipush 15, 2) := by decide +kernel
theorem d_Ro_localValue_36 : decode prog_9_method_8_code 36 = .ok (.imul, 1) := by decide +kernel
theorem d_Ro_localValue_37 : decode prog_9_method_8_code 37 = .ok (.iload_n 1, 1) := by decide +kernel
theorem d_Ro_localValue_38 : decode prog_9_method_8_code 38 = .ok (.iadd, 1) := by decide +kernel
theorem d_Ro_localValue_39 : decode prog_9_method_8_code 39 = .ok (.iconst 1, 1) := by decide +kernel
theorem d_Ro_localValue_40 : decode prog_9_method_8_code 40 = .ok (.isub, 1) := by decide +kernel
theorem d_Ro_localValue_41 : decode prog_9_method_8_code 41 = .ok (.iaload, 1) := by decide +kernel
theorem d_Ro_localValue_42 : decode prog_9_method_8_code 42 = .ok (.ireturn, 1) := by decide +kernel
theorem d_Ro_setLocal_0 : decode prog_9_method_9_code 0 = .ok (.iload_n 1, 1) := by decide +kernel
theorem d_Ro_setLocal_1 : decode prog_9_method_9_code 1 = .ok (.iconst 1, 1) := by decide +kernel
theorem d_Ro_setLocal_2 : decode prog_9_method_9_code 2 = .ok (.if_icmp .lt 16, 3) := by decide +kernel
theorem d_Ro_setLocal_5 : decode prog_9_method_9_code 5 = .ok (.iload_n 1, 1) := by decide +kernel
theorem d_Ro_setLocal_6 : decode prog_9_method_9_code 6 = .ok (.aload_n 0, 1) := by decide +kernel
theorem d_Ro_setLocal_7 : decode prog_9_method_9_code 7 = .ok (.getfield 22, 3) := by decide +kernel
theorem d_Ro_setLocal_10 : decode prog_9_method_9_code 10 = .ok (.aload_n 0, 1) := by decide +kernel
theorem d_Ro_setLocal_11 : decode prog_9_method_9_code 11 = .ok (.getfield 32, 3) := by decide +kernel
theorem d_Ro_setLocal_14 : decode prog_9_method_9_code 14 = .ok (.iaload, 1) := by decide +kernel
theorem d_Ro_setLocal_15 : decode prog_9_method_9_code 15 = .ok (.if_icmp .le 11, 3) := by decide +kernel
theorem d_Ro_setLocal_18 : decode prog_9_method_9_code 18 = .ok (.new 43, 3) := by decide +kernel
theorem d_Ro_setLocal_21 : decode prog_9_method_9_code 21 = .ok (.dup, 1) := by decide +kernel
theorem d_Ro_setLocal_22 : decode prog_9_method_9_code 22 = .ok (.invokespecial 45, 3) := by decide +kernel
theorem d_Ro_setLocal_25 : decode prog_9_method_9_code 25 = .ok (.athrow, 1) := by decide +kernel
theorem d_Ro_setLocal_26 : decode prog_9_method_9_code 26 = .ok (.aload_n 0, 1) := by decide +kernel
theorem d_Ro_setLocal_27 : decode prog_9_method_9_code 27 = .ok (.getfield 25, 3) := by decide +kernel
theorem d_Ro_setLocal_30 : decode prog_9_method_9_code 30 = .ok (.aload_n 0, 1) := by decide +kernel
theorem d_Ro_setLocal_31 : decode prog_9_method_9_code 31 = .ok (.getfield 32, 3) := by decide +kernel
theorem d_Ro_setLocal_34 : decode prog_9_method_9_code 34 = .ok (.bipush 15, 2) := by decide +kernel
theorem d_Ro_setLocal_36 : decode prog_9_method_9_code 36 = .ok (.imul, 1) := by decide +kernel
theorem d_Ro_setLocal_37 : decode prog_9_method_9_code 37 = .ok (.iload_n 1, 1) := by decide +kernel
theorem d_Ro_setLocal_38 : decode prog_9_method_9_code 38 = .ok (.iadd, 1) := by decide +kernel
theorem d_Ro_setLocal_39 : decode prog_9_method_9_code 39 = .ok (.iconst 1, 1) := by decide +kernel
theorem d_Ro_setLocal_40 : decode prog_9_method_9_code 40 = .ok (.isub, 1) := by decide +kernel
theorem d_Ro_setLocal_41 : decode prog_9_method_9_code 41 = .ok (.iload_n 2, 1) := by decide +kernel
theorem d_Ro_setLocal_42 : decode prog_9_method_9_code 42 = .ok (.ldc 38, 2) := by decide +kernel
theorem d_Ro_setLocal_44 : decode prog_9_method_9_code 44 = .ok (.iand, 1) := by decide +kernel
theorem d_Ro_setLocal_45 : decode prog_9_method_9_code 45 = .ok (.iastore, 1) := by decide +kernel
theorem d_Ro_setLocal_46 : decode prog_9_method_9_code 46 = .ok (.return_, 1) := by decide +kernel
theorem d_Ro_demandRoom_0 : decode prog_9_method_10_code 0 = .ok (.aload_n 0, 1) := by decide +kernel
theorem d_Ro_demandRoom_1 : decode prog_9_method_10_code 1 = .ok (.getfield 32, 3) := by decide +kernel
theorem d_Ro_demandRoom_4 : decode prog_9_method_10_code 4 = .ok (.bipush 10, 2) := by decide +kernel
theorem d_Ro_demandRoom_6 : decode prog_9_method_10_code 6 = .ok (.if_icmp .lt 11, 3) := by decide +kernel
theorem d_Ro_demandRoom_9 : decode prog_9_method_10_code 9 = .ok (.new 35, 3) := by decide +kernel
theorem d_Ro_demandRoom_12 : decode prog_9_method_10_code 12 = .ok (.dup, 1) := by decide +kernel
theorem d_Ro_demandRoom_13 : decode prog_9_method_10_code 13 = .ok (.invokespecial 37, 3) := by decide +kernel
theorem d_Ro_demandRoom_16 : decode prog_9_method_10_code 16 = .ok (.athrow, 1) := by decide +kernel
theorem d_Ro_demandRoom_17 : decode prog_9_method_10_code 17 = .ok (.return_, 1) := by decide +kernel
theorem d_Ro_open_0 : decode prog_9_method_11_code 0 = .ok (.aload_n 0, 1) := by decide +kernel
theorem d_Ro_open_1 : decode prog_9_method_11_code 1 = .ok (.invokevirtual 46, 3) := by decide +kernel
theorem d_Ro_open_4 : decode prog_9_method_11_code 4 = .ok (.aload_n 0, 1) := by decide +kernel
theorem d_Ro_open_5 : decode prog_9_method_11_code 5 = .ok (.dup, 1) := by decide +kernel
theorem d_Ro_open_6 : decode prog_9_method_11_code 6 = .ok (.getfield 32, 3) := by decide +kernel
theorem d_Ro_open_9 : decode prog_9_method_11_code 9 = .ok (.iconst 1, 1) := by decide +kernel
theorem d_Ro_open_10 : decode prog_9_method_11_code 10 = .ok (.iadd, 1) := by decide +kernel
theorem d_Ro_open_11 : decode prog_9_method_11_code 11 = .ok (.putfield 32, 3) := by decide +kernel
theorem d_Ro_open_14 : decode prog_9_method_11_code 14 = .ok (.aload_n 0, 1) := by decide +kernel
theorem d_Ro_open_15 : decode prog_9_method_11_code 15 = .ok (.getfield 13, 3) := by decide +kernel
theorem d_Ro_open_18 : decode prog_9_method_11_code 18 = .ok (.aload_n 0, 1) := by decide +kernel
theorem d_Ro_open_19 : decode prog_9_method_11_code 19 = .ok (.getfield 32, 3) := by decide +kernel
theorem d_Ro_open_22 : decode prog_9_method_11_code 22 = .ok (.aload_n 0, 1) := by decide +kernel
theorem d_Ro_open_23 : decode prog_9_method_11_code 23 = .ok (.getfield 28, 3) := by decide +kernel
theorem d_Ro_open_26 : decode prog_9_method_11_code 26 = .ok (.iastore, 1) := by decide +kernel
theorem d_Ro_open_27 : decode prog_9_method_11_code 27 = .ok (.aload_n 0, 1) := by decide +kernel
theorem d_Ro_open_28 : decode prog_9_method_11_code 28 = .ok (.getfield 16, 3) := by decide +kernel
theorem d_Ro_open_31 : decode prog_9_method_11_code 31 = .ok (.aload_n 0, 1) := by decide +kernel
theorem d_Ro_open_32 : decode prog_9_method_11_code 32 = .ok (.getfield 32, 3) := by decide +kernel
theorem d_Ro_open_35 : decode prog_9_method_11_code 35 = .ok (.iload_n 3, 1) := by decide +kernel
theorem d_Ro_open_36 : decode prog_9_method_11_code 36 = .ok (.iastore, 1) := by decide +kernel
theorem d_Ro_open_37 : decode prog_9_method_11_code 37 = .ok (.aload_n 0, 1) := by decide +kernel
theorem d_Ro_open_38 : decode prog_9_method_11_code 38 = .ok (.getfield 19, 3) := by decide +kernel
theorem d_Ro_open_41 : decode prog_9_method_11_code 41 = .ok (.aload_n 0, 1) := by decide +kernel
theorem d_Ro_open_42 : decode prog_9_method_11_code 42 = .ok (.getfield 32, 3) := by decide +kernel
theorem d_Ro_open_45 : decode prog_9_method_11_code 45 = .ok (.iload 4, 2) := by decide +kernel
theorem d_Ro_open_47 : decode prog_9_method_11_code 47 = .ok (.iastore, 1) := by decide +kernel
theorem d_Ro_open_48 : decode prog_9_method_11_code 48 = .ok (.aload_n 0, 1) := by decide +kernel
theorem d_Ro_open_49 : decode prog_9_method_11_code 49 = .ok (.getfield 22, 3) := by decide +kernel
theorem d_Ro_open_52 : decode prog_9_method_11_code 52 = .ok (.aload_n 0, 1) := by decide +kernel
theorem d_Ro_open_53 : decode prog_9_method_11_code 53 = .ok (.getfield 32, 3) := by decide +kernel
theorem d_Ro_open_56 : decode prog_9_method_11_code 56 = .ok (.iload_n 2, 1) := by decide +kernel
theorem d_Ro_open_57 : decode prog_9_method_11_code 57 = .ok (.iastore, 1) := by decide +kernel
theorem d_Ro_open_58 : decode prog_9_method_11_code 58 = .ok (.aload_n 1, 1) := by decide +kernel
theorem d_Ro_open_59 : decode prog_9_method_11_code 59 = .ok (.iconst 0, 1) := by decide +kernel
theorem d_Ro_open_60 : decode prog_9_method_11_code 60 = .ok (.aload_n 0, 1) := by decide +kernel
theorem d_Ro_open_61 : decode prog_9_method_11_code 61 = .ok (.getfield 25, 3) := by decide +kernel
theorem d_Ro_open_64 : decode prog_9_method_11_code 64 = .ok (.aload_n 0, 1) := by decide +kernel
theorem d_Ro_open_65 : decode prog_9_method_11_code 65 = .ok (.getfield 32, 3) := by decide +kernel
theorem d_Ro_open_68 : decode prog_9_method_11_code 68 = .ok (.bipush 15, 2) := by decide +kernel
theorem d_Ro_open_70 : decode prog_9_method_11_code 70 = .ok (.imul, 1) := by decide +kernel
theorem d_Ro_open_71 : decode prog_9_method_11_code 71 = .ok (.iload_n 2, 1) := by decide +kernel
theorem d_Ro_open_72 : decode prog_9_method_11_code 72 = .ok (.invokestatic 49, 3) := by decide +kernel
theorem d_Ro_open_75 : decode prog_9_method_11_code 75 = .ok (.return_, 1) := by decide +kernel
theorem d_Ro_behind_0 : decode prog_9_method_12_code 0 = .ok (.aload_n 0, 1) := by decide +kernel
theorem d_Ro_behind_1 : decode prog_9_method_12_code 1 = .ok (.getfield 16, 3) := by decide +kernel
theorem d_Ro_behind_4 : decode prog_9_method_12_code 4 = .ok (.aload_n 0, 1) := by decide +kernel
theorem d_Ro_behind_5 : decode prog_9_method_12_code 5 = .ok (.getfield 32, 3) := by decide +kernel
theorem d_Ro_behind_8 : decode prog_9_method_12_code 8 = .ok (.iaload, 1) := by decide +kernel
theorem d_Ro_behind_9 : decode prog_9_method_12_code 9 = .ok (.ireturn, 1) := by decide +kernel
theorem d_Ro_result_0 : decode prog_9_method_13_code 0 = .ok (.aload_n 0, 1) := by decide +kernel
theorem d_Ro_result_1 : decode prog_9_method_13_code 1 = .ok (.getfield 19, 3) := by decide +kernel
theorem d_Ro_result_4 : decode prog_9_method_13_code 4 = .ok (.aload_n 0, 1) := by decide +kernel
theorem d_Ro_result_5 : decode prog_9_method_13_code 5 = .ok (.getfield 32, 3) := by decide +kernel
theorem d_Ro_result_8 : decode prog_9_method_13_code 8 = .ok (.iaload, 1) := by decide +kernel
theorem d_Ro_result_9 : decode prog_9_method_13_code 9 = .ok (.ireturn, 1) := by decide +kernel
theorem d_Ro_close_0 : decode prog_9_method_14_code 0 = .ok (.aload_n 0, 1) := by decide +kernel
theorem d_Ro_close_1 : decode prog_9_method_14_code 1 = .ok (.getfield 32, 3) := by decide +kernel
theorem d_Ro_close_4 : decode prog_9_method_14_code 4 = .ok (.ifCond .ne 11, 3) := by decide +kernel
theorem d_Ro_close_7 : decode prog_9_method_14_code 7 = .ok (.new 43, 3) := by decide +kernel
theorem d_Ro_close_10 : decode prog_9_method_14_code 10 = .ok (.dup, 1) := by decide +kernel
theorem d_Ro_close_11 : decode prog_9_method_14_code 11 = .ok (.invokespecial 45, 3) := by decide +kernel
theorem d_Ro_close_14 : decode prog_9_method_14_code 14 = .ok (.athrow, 1) := by decide +kernel
theorem d_Ro_close_15 : decode prog_9_method_14_code 15 = .ok (.aload_n 0, 1) := by decide +kernel
theorem d_Ro_close_16 : decode prog_9_method_14_code 16 = .ok (.aload_n 0, 1) := by decide +kernel
theorem d_Ro_close_17 : decode prog_9_method_14_code 17 = .ok (.getfield 13, 3) := by decide +kernel
theorem d_Ro_close_20 : decode prog_9_method_14_code 20 = .ok (.aload_n 0, 1) := by decide +kernel
theorem d_Ro_close_21 : decode prog_9_method_14_code 21 = .ok (.getfield 32, 3) := by decide +kernel
theorem d_Ro_close_24 : decode prog_9_method_14_code 24 = .ok (.iaload, 1) := by decide +kernel
theorem d_Ro_close_25 : decode prog_9_method_14_code 25 = .ok (.putfield 28, 3) := by decide +kernel
theorem d_Ro_close_28 : decode prog_9_method_14_code 28 = .ok (.aload_n 0, 1) := by decide +kernel
theorem d_Ro_close_29 : decode prog_9_method_14_code 29 = .ok (.dup, 1) := by decide +kernel
theorem d_Ro_close_30 : decode prog_9_method_14_code 30 = .ok (.getfield 32, 3) := by decide +kernel
theorem d_Ro_close_33 : decode prog_9_method_14_code 33 = .ok (.iconst 1, 1) := by decide +kernel
theorem d_Ro_close_34 : decode prog_9_method_14_code 34 = .ok (.isub, 1) := by decide +kernel
theorem d_Ro_close_35 : decode prog_9_method_14_code 35 = .ok (.putfield 32, 3) := by decide +kernel
theorem d_Ro_close_38 : decode prog_9_method_14_code 38 = .ok (.return_, 1) := by decide +kernel
theorem d_Va_read_0 : decode prog_11_method_2_code 0 = .ok (.iload_n 1, 1) := by decide +kernel
theorem d_Va_read_1 : decode prog_11_method_2_code 1 = .ok (.ifCond .ne 25, 3) := by decide +kernel
theorem d_Va_read_4 : decode prog_11_method_2_code 4 = .ok (.iload_n 2, 1) := by decide +kernel
theorem d_Va_read_5 : decode prog_11_method_2_code 5 = .ok (.ifCond .eq 13, 3) := by decide +kernel
theorem d_Va_read_8 : decode prog_11_method_2_code 8 = .ok (.aload_n 0, 1) := by decide +kernel
theorem d_Va_read_9 : decode prog_11_method_2_code 9 = .ok (.getfield 13, 3) := by decide +kernel
theorem d_Va_read_12 : decode prog_11_method_2_code 12 = .ok (.invokevirtual 17, 3) := by decide +kernel
theorem d_Va_read_15 : decode prog_11_method_2_code 15 = .ok (.goto 10, 3) := by decide +kernel
theorem d_Va_read_18 : decode prog_11_method_2_code 18 = .ok (.aload_n 0, 1) := by decide +kernel
theorem d_Va_read_19 : decode prog_11_method_2_code 19 = .ok (.getfield 13, 3) := by decide +kernel
theorem d_Va_read_22 : decode prog_11_method_2_code 22 = .ok (.invokevirtual 23, 3) := by decide +kernel
theorem d_Va_read_25 : decode prog_11_method_2_code 25 = .ok (.ireturn, 1) := by decide +kernel
theorem d_Va_read_26 : decode prog_11_method_2_code 26 = .ok (.iload_n 1, 1) := by decide +kernel
theorem d_Va_read_27 : decode prog_11_method_2_code 27 = .ok (.bipush 16, 2) := by decide +kernel
theorem d_Va_read_29 : decode prog_11_method_2_code 29 = .ok (.if_icmp .ge 12, 3) := by decide +kernel
theorem d_Va_read_32 : decode prog_11_method_2_code 32 = .ok (.aload_n 0, 1) := by decide +kernel
theorem d_Va_read_33 : decode prog_11_method_2_code 33 = .ok (.getfield 13, 3) := by decide +kernel
theorem d_Va_read_36 : decode prog_11_method_2_code 36 = .ok (.iload_n 1, 1) := by decide +kernel
theorem d_Va_read_37 : decode prog_11_method_2_code 37 = .ok (.invokevirtual 26, 3) := by decide +kernel
theorem d_Va_read_40 : decode prog_11_method_2_code 40 = .ok (.ireturn, 1) := by decide +kernel
theorem d_Va_read_41 : decode prog_11_method_2_code 41 = .ok (.aload_n 0, 1) := by decide +kernel
theorem d_Va_read_42 : decode prog_11_method_2_code 42 = .ok (.getfield 7, 3) := by decide +kernel
theorem d_Va_read_45 : decode prog_11_method_2_code 45 = .ok (.aload_n 0, 1) := by decide +kernel
theorem d_Va_read_46 : decode prog_11_method_2_code 46 = .ok (.iload_n 1, 1) := by decide +kernel
theorem d_Va_read_47 : decode prog_11_method_2_code 47 = .ok (.invokevirtual 30, 3) := by decide +kernel
theorem d_Va_read_50 : decode prog_11_method_2_code 50 = .ok (.invokevirtual 33, 3) := by decide +kernel
theorem d_Va_read_53 : decode prog_11_method_2_code 53 = .ok (.ireturn, 1) := by decide +kernel
theorem d_Va_globalPlace_0 : decode prog_11_method_4_code 0 = .ok (.iload_n 1, 1) := by decide +kernel
theorem d_Va_globalPlace_1 : decode prog_11_method_4_code 1 = .ok (.bipush 48, 2) := by decide +kernel
theorem d_Va_globalPlace_3 : decode prog_11_method_4_code 3 = .ok (.if_icmp .lt 11, 3) := by decide +kernel
theorem d_Va_globalPlace_6 : decode prog_11_method_4_code 6 = .ok (.new 52, 3) := by decide +kernel
theorem d_Va_globalPlace_9 : decode prog_11_method_4_code 9 = .ok (.dup, 1) := by decide +kernel
theorem d_Va_globalPlace_10 : decode prog_11_method_4_code 10 = .ok (.invokespecial 54, 3) := by decide +kernel
theorem d_Va_globalPlace_13 : decode prog_11_method_4_code 13 = .ok (.athrow, 1) := by decide +kernel
theorem d_Va_globalPlace_14 : decode prog_11_method_4_code 14 = .ok (.aload_n 0, 1) := by decide +kernel
theorem d_Va_globalPlace_15 : decode prog_11_method_4_code 15 = .ok (.getfield 7, 3) := by decide +kernel
theorem d_Va_globalPlace_18 : decode prog_11_method_4_code 18 = .ok (.bipush 10, 2) := by decide +kernel
theorem d_Va_globalPlace_20 : decode prog_11_method_4_code 20 = .ok (.invokevirtual 33, 3) := by decide +kernel
theorem d_Va_globalPlace_23 : decode prog_11_method_4_code 23 = .ok (.iconst 2, 1) := by decide +kernel
theorem d_Va_globalPlace_24 : decode prog_11_method_4_code 24 = .ok (.iload_n 1, 1) := by decide +kernel
theorem d_Va_globalPlace_25 : decode prog_11_method_4_code 25 = .ok (.bipush 16, 2) := by decide +kernel
theorem d_Va_globalPlace_27 : decode prog_11_method_4_code 27 = .ok (.isub, 1) := by decide +kernel
theorem d_Va_globalPlace_28 : decode prog_11_method_4_code 28 = .ok (.imul, 1) := by decide +kernel
theorem d_Va_globalPlace_29 : decode prog_11_method_4_code 29 = .ok (.iadd, 1) := by decide +kernel
theorem d_Va_globalPlace_30 : decode prog_11_method_4_code 30 = .ok (.ireturn, 1) := by decide +kernel
theorem d_Va_write_0 : decode prog_11_method_3_code 0 = .ok (.iload_n 1, 1) := by decide +kernel
theorem d_Va_write_1 : decode prog_11_method_3_code 1 = .ok (.ifCond .ne 18, 3) := by decide +kernel
theorem d_Va_write_4 : decode prog_11_method_3_code 4 = .ok (.iload_n 3, 1) := by decide +kernel
theorem d_Va_write_5 : decode prog_11_method_3_code 5 = .ok (.ifCond .eq 14, 3) := by decide +kernel
theorem d_Va_write_8 : decode prog_11_method_3_code 8 = .ok (.aload_n 0, 1) := by decide +kernel
theorem d_Va_write_9 : decode prog_11_method_3_code 9 = .ok (.getfield 13, 3) := by decide +kernel
theorem d_Va_write_12 : decode prog_11_method_3_code 12 = .ok (.iload_n 2, 1) := by decide +kernel
theorem d_Va_write_13 : decode prog_11_method_3_code 13 = .ok (.invokevirtual 38, 3) := by decide +kernel
theorem d_Va_write_16 : decode prog_11_method_3_code 16 = .ok (.goto 49, 3) := by decide +kernel
theorem d_Va_write_19 : decode prog_11_method_3_code 19 = .ok (.iload_n 1, 1) := by decide +kernel
theorem d_Va_write_20 : decode prog_11_method_3_code 20 = .ok (.ifCond .ne 14, 3) := by decide +kernel
theorem d_Va_write_23 : decode prog_11_method_3_code 23 = .ok (.aload_n 0, 1) := by decide +kernel
theorem d_Va_write_24 : decode prog_11_method_3_code 24 = .ok (.getfield 13, 3) := by decide +kernel
theorem d_Va_write_27 : decode prog_11_method_3_code 27 = .ok (.iload_n 2, 1) := by decide +kernel
theorem d_Va_write_28 : decode prog_11_method_3_code 28 = .ok (.invokevirtual 42, 3) := by decide +kernel
theorem d_Va_write_31 : decode prog_11_method_3_code 31 = .ok (.goto 34, 3) := by decide +kernel
theorem d_Va_write_34 : decode prog_11_method_3_code 34 = .ok (.iload_n 1, 1) := by decide +kernel
theorem d_Va_write_35 : decode prog_11_method_3_code 35 = .ok (.bipush 16, 2) := by decide +kernel
theorem d_Va_write_37 : decode prog_11_method_3_code 37 = .ok (.if_icmp .ge 15, 3) := by decide +kernel
theorem d_Va_write_40 : decode prog_11_method_3_code 40 = .ok (.aload_n 0, 1) := by decide +kernel
theorem d_Va_write_41 : decode prog_11_method_3_code 41 = .ok (.getfield 13, 3) := by decide +kernel
theorem d_Va_write_44 : decode prog_11_method_3_code 44 = .ok (.iload_n 1, 1) := by decide +kernel
theorem d_Va_write_45 : decode prog_11_method_3_code 45 = .ok (.iload_n 2, 1) := by decide +kernel
theorem d_Va_write_46 : decode prog_11_method_3_code 46 = .ok (.invokevirtual 45, 3) := by decide +kernel
theorem d_Va_write_49 : decode prog_11_method_3_code 49 = .ok (.goto 16, 3) := by decide +kernel
theorem d_Va_write_52 : decode prog_11_method_3_code 52 = .ok (.aload_n 0, 1) := by decide +kernel
theorem d_Va_write_53 : decode prog_11_method_3_code 53 = .ok (.getfield 7, 3) := by decide +kernel
theorem d_Va_write_56 : decode prog_11_method_3_code 56 = .ok (.aload_n 0, 1) := by decide +kernel
theorem d_Va_write_57 : decode prog_11_method_3_code 57 = .ok (.iload_n 1, 1) := by decide +kernel
theorem d_Va_write_58 : decode prog_11_method_3_code 58 = .ok (.invokevirtual 30, 3) := by decide +kernel
theorem d_Va_write_61 : decode prog_11_method_3_code 61 = .ok (.iload_n 2, 1) := by decide +kernel
theorem d_Va_write_62 : decode prog_11_method_3_code 62 = .ok (.invokevirtual 49, 3) := by decide +kernel
theorem d_Va_write_65 : decode prog_11_method_3_code 65 = .ok (.return_, 1) := by decide +kernel
theorem d_Li_clear_0 : decode prog_6_method_2_code 0 = .ok (.aload_n 0, 1) := by decide +kernel
theorem d_Li_clear_1 : decode prog_6_method_2_code 1 = .ok (.iconst 0, 1) := by decide +kernel
theorem d_Li_clear_2 : decode prog_6_method_2_code 2 = .ok (.putfield 16, 3) := by decide +kernel
theorem d_Li_clear_5 : decode prog_6_method_2_code 5 = .ok (.aload_n 0, 1) := by decide +kernel
theorem d_Li_clear_6 : decode prog_6_method_2_code 6 = .ok (.iconst 0, 1) := by decide +kernel
theorem d_Li_clear_7 : decode prog_6_method_2_code 7 = .ok (.putfield 20, 3) := by decide +kernel
theorem d_Li_clear_10 : decode prog_6_method_2_code 10 = .ok (.return_, 1) := by decide +kernel
theorem d_Li_add_0 : decode prog_6_method_3_code 0 = .ok (.aload_n 0, 1) := by decide +kernel
theorem d_Li_add_1 : decode prog_6_method_3_code 1 = .ok (.getfield 16, 3) := by decide +kernel
theorem d_Li_add_4 : decode prog_6_method_3_code 4 = .ok (.bipush 24, 2) := by decide +kernel
theorem d_Li_add_6 : decode prog_6_method_3_code 6 = .ok (.if_icmp .ge 23, 3) := by decide +kernel
theorem d_Li_add_9 : decode prog_6_method_3_code 9 = .ok (.aload_n 0, 1) := by decide +kernel
theorem d_Li_add_10 : decode prog_6_method_3_code 10 = .ok (.getfield 9, 3) := by decide +kernel
theorem d_Li_add_13 : decode prog_6_method_3_code 13 = .ok (.aload_n 0, 1) := by decide +kernel
theorem d_Li_add_14 : decode prog_6_method_3_code 14 = .ok (.getfield 16, 3) := by decide +kernel
theorem d_Li_add_17 : decode prog_6_method_3_code 17 = .ok (.iload_n 1, 1) := by decide +kernel
theorem d_Li_add_18 : decode prog_6_method_3_code 18 = .ok (.iastore, 1) := by decide +kernel
theorem d_Li_add_19 : decode prog_6_method_3_code 19 = .ok (.aload_n 0, 1) := by decide +kernel
theorem d_Li_add_20 : decode prog_6_method_3_code 20 = .ok (.dup, 1) := by decide +kernel
theorem d_Li_add_21 : decode prog_6_method_3_code 21 = .ok (.getfield 16, 3) := by decide +kernel
theorem d_Li_add_24 : decode prog_6_method_3_code 24 = .ok (.iconst 1, 1) := by decide +kernel
theorem d_Li_add_25 : decode prog_6_method_3_code 25 = .ok (.iadd, 1) := by decide +kernel
theorem d_Li_add_26 : decode prog_6_method_3_code 26 = .ok (.putfield 16, 3) := by decide +kernel
theorem d_Li_add_29 : decode prog_6_method_3_code 29 = .ok (.return_, 1) := by decide +kernel
theorem d_Li_finish_0 : decode prog_6_method_4_code 0 = .ok (.iconst 0, 1) := by decide +kernel
theorem d_Li_finish_1 : decode prog_6_method_4_code 1 = .ok (.istore_n 1, 1) := by decide +kernel
theorem d_Li_finish_2 : decode prog_6_method_4_code 2 = .ok (.iload_n 1, 1) := by decide +kernel
theorem d_Li_finish_3 : decode prog_6_method_4_code 3 = .ok (.aload_n 0, 1) := by decide +kernel
theorem d_Li_finish_4 : decode prog_6_method_4_code 4 = .ok (.getfield 16, 3) := by decide +kernel
theorem d_Li_finish_7 : decode prog_6_method_4_code 7 = .ok (.if_icmp .ge 55, 3) := by decide +kernel
theorem d_Li_finish_10 : decode prog_6_method_4_code 10 = .ok (.aload_n 0, 1) := by decide +kernel
theorem d_Li_finish_11 : decode prog_6_method_4_code 11 = .ok (.getfield 9, 3) := by decide +kernel
theorem d_Li_finish_14 : decode prog_6_method_4_code 14 = .ok (.iload_n 1, 1) := by decide +kernel
theorem d_Li_finish_15 : decode prog_6_method_4_code 15 = .ok (.iaload, 1) := by decide +kernel
theorem d_Li_finish_16 : decode prog_6_method_4_code 16 = .ok (.istore_n 2, 1) := by decide +kernel
theorem d_Li_finish_17 : decode prog_6_method_4_code 17 = .ok (.iload_n 2, 1) := by decide +kernel
theorem d_Li_finish_18 : decode prog_6_method_4_code 18 = .ok (.bipush 65, 2) := by decide +kernel
theorem d_Li_finish_20 : decode prog_6_method_4_code 20 = .ok (.if_icmp .lt 13, 3) := by decide +kernel
theorem d_Li_finish_23 : decode prog_6_method_4_code 23 = .ok (.iload_n 2, 1) := by decide +kernel
theorem d_Li_finish_24 : decode prog_6_method_4_code 24 = .ok (.bipush 90, 2) := by decide +kernel
theorem d_Li_finish_26 : decode prog_6_method_4_code 26 = .ok (.if_icmp .gt 7, 3) := by decide +kernel
theorem d_Li_finish_29 : decode prog_6_method_4_code 29 = .ok (.iconst 1, 1) := by decide +kernel
theorem d_Li_finish_30 : decode prog_6_method_4_code 30 = .ok (.goto 4, 3) := by decide +kernel
theorem d_Li_finish_33 : decode prog_6_method_4_code 33 = .ok (.iconst 0, 1) := by decide +kernel
theorem d_Li_finish_34 : decode prog_6_method_4_code 34 = .ok (.istore_n 3, 1) := by decide +kernel
theorem d_Li_finish_35 : decode prog_6_method_4_code 35 = .ok (.aload_n 0, 1) := by decide +kernel
theorem d_Li_finish_36 : decode prog_6_method_4_code 36 = .ok (.getfield 13, 3) := by decide +kernel
theorem d_Li_finish_39 : decode prog_6_method_4_code 39 = .ok (.iload_n 1, 1) := by decide +kernel
theorem d_Li_finish_40 : decode prog_6_method_4_code 40 = .ok (.iload_n 3, 1) := by decide +kernel
theorem d_Li_finish_41 : decode prog_6_method_4_code 41 = .ok (.ifCond .eq 13, 3) := by decide +kernel
theorem d_Li_finish_44 : decode prog_6_method_4_code 44 = .ok (.iload_n 2, 1) := by decide +kernel
theorem d_Li_finish_45 : decode prog_6_method_4_code 45 = .ok (.bipush 65, 2) := by decide +kernel
theorem d_Li_finish_47 : decode prog_6_method_4_code 47 = .ok (.isub, 1) := by decide +kernel
theorem d_Li_finish_48 : decode prog_6_method_4_code 48 = .ok (.bipush 97, 2) := by decide +kernel
theorem d_Li_finish_50 : decode prog_6_method_4_code 50 = .ok (.iadd, 1) := by decide +kernel
theorem d_Li_finish_51 : decode prog_6_method_4_code 51 = .ok (.goto 4, 3) := by decide +kernel
theorem d_Li_finish_54 : decode prog_6_method_4_code 54 = .ok (.iload_n 2, 1) := by decide +kernel
theorem d_Li_finish_55 : decode prog_6_method_4_code 55 = .ok (.iastore, 1) := by decide +kernel
theorem d_Li_finish_56 : decode prog_6_method_4_code 56 = .ok (.iinc 1 1, 3) := by decide +kernel
theorem d_Li_finish_59 : decode prog_6_method_4_code 59 = .ok (.goto (-57), 3) := by decide +kernel
theorem d_Li_finish_62 : decode prog_6_method_4_code 62 = .ok (.aload_n 0, 1) := by decide +kernel
theorem d_Li_finish_63 : decode prog_6_method_4_code 63 = .ok (.aload_n 0, 1) := by decide +kernel
theorem d_Li_finish_64 : decode prog_6_method_4_code 64 = .ok (.getfield 16, 3) := by decide +kernel
theorem d_Li_finish_67 : decode prog_6_method_4_code 67 = .ok (.putfield 24, 3) := by decide +kernel
theorem d_Li_finish_70 : decode prog_6_method_4_code 70 = .ok (.aload_n 0, 1) := by decide +kernel
theorem d_Li_finish_71 : decode prog_6_method_4_code 71 = .ok (.iconst 0, 1) := by decide +kernel
theorem d_Li_finish_72 : decode prog_6_method_4_code 72 = .ok (.putfield 16, 3) := by decide +kernel
theorem d_Li_finish_75 : decode prog_6_method_4_code 75 = .ok (.aload_n 0, 1) := by decide +kernel
theorem d_Li_finish_76 : decode prog_6_method_4_code 76 = .ok (.iconst 1, 1) := by decide +kernel
theorem d_Li_finish_77 : decode prog_6_method_4_code 77 = .ok (.putfield 20, 3) := by decide +kernel
theorem d_Li_finish_80 : decode prog_6_method_4_code 80 = .ok (.return_, 1) := by decide +kernel
theorem d_Pr_put_0 : decode prog_8_method_2_code 0 = .ok (.aload_n 0, 1) := by decide +kernel
theorem d_Pr_put_1 : decode prog_8_method_2_code 1 = .ok (.getfield 9, 3) := by decide +kernel
theorem d_Pr_put_4 : decode prog_8_method_2_code 4 = .ok (.aload_n 0, 1) := by decide +kernel
theorem d_Pr_put_5 : decode prog_8_method_2_code 5 = .ok (.getfield 17, 3) := by decide +kernel
theorem d_Pr_put_8 : decode prog_8_method_2_code 8 = .ok (.bipush 63, 2) := by decide +kernel
theorem d_Pr_put_10 : decode prog_8_method_2_code 10 = .ok (.iand, 1) := by decide +kernel
theorem d_Pr_put_11 : decode prog_8_method_2_code 11 = .ok (.iload_n 1, 1) := by decide +kernel
theorem d_Pr_put_12 : decode prog_8_method_2_code 12 = .ok (.iastore, 1) := by decide +kernel
theorem d_Pr_put_13 : decode prog_8_method_2_code 13 = .ok (.aload_n 0, 1) := by decide +kernel
theorem d_Pr_put_14 : decode prog_8_method_2_code 14 = .ok (.dup, 1) := by decide +kernel
theorem d_Pr_put_15 : decode prog_8_method_2_code 15 = .ok (.getfield 17, 3) := by decide +kernel
theorem d_Pr_put_18 : decode prog_8_method_2_code 18 = .ok (.iconst 1, 1) := by decide +kernel
theorem d_Pr_put_19 : decode prog_8_method_2_code 19 = .ok (.iadd, 1) := by decide +kernel
theorem d_Pr_put_20 : decode prog_8_method_2_code 20 = .ok (.putfield 17, 3) := by decide +kernel
theorem d_Pr_put_23 : decode prog_8_method_2_code 23 = .ok (.return_, 1) := by decide +kernel
theorem d_Pr_latest_0 : decode prog_8_method_3_code 0 = .ok (.aload_n 0, 1) := by decide +kernel
theorem d_Pr_latest_1 : decode prog_8_method_3_code 1 = .ok (.getfield 9, 3) := by decide +kernel
theorem d_Pr_latest_4 : decode prog_8_method_3_code 4 = .ok (.aload_n 0, 1) := by decide +kernel
theorem d_Pr_latest_5 : decode prog_8_method_3_code 5 = .ok (.getfield 17, 3) := by decide +kernel
theorem d_Pr_latest_8 : decode prog_8_method_3_code 8 = .ok (.iconst 1, 1) := by decide +kernel
theorem d_Pr_latest_9 : decode prog_8_method_3_code 9 = .ok (.isub, 1) := by decide +kernel
theorem d_Pr_latest_10 : decode prog_8_method_3_code 10 = .ok (.iload_n 1, 1) := by decide +kernel
theorem d_Pr_latest_11 : decode prog_8_method_3_code 11 = .ok (.isub, 1) := by decide +kernel
theorem d_Pr_latest_12 : decode prog_8_method_3_code 12 = .ok (.bipush 63, 2) := by decide +kernel
theorem d_Pr_latest_14 : decode prog_8_method_3_code 14 = .ok (.iand, 1) := by decide +kernel
theorem d_Pr_latest_15 : decode prog_8_method_3_code 15 = .ok (.iaload, 1) := by decide +kernel
theorem d_Pr_latest_16 : decode prog_8_method_3_code 16 = .ok (.ireturn, 1) := by decide +kernel
theorem d_Pr_putNumber_0 : decode prog_8_method_4_code 0 = .ok (.iload_n 1, 1) := by decide +kernel
theorem d_Pr_putNumber_1 : decode prog_8_method_4_code 1 = .ok (.ifCond .ge 9, 3) := by decide +kernel
theorem d_Pr_putNumber_4 : decode prog_8_method_4_code 4 = .ok (.aload_n 0, 1) := by decide +kernel
theorem d_Pr_putNumber_5 : decode prog_8_method_4_code 5 = .ok (.bipush 45, 2) := by decide +kernel
theorem d_Pr_putNumber_7 : decode prog_8_method_4_code 7 = .ok (.invokevirtual 21, 3) := by decide +kernel
theorem d_Pr_putNumber_10 : decode prog_8_method_4_code 10 = .ok (.iload_n 1, 1) := by decide +kernel
theorem d_Pr_putNumber_11 : decode prog_8_method_4_code 11 = .ok (.invokestatic 25, 3) := by decide +kernel
theorem d_Pr_putNumber_14 : decode prog_8_method_4_code 14 = .ok (.istore_n 2, 1) := by decide +kernel
theorem d_Pr_putNumber_15 : decode prog_8_method_4_code 15 = .ok (.sipush 10000, 3) := by decide +kernel
theorem d_Pr_putNumber_18 : decode prog_8_method_4_code 18 = .ok (.istore_n 3, 1) := by decide +kernel
theorem d_Pr_putNumber_19 : decode prog_8_method_4_code 19 = .ok (.iload_n 3, 1) := by decide +kernel
theorem d_Pr_putNumber_20 : decode prog_8_method_4_code 20 = .ok (.ifCond .le 34, 3) := by decide +kernel
theorem d_Pr_putNumber_23 : decode prog_8_method_4_code 23 = .ok (.iload_n 2, 1) := by decide +kernel
theorem d_Pr_putNumber_24 : decode prog_8_method_4_code 24 = .ok (.iload_n 3, 1) := by decide +kernel
theorem d_Pr_putNumber_25 : decode prog_8_method_4_code 25 = .ok (.if_icmp .ge 8, 3) := by decide +kernel
theorem d_Pr_putNumber_28 : decode prog_8_method_4_code 28 = .ok (.iload_n 3, 1) := by decide +kernel
theorem d_Pr_putNumber_29 : decode prog_8_method_4_code 29 = .ok (.iconst 1, 1) := by decide +kernel
theorem d_Pr_putNumber_30 : decode prog_8_method_4_code 30 = .ok (.if_icmp .ne 16, 3) := by decide +kernel
theorem d_Pr_putNumber_33 : decode prog_8_method_4_code 33 = .ok (.aload_n 0, 1) := by decide +kernel
theorem d_Pr_putNumber_34 : decode prog_8_method_4_code 34 = .ok (.bipush 48, 2) := by decide +kernel
theorem d_Pr_putNumber_36 : decode prog_8_method_4_code 36 = .ok (.iload_n 2, 1) := by decide +kernel
theorem d_Pr_putNumber_37 : decode prog_8_method_4_code 37 = .ok (.iload_n 3, 1) := by decide +kernel
theorem d_Pr_putNumber_38 : decode prog_8_method_4_code 38 = .ok (.idiv, 1) := by decide +kernel
theorem d_Pr_putNumber_39 : decode prog_8_method_4_code 39 = .ok (.bipush 10, 2) := by decide +kernel
theorem d_Pr_putNumber_41 : decode prog_8_method_4_code 41 = .ok (.irem, 1) := by decide +kernel
theorem d_Pr_putNumber_42 : decode prog_8_method_4_code 42 = .ok (.iadd, 1) := by decide +kernel
theorem d_Pr_putNumber_43 : decode prog_8_method_4_code 43 = .ok (.invokevirtual 21, 3) := by decide +kernel
theorem d_Pr_putNumber_46 : decode prog_8_method_4_code 46 = .ok (.iload_n 3, 1) := by decide +kernel
theorem d_Pr_putNumber_47 : decode prog_8_method_4_code 47 = .ok (.bipush 10, 2) := by decide +kernel
theorem d_Pr_putNumber_49 : decode prog_8_method_4_code 49 = .ok (.idiv, 1) := by decide +kernel
theorem d_Pr_putNumber_50 : decode prog_8_method_4_code 50 = .ok (.istore_n 3, 1) := by decide +kernel
theorem d_Pr_putNumber_51 : decode prog_8_method_4_code 51 = .ok (.goto (-32), 3) := by decide +kernel
theorem d_Pr_putNumber_54 : decode prog_8_method_4_code 54 = .ok (.return_, 1) := by decide +kernel
theorem d_Tr_placeOf_0 : decode prog_10_method_2_code 0 = .ok (.iload_n 1, 1) := by decide +kernel
theorem d_Tr_placeOf_1 : decode prog_10_method_2_code 1 = .ok (.iconst 1, 1) := by decide +kernel
theorem d_Tr_placeOf_2 : decode prog_10_method_2_code 2 = .ok (.if_icmp .lt 9, 3) := by decide +kernel
theorem d_Tr_placeOf_5 : decode prog_10_method_2_code 5 = .ok (.iload_n 1, 1) := by decide +kernel
theorem d_Tr_placeOf_6 : decode prog_10_method_2_code 6 = .ok (.bipush 20, 2) := by decide +kernel
theorem d_Tr_placeOf_8 : decode prog_10_method_2_code 8 = .ok (.if_icmp .le 11, 3) := by decide +kernel
theorem d_Tr_placeOf_11 : decode prog_10_method_2_code 11 = .ok (.new 13, 3) := by decide +kernel
theorem d_Tr_placeOf_14 : decode prog_10_method_2_code 14 = .ok (.dup, 1) := by decide +kernel
theorem d_Tr_placeOf_15 : decode prog_10_method_2_code 15 = .ok (.invokespecial 15, 3) := by decide +kernel
theorem d_Tr_placeOf_18 : decode prog_10_method_2_code 18 = .ok (.athrow, 1) := by decide +kernel
theorem d_Tr_placeOf_19 : decode prog_10_method_2_code 19 = .ok (.aload_n 0, 1) := by decide +kernel
theorem d_Tr_placeOf_20 : decode prog_10_method_2_code 20 = .ok (.getfield 7, 3) := by decide +kernel
theorem d_Tr_placeOf_23 : decode prog_10_method_2_code 23 = .ok (.bipush 8, 2) := by decide +kernel
theorem d_Tr_placeOf_25 : decode prog_10_method_2_code 25 = .ok (.invokevirtual 18, 3) := by decide +kernel
theorem d_Tr_placeOf_28 : decode prog_10_method_2_code 28 = .ok (.bipush 14, 2) := by decide +kernel
theorem d_Tr_placeOf_30 : decode prog_10_method_2_code 30 = .ok (.iadd, 1) := by decide +kernel
theorem d_Tr_placeOf_31 : decode prog_10_method_2_code 31 = .ok (.bipush 9, 2) := by decide +kernel
theorem d_Tr_placeOf_33 : decode prog_10_method_2_code 33 = .ok (.iload_n 1, 1) := by decide +kernel
theorem d_Tr_placeOf_34 : decode prog_10_method_2_code 34 = .ok (.iconst 1, 1) := by decide +kernel
theorem d_Tr_placeOf_35 : decode prog_10_method_2_code 35 = .ok (.isub, 1) := by decide +kernel
theorem d_Tr_placeOf_36 : decode prog_10_method_2_code 36 = .ok (.imul, 1) := by decide +kernel
theorem d_Tr_placeOf_37 : decode prog_10_method_2_code 37 = .ok (.iadd, 1) := by decide +kernel
theorem d_Tr_placeOf_38 : decode prog_10_method_2_code 38 = .ok (.ireturn, 1) := by decide +kernel
theorem d_Tr_parent_0 : decode prog_10_method_3_code 0 = .ok (.aload_n 0, 1) := by decide +kernel
theorem d_Tr_parent_1 : decode prog_10_method_3_code 1 = .ok (.getfield 7, 3) := by decide +kernel
theorem d_Tr_parent_4 : decode prog_10_method_3_code 4 = .ok (.aload_n 0, 1) := by decide +kernel
theorem d_Tr_parent_5 : decode prog_10_method_3_code 5 = .ok (.iload_n 1, 1) := by decide +kernel
theorem d_Tr_parent_6 : decode prog_10_method_3_code 6 = .ok (.invokevirtual 22, 3) := by decide +kernel
theorem d_Tr_parent_9 : decode prog_10_method_3_code 9 = .ok (.iconst 4, 1) := by decide +kernel
theorem d_Tr_parent_10 : decode prog_10_method_3_code 10 = .ok (.iadd, 1) := by decide +kernel
theorem d_Tr_parent_11 : decode prog_10_method_3_code 11 = .ok (.invokevirtual 25, 3) := by decide +kernel
theorem d_Tr_parent_14 : decode prog_10_method_3_code 14 = .ok (.ireturn, 1) := by decide +kernel
theorem d_Tr_sibling_0 : decode prog_10_method_4_code 0 = .ok (.aload_n 0, 1) := by decide +kernel
theorem d_Tr_sibling_1 : decode prog_10_method_4_code 1 = .ok (.getfield 7, 3) := by decide +kernel
theorem d_Tr_sibling_4 : decode prog_10_method_4_code 4 = .ok (.aload_n 0, 1) := by decide +kernel
theorem d_Tr_sibling_5 : decode prog_10_method_4_code 5 = .ok (.iload_n 1, 1) := by decide +kernel
theorem d_Tr_sibling_6 : decode prog_10_method_4_code 6 = .ok (.invokevirtual 22, 3) := by decide +kernel
theorem d_Tr_sibling_9 : decode prog_10_method_4_code 9 = .ok (.iconst 5, 1) := by decide +kernel
theorem d_Tr_sibling_10 : decode prog_10_method_4_code 10 = .ok (.iadd, 1) := by decide +kernel
theorem d_Tr_sibling_11 : decode prog_10_method_4_code 11 = .ok (.invokevirtual 25, 3) := by decide +kernel
theorem d_Tr_sibling_14 : decode prog_10_method_4_code 14 = .ok (.ireturn, 1) := by decide +kernel
theorem d_Tr_child_0 : decode prog_10_method_5_code 0 = .ok (.aload_n 0, 1) := by decide +kernel
theorem d_Tr_child_1 : decode prog_10_method_5_code 1 = .ok (.getfield 7, 3) := by decide +kernel
theorem d_Tr_child_4 : decode prog_10_method_5_code 4 = .ok (.aload_n 0, 1) := by decide +kernel
theorem d_Tr_child_5 : decode prog_10_method_5_code 5 = .ok (.iload_n 1, 1) := by decide +kernel
theorem d_Tr_child_6 : decode prog_10_method_5_code 6 = .ok (.invokevirtual 22, 3) := by decide +kernel
theorem d_Tr_child_9 : decode prog_10_method_5_code 9 = .ok (.bipush 6, 2) := by decide +kernel
theorem d_Tr_child_11 : decode prog_10_method_5_code 11 = .ok (.iadd, 1) := by decide +kernel
theorem d_Tr_child_12 : decode prog_10_method_5_code 12 = .ok (.invokevirtual 25, 3) := by decide +kernel
theorem d_Tr_child_15 : decode prog_10_method_5_code 15 = .ok (.ireturn, 1) := by decide +kernel
theorem d_Tr_hasAttribute_0 : decode prog_10_method_7_code 0 = .ok (.aload_n 0, 1) := by decide +kernel
theorem d_Tr_hasAttribute_1 : decode prog_10_method_7_code 1 = .ok (.getfield 7, 3) := by decide +kernel
theorem d_Tr_hasAttribute_4 : decode prog_10_method_7_code 4 = .ok (.aload_n 0, 1) := by decide +kernel
theorem d_Tr_hasAttribute_5 : decode prog_10_method_7_code 5 = .ok (.iload_n 1, 1) := by decide +kernel
theorem d_Tr_hasAttribute_6 : decode prog_10_method_7_code 6 = .ok (.iload_n 2, 1) := by decide +kernel
theorem d_Tr_hasAttribute_7 : decode prog_10_method_7_code 7 = .ok (.invokevirtual 28, 3) := by decide +kernel
theorem d_Tr_hasAttribute_10 : decode prog_10_method_7_code 10 = .ok (.invokevirtual 25, 3) := by decide +kernel
theorem d_Tr_hasAttribute_13 : decode prog_10_method_7_code 13 = .ok (.istore_n 3, 1) := by decide +kernel
theorem d_Tr_hasAttribute_14 : decode prog_10_method_7_code 14 = .ok (.iload_n 3, 1) := by decide +kernel
theorem d_Tr_hasAttribute_15 : decode prog_10_method_7_code 15 = .ok (.sipush 128, 3) := by decide +kernel
theorem d_Tr_hasAttribute_18 : decode prog_10_method_7_code 18 = .ok (.iload_n 2, 1) := by decide +kernel
theorem d_Tr_hasAttribute_19 : decode prog_10_method_7_code 19 = .ok (.bipush 8, 2) := by decide +kernel
theorem d_Tr_hasAttribute_21 : decode prog_10_method_7_code 21 = .ok (.irem, 1) := by decide +kernel
theorem d_Tr_hasAttribute_22 : decode prog_10_method_7_code 22 = .ok (.ishr, 1) := by decide +kernel
theorem d_Tr_hasAttribute_23 : decode prog_10_method_7_code 23 = .ok (.iand, 1) := by decide +kernel
theorem d_Tr_hasAttribute_24 : decode prog_10_method_7_code 24 = .ok (.ifCond .eq 7, 3) := by decide +kernel
theorem d_Tr_hasAttribute_27 : decode prog_10_method_7_code 27 = .ok (.iconst 1, 1) := by decide +kernel
theorem d_Tr_hasAttribute_28 : decode prog_10_method_7_code 28 = .ok (.goto 4, 3) := by decide +kernel
theorem d_Tr_hasAttribute_31 : decode prog_10_method_7_code 31 = .ok (.iconst 0, 1) := by decide +kernel
theorem d_Tr_hasAttribute_32 : decode prog_10_method_7_code 32 = .ok (.ireturn, 1) := by decide +kernel
theorem d_Tr_attributePlace_0 : decode prog_10_method_6_code 0 = .ok (.aload_n 0, 1) := by decide +kernel
theorem d_Tr_attributePlace_1 : decode prog_10_method_6_code 1 = .ok (.iload_n 1, 1) := by decide +kernel
theorem d_Tr_attributePlace_2 : decode prog_10_method_6_code 2 = .ok (.invokevirtual 22, 3) := by decide +kernel
theorem d_Tr_attributePlace_5 : decode prog_10_method_6_code 5 = .ok (.istore_n 3, 1) := by decide +kernel
theorem d_Tr_attributePlace_6 : decode prog_10_method_6_code 6 = .ok (.iload_n 2, 1) := by decide +kernel
theorem d_Tr_attributePlace_7 : decode prog_10_method_6_code 7 = .ok (.bipush 31, 2) := by decide +kernel
theorem d_Tr_attributePlace_9 : decode prog_10_method_6_code 9 = .ok (.if_icmp .le 11, 3) := by decide +kernel
theorem d_Tr_attributePlace_12 : decode prog_10_method_6_code 12 = .ok (.new 13, 3) := by decide +kernel
theorem d_Tr_attributePlace_15 : decode prog_10_method_6_code 15 = .ok (.dup, 1) := by decide +kernel
theorem d_Tr_attributePlace_16 : decode prog_10_method_6_code 16 = .ok (.invokespecial 15, 3) := by decide +kernel
theorem d_Tr_attributePlace_19 : decode prog_10_method_6_code 19 = .ok (.athrow, 1) := by decide +kernel
theorem d_Tr_attributePlace_20 : decode prog_10_method_6_code 20 = .ok (.iload_n 3, 1) := by decide +kernel
theorem d_Tr_attributePlace_21 : decode prog_10_method_6_code 21 = .ok (.iload_n 2, 1) := by decide +kernel
theorem d_Tr_attributePlace_22 : decode prog_10_method_6_code 22 = .ok (.bipush 8, 2) := by decide +kernel
theorem d_Tr_attributePlace_24 : decode prog_10_method_6_code 24 = .ok (.idiv, 1) := by decide +kernel
theorem d_Tr_attributePlace_25 : decode prog_10_method_6_code 25 = .ok (.iadd, 1) := by decide +kernel
theorem d_Tr_attributePlace_26 : decode prog_10_method_6_code 26 = .ok (.ireturn, 1) := by decide +kernel
theorem d_Tr_setAttribute_0 : decode prog_10_method_8_code 0 = .ok (.aload_n 0, 1) := by decide +kernel
theorem d_Tr_setAttribute_1 : decode prog_10_method_8_code 1 = .ok (.iload_n 1, 1) := by decide +kernel
theorem d_Tr_setAttribute_2 : decode prog_10_method_8_code 2 = .ok (.iload_n 2, 1) := by decide +kernel
theorem d_Tr_setAttribute_3 : decode prog_10_method_8_code 3 = .ok (.invokevirtual 28, 3) := by decide +kernel
theorem d_Tr_setAttribute_6 : decode prog_10_method_8_code 6 = .ok (.istore 4, 2) := by decide +kernel
theorem d_Tr_setAttribute_8 : decode prog_10_method_8_code 8 = .ok (.aload_n 0, 1) := by decide +kernel
theorem d_Tr_setAttribute_9 : decode prog_10_method_8_code 9 = .ok (.getfield 7, 3) := by decide +kernel
theorem d_Tr_setAttribute_12 : decode prog_10_method_8_code 12 = .ok (.iload 4, 2) := by decide +kernel
theorem d_Tr_setAttribute_14 : decode prog_10_method_8_code 14 = .ok (.invokevirtual 25, 3) := by decide +kernel
theorem d_Tr_setAttribute_17 : decode prog_10_method_8_code 17 = .ok (.istore 5, 2) := by decide +kernel
theorem d_Tr_setAttribute_19 : decode prog_10_method_8_code 19 = .ok (.sipush 128, 3) := by decide +kernel
theorem d_Tr_setAttribute_22 : decode prog_10_method_8_code 22 = .ok (.iload_n 2, 1) := by decide +kernel
theorem d_Tr_setAttribute_23 : decode prog_10_method_8_code 23 = .ok (.bipush 8, 2) := by decide +kernel
theorem d_Tr_setAttribute_25 : decode prog_10_method_8_code 25 = .ok (.irem, 1) := by decide +kernel
theorem d_Tr_setAttribute_26 : decode prog_10_method_8_code 26 = .ok (.ishr, 1) := by decide +kernel
theorem d_Tr_setAttribute_27 : decode prog_10_method_8_code 27 = .ok (.istore 6, 2) := by decide +kernel
theorem d_Tr_setAttribute_29 : decode prog_10_method_8_code 29 = .ok (.aload_n 0, 1) := by decide +kernel
theorem d_Tr_setAttribute_30 : decode prog_10_method_8_code 30 = .ok (.getfield 7, 3) := by decide +kernel
theorem d_Tr_setAttribute_33 : decode prog_10_method_8_code 33 = .ok (.iload 4, 2) := by decide +kernel
theorem d_Tr_setAttribute_35 : decode prog_10_method_8_code 35 = .ok (.iload_n 3, 1) := by decide +kernel
theorem d_Tr_setAttribute_36 : decode prog_10_method_8_code 36 = .ok (.ifCond .eq 11, 3) := by decide +kernel
theorem d_Tr_setAttribute_39 : decode prog_10_method_8_code 39 = .ok (.iload 5, 2) := by decide +kernel
theorem d_Tr_setAttribute_41 : decode prog_10_method_8_code 41 = .ok (.iload 6, 2) := by decide +kernel
theorem d_Tr_setAttribute_43 : decode prog_10_method_8_code 43 = .ok (.ior, 1) := by decide +kernel
theorem d_Tr_setAttribute_44 : decode prog_10_method_8_code 44 = .ok (.goto 10, 3) := by decide +kernel
theorem d_Tr_setAttribute_47 : decode prog_10_method_8_code 47 = .ok (.iload 5, 2) := by decide +kernel
theorem d_Tr_setAttribute_49 : decode prog_10_method_8_code 49 = .ok (.iload 6, 2) := by decide +kernel
theorem d_Tr_setAttribute_51 : decode prog_10_method_8_code 51 = .ok (.iconst (-1), 1) := by decide +kernel
theorem d_Tr_setAttribute_52 : decode prog_10_method_8_code 52 = .ok (.ixor, 1) := by decide +kernel
theorem d_Tr_setAttribute_53 : decode prog_10_method_8_code 53 = .ok (.iand, 1) := by decide +kernel
theorem d_Tr_setAttribute_54 : decode prog_10_method_8_code 54 = .ok (.invokevirtual 32, 3) := by decide +kernel
theorem d_Tr_setAttribute_57 : decode prog_10_method_8_code 57 = .ok (.return_, 1) := by decide +kernel
theorem d_Tr_takeFromParent_0 : decode prog_10_method_9_code 0 = .ok (.aload_n 0, 1) := by decide +kernel
theorem d_Tr_takeFromParent_1 : decode prog_10_method_9_code 1 = .ok (.iload_n 1, 1) := by decide +kernel
theorem d_Tr_takeFromParent_2 : decode prog_10_method_9_code 2 = .ok (.invokevirtual 22, 3) := by decide +kernel
theorem d_Tr_takeFromParent_5 : decode prog_10_method_9_code 5 = .ok (.istore_n 2, 1) := by decide +kernel
theorem d_Tr_takeFromParent_6 : decode prog_10_method_9_code 6 = .ok (.aload_n 0, 1) := by decide +kernel
theorem d_Tr_takeFromParent_7 : decode prog_10_method_9_code 7 = .ok (.getfield 7, 3) := by decide +kernel
theorem d_Tr_takeFromParent_10 : decode prog_10_method_9_code 10 = .ok (.iload_n 2, 1) := by decide +kernel
theorem d_Tr_takeFromParent_11 : decode prog_10_method_9_code 11 = .ok (.iconst 4, 1) := by decide +kernel
theorem d_Tr_takeFromParent_12 : decode prog_10_method_9_code 12 = .ok (.iadd, 1) := by decide +kernel
theorem d_Tr_takeFromParent_13 : decode prog_10_method_9_code 13 = .ok (.invokevirtual 25, 3) := by decide +kernel
theorem d_Tr_takeFromParent_16 : decode prog_10_method_9_code 16 = .ok (.istore_n 3, 1) := by decide +kernel
theorem d_Tr_takeFromParent_17 : decode prog_10_method_9_code 17 = .ok (.iload_n 3, 1) := by decide +kernel
theorem d_Tr_takeFromParent_18 : decode prog_10_method_9_code 18 = .ok (.ifCond .ne 4, 3) := by decide +kernel
theorem d_Tr_takeFromParent_21 : decode prog_10_method_9_code 21 = .ok (.return_, 1) := by decide +kernel
theorem d_Tr_takeFromParent_22 : decode prog_10_method_9_code 22 = .ok (.aload_n 0, 1) := by decide +kernel
theorem d_Tr_takeFromParent_23 : decode prog_10_method_9_code 23 = .ok (.getfield 7, 3) := by decide +kernel
theorem d_Tr_takeFromParent_26 : decode prog_10_method_9_code 26 = .ok (.iload_n 2, 1) := by decide +kernel
theorem d_Tr_takeFromParent_27 : decode prog_10_method_9_code 27 = .ok (.iconst 5, 1) := by decide +kernel
theorem d_Tr_takeFromParent_28 : decode prog_10_method_9_code 28 = .ok (.iadd, 1) := by decide +kernel
theorem d_Tr_takeFromParent_29 : decode prog_10_method_9_code 29 = .ok (.invokevirtual 25, 3) := by decide +kernel
theorem d_Tr_takeFromParent_32 : decode prog_10_method_9_code 32 = .ok (.istore 4, 2) := by decide +kernel
theorem d_Tr_takeFromParent_34 : decode prog_10_method_9_code 34 = .ok (.aload_n 0, 1) := by decide +kernel
theorem d_Tr_takeFromParent_35 : decode prog_10_method_9_code 35 = .ok (.getfield 7, 3) := by decide +kernel
theorem d_Tr_takeFromParent_38 : decode prog_10_method_9_code 38 = .ok (.aload_n 0, 1) := by decide +kernel
theorem d_Tr_takeFromParent_39 : decode prog_10_method_9_code 39 = .ok (.iload_n 1, 1) := by decide +kernel
theorem d_Tr_takeFromParent_40 : decode prog_10_method_9_code 40 = .ok (.iload_n 3, 1) := by decide +kernel
theorem d_Tr_takeFromParent_41 : decode prog_10_method_9_code 41 = .ok (.invokevirtual 36, 3) := by decide +kernel
theorem d_Tr_takeFromParent_44 : decode prog_10_method_9_code 44 = .ok (.iload 4, 2) := by decide +kernel
theorem d_Tr_takeFromParent_46 : decode prog_10_method_9_code 46 = .ok (.invokevirtual 32, 3) := by decide +kernel
theorem d_Tr_takeFromParent_49 : decode prog_10_method_9_code 49 = .ok (.aload_n 0, 1) := by decide +kernel
theorem d_Tr_takeFromParent_50 : decode prog_10_method_9_code 50 = .ok (.getfield 7, 3) := by decide +kernel
theorem d_Tr_takeFromParent_53 : decode prog_10_method_9_code 53 = .ok (.iload_n 2, 1) := by decide +kernel
theorem d_Tr_takeFromParent_54 : decode prog_10_method_9_code 54 = .ok (.iconst 4, 1) := by decide +kernel
theorem d_Tr_takeFromParent_55 : decode prog_10_method_9_code 55 = .ok (.iadd, 1) := by decide +kernel
theorem d_Tr_takeFromParent_56 : decode prog_10_method_9_code 56 = .ok (.iconst 0, 1) := by decide +kernel
theorem d_Tr_takeFromParent_57 : decode prog_10_method_9_code 57 = .ok (.invokevirtual 32, 3) := by decide +kernel
theorem d_Tr_takeFromParent_60 : decode prog_10_method_9_code 60 = .ok (.aload_n 0, 1) := by decide +kernel
theorem d_Tr_takeFromParent_61 : decode prog_10_method_9_code 61 = .ok (.getfield 7, 3) := by decide +kernel
theorem d_Tr_takeFromParent_64 : decode prog_10_method_9_code 64 = .ok (.iload_n 2, 1) := by decide +kernel
theorem d_Tr_takeFromParent_65 : decode prog_10_method_9_code 65 = .ok (.iconst 5, 1) := by decide +kernel
theorem d_Tr_takeFromParent_66 : decode prog_10_method_9_code 66 = .ok (.iadd, 1) := by decide +kernel
theorem d_Tr_takeFromParent_67 : decode prog_10_method_9_code 67 = .ok (.iconst 0, 1) := by decide +kernel
theorem d_Tr_takeFromParent_68 : decode prog_10_method_9_code 68 = .ok (.invokevirtual 32, 3) := by decide +kernel
theorem d_Tr_takeFromParent_71 : decode prog_10_method_9_code 71 = .ok (.return_, 1) := by decide +kernel
theorem d_Tr_linkTo_0 : decode prog_10_method_10_code 0 = .ok (.aload_n 0, 1) := by decide +kernel
theorem d_Tr_linkTo_1 : decode prog_10_method_10_code 1 = .ok (.iload_n 2, 1) := by decide +kernel
theorem d_Tr_linkTo_2 : decode prog_10_method_10_code 2 = .ok (.invokevirtual 22, 3) := by decide +kernel
theorem d_Tr_linkTo_5 : decode prog_10_method_10_code 5 = .ok (.bipush 6, 2) := by decide +kernel
theorem d_Tr_linkTo_7 : decode prog_10_method_10_code 7 = .ok (.iadd, 1) := by decide +kernel
theorem d_Tr_linkTo_8 : decode prog_10_method_10_code 8 = .ok (.istore_n 3, 1) := by decide +kernel
theorem d_Tr_linkTo_9 : decode prog_10_method_10_code 9 = .ok (.iconst 0, 1) := by decide +kernel
theorem d_Tr_linkTo_10 : decode prog_10_method_10_code 10 = .ok (.istore 4, 2) := by decide +kernel
theorem d_Tr_linkTo_12 : decode prog_10_method_10_code 12 = .ok (.iload 4, 2) := by decide +kernel
theorem d_Tr_linkTo_14 : decode prog_10_method_10_code 14 = .ok (.bipush 20, 2) := by decide +kernel
theorem d_Tr_linkTo_16 : decode prog_10_method_10_code 16 = .ok (.if_icmp .ge 36, 3) := by decide +kernel
theorem d_Tr_linkTo_19 : decode prog_10_method_10_code 19 = .ok (.aload_n 0, 1) := by decide +kernel
theorem d_Tr_linkTo_20 : decode prog_10_method_10_code 20 = .ok (.getfield 7, 3) := by decide +kernel
theorem d_Tr_linkTo_23 : decode prog_10_method_10_code 23 = .ok (.iload_n 3, 1) := by decide +kernel
theorem d_Tr_linkTo_24 : decode prog_10_method_10_code 24 = .ok (.invokevirtual 25, 3) := by decide +kernel
theorem d_Tr_linkTo_27 : decode prog_10_method_10_code 27 = .ok (.istore 5, 2) := by decide +kernel
theorem d_Tr_linkTo_29 : decode prog_10_method_10_code 29 = .ok (.iload 5, 2) := by decide +kernel
theorem d_Tr_linkTo_31 : decode prog_10_method_10_code 31 = .ok (.iload_n 1, 1) := by decide +kernel
theorem d_Tr_linkTo_32 : decode prog_10_method_10_code 32 = .ok (.if_icmp .ne 5, 3) := by decide +kernel
theorem d_Tr_linkTo_35 : decode prog_10_method_10_code 35 = .ok (.iload_n 3, 1) := by decide +kernel
theorem d_Tr_linkTo_36 : decode prog_10_method_10_code 36 = .ok (.ireturn, 1) := by decide +kernel
theorem d_Tr_linkTo_37 : decode prog_10_method_10_code 37 = .ok (.aload_n 0, 1) := by decide +kernel
theorem d_Tr_linkTo_38 : decode prog_10_method_10_code 38 = .ok (.iload 5, 2) := by decide +kernel
theorem d_Tr_linkTo_40 : decode prog_10_method_10_code 40 = .ok (.invokevirtual 22, 3) := by decide +kernel
theorem d_Tr_linkTo_43 : decode prog_10_method_10_code 43 = .ok (.iconst 5, 1) := by decide +kernel
theorem d_Tr_linkTo_44 : decode prog_10_method_10_code 44 = .ok (.iadd, 1) := by decide +kernel
theorem d_Tr_linkTo_45 : decode prog_10_method_10_code 45 = .ok (.istore_n 3, 1) := by decide +kernel
theorem d_Tr_linkTo_46 : decode prog_10_method_10_code 46 = .ok (.iinc 4 1, 3) := by decide +kernel
theorem d_Tr_linkTo_49 : decode prog_10_method_10_code 49 = .ok (.goto (-37), 3) := by decide +kernel
theorem d_Tr_linkTo_52 : decode prog_10_method_10_code 52 = .ok (.new 13, 3) := by decide +kernel
theorem d_Tr_linkTo_55 : decode prog_10_method_10_code 55 = .ok (.dup, 1) := by decide +kernel
theorem d_Tr_linkTo_56 : decode prog_10_method_10_code 56 = .ok (.invokespecial 15, 3) := by decide +kernel
theorem d_Tr_linkTo_59 : decode prog_10_method_10_code 59 = .ok (.athrow, 1) := by decide +kernel
theorem d_Tr_putInto_0 : decode prog_10_method_11_code 0 = .ok (.aload_n 0, 1) := by decide +kernel
theorem d_Tr_putInto_1 : decode prog_10_method_11_code 1 = .ok (.iload_n 1, 1) := by decide +kernel
theorem d_Tr_putInto_2 : decode prog_10_method_11_code 2 = .ok (.invokevirtual 22, 3) := by decide +kernel
theorem d_Tr_putInto_5 : decode prog_10_method_11_code 5 = .ok (.istore_n 3, 1) := by decide +kernel
theorem d_Tr_putInto_6 : decode prog_10_method_11_code 6 = .ok (.aload_n 0, 1) := by decide +kernel
theorem d_Tr_putInto_7 : decode prog_10_method_11_code 7 = .ok (.iload_n 2, 1) := by decide +kernel
theorem d_Tr_putInto_8 : decode prog_10_method_11_code 8 = .ok (.invokevirtual 22, 3) := by decide +kernel
theorem d_Tr_putInto_11 : decode prog_10_method_11_code 11 = .ok (.istore 4, 2) := by decide +kernel
theorem d_Tr_putInto_13 : decode prog_10_method_11_code 13 = .ok (.aload_n 0, 1) := by decide +kernel
theorem d_Tr_putInto_14 : decode prog_10_method_11_code 14 = .ok (.iload_n 1, 1) := by decide +kernel
theorem d_Tr_putInto_15 : decode prog_10_method_11_code 15 = .ok (.invokevirtual 39, 3) := by decide +kernel
theorem d_Tr_putInto_18 : decode prog_10_method_11_code 18 = .ok (.aload_n 0, 1) := by decide +kernel
theorem d_Tr_putInto_19 : decode prog_10_method_11_code 19 = .ok (.getfield 7, 3) := by decide +kernel
theorem d_Tr_putInto_22 : decode prog_10_method_11_code 22 = .ok (.iload_n 3, 1) := by decide +kernel
theorem d_Tr_putInto_23 : decode prog_10_method_11_code 23 = .ok (.iconst 4, 1) := by decide +kernel
theorem d_Tr_putInto_24 : decode prog_10_method_11_code 24 = .ok (.iadd, 1) := by decide +kernel
theorem d_Tr_putInto_25 : decode prog_10_method_11_code 25 = .ok (.iload_n 2, 1) := by decide +kernel
theorem d_Tr_putInto_26 : decode prog_10_method_11_code 26 = .ok (.invokevirtual 32, 3) := by decide +kernel
theorem d_Tr_putInto_29 : decode prog_10_method_11_code 29 = .ok (.aload_n 0, 1) := by decide +kernel
theorem d_Tr_putInto_30 : decode prog_10_method_11_code 30 = .ok (.getfield 7, 3) := by decide +kernel
theorem d_Tr_putInto_33 : decode prog_10_method_11_code 33 = .ok (.iload_n 3, 1) := by decide +kernel
theorem d_Tr_putInto_34 : decode prog_10_method_11_code 34 = .ok (.iconst 5, 1) := by decide +kernel
theorem d_Tr_putInto_35 : decode prog_10_method_11_code 35 = .ok (.iadd, 1) := by decide +kernel
theorem d_Tr_putInto_36 : decode prog_10_method_11_code 36 = .ok (.aload_n 0, 1) := by decide +kernel
theorem d_Tr_putInto_37 : decode prog_10_method_11_code 37 = .ok (.getfield 7, 3) := by decide +kernel
theorem d_Tr_putInto_40 : decode prog_10_method_11_code 40 = .ok (.iload 4, 2) := by decide +kernel
theorem d_Tr_putInto_42 : decode prog_10_method_11_code 42 = .ok (.bipush 6, 2) := by decide +kernel
theorem d_Tr_putInto_44 : decode prog_10_method_11_code 44 = .ok (.iadd, 1) := by decide +kernel
theorem d_Tr_putInto_45 : decode prog_10_method_11_code 45 = .ok (.invokevirtual 25, 3) := by decide +kernel
theorem d_Tr_putInto_48 : decode prog_10_method_11_code 48 = .ok (.invokevirtual 32, 3) := by decide +kernel
theorem d_Tr_putInto_51 : decode prog_10_method_11_code 51 = .ok (.aload_n 0, 1) := by decide +kernel
theorem d_Tr_putInto_52 : decode prog_10_method_11_code 52 = .ok (.getfield 7, 3) := by decide +kernel
theorem d_Tr_putInto_55 : decode prog_10_method_11_code 55 = .ok (.iload 4, 2) := by decide +kernel
theorem d_Tr_putInto_57 : decode prog_10_method_11_code 57 = .ok (.bipush 6, 2) := by decide +kernel
theorem d_Tr_putInto_59 : decode prog_10_method_11_code 59 = .ok (.iadd, 1) := by decide +kernel
theorem d_Tr_putInto_60 : decode prog_10_method_11_code 60 = .ok (.iload_n 1, 1) := by decide +kernel
theorem d_Tr_putInto_61 : decode prog_10_method_11_code 61 = .ok (.invokevirtual 32, 3) := by decide +kernel
theorem d_Tr_putInto_64 : decode prog_10_method_11_code 64 = .ok (.return_, 1) := by decide +kernel
theorem d_Tr_namePlace_0 : decode prog_10_method_12_code 0 = .ok (.aload_n 0, 1) := by decide +kernel
theorem d_Tr_namePlace_1 : decode prog_10_method_12_code 1 = .ok (.getfield 7, 3) := by decide +kernel
theorem d_Tr_namePlace_4 : decode prog_10_method_12_code 4 = .ok (.aload_n 0, 1) := by decide +kernel
theorem d_Tr_namePlace_5 : decode prog_10_method_12_code 5 = .ok (.iload_n 1, 1) := by decide +kernel
theorem d_Tr_namePlace_6 : decode prog_10_method_12_code 6 = .ok (.invokevirtual 22, 3) := by decide +kernel
theorem d_Tr_namePlace_9 : decode prog_10_method_12_code 9 = .ok (.bipush 7, 2) := by decide +kernel
theorem d_Tr_namePlace_11 : decode prog_10_method_12_code 11 = .ok (.iadd, 1) := by decide +kernel
theorem d_Tr_namePlace_12 : decode prog_10_method_12_code 12 = .ok (.invokevirtual 18, 3) := by decide +kernel
theorem d_Tr_namePlace_15 : decode prog_10_method_12_code 15 = .ok (.ireturn, 1) := by decide +kernel
theorem d_Tr_properties_0 : decode prog_10_method_13_code 0 = .ok (.aload_n 0, 1) := by decide +kernel
theorem d_Tr_properties_1 : decode prog_10_method_13_code 1 = .ok (.getfield 7, 3) := by decide +kernel
theorem d_Tr_properties_4 : decode prog_10_method_13_code 4 = .ok (.aload_n 0, 1) := by decide +kernel
theorem d_Tr_properties_5 : decode prog_10_method_13_code 5 = .ok (.iload_n 1, 1) := by decide +kernel
theorem d_Tr_properties_6 : decode prog_10_method_13_code 6 = .ok (.invokevirtual 22, 3) := by decide +kernel
theorem d_Tr_properties_9 : decode prog_10_method_13_code 9 = .ok (.bipush 7, 2) := by decide +kernel
theorem d_Tr_properties_11 : decode prog_10_method_13_code 11 = .ok (.iadd, 1) := by decide +kernel
theorem d_Tr_properties_12 : decode prog_10_method_13_code 12 = .ok (.invokevirtual 18, 3) := by decide +kernel
theorem d_Tr_properties_15 : decode prog_10_method_13_code 15 = .ok (.istore_n 2, 1) := by decide +kernel
theorem d_Tr_properties_16 : decode prog_10_method_13_code 16 = .ok (.iload_n 2, 1) := by decide +kernel
theorem d_Tr_properties_17 : decode prog_10_method_13_code 17 = .ok (.iconst 1, 1) := by decide +kernel
theorem d_Tr_properties_18 : decode prog_10_method_13_code 18 = .ok (.iadd, 1) := by decide +kernel
theorem d_Tr_properties_19 : decode prog_10_method_13_code 19 = .ok (.iconst 2, 1) := by decide +kernel
theorem d_Tr_properties_20 : decode prog_10_method_13_code 20 = .ok (.aload_n 0, 1) := by decide +kernel
theorem d_Tr_properties_21 : decode prog_10_method_13_code 21 = .ok (.getfield 7, 3) := by decide +kernel
theorem d_Tr_properties_24 : decode prog_10_method_13_code 24 = .ok (.iload_n 2, 1) := by decide +kernel
theorem d_Tr_properties_25 : decode prog_10_method_13_code 25 = .ok (.invokevirtual 25, 3) := by decide +kernel
theorem d_Tr_properties_28 : decode prog_10_method_13_code 28 = .ok (.imul, 1) := by decide +kernel
theorem d_Tr_properties_29 : decode prog_10_method_13_code 29 = .ok (.iadd, 1) := by decide +kernel
theorem d_Tr_properties_30 : decode prog_10_method_13_code 30 = .ok (.ireturn, 1) := by decide +kernel
theorem d_Tr_propertyPlace_0 : decode prog_10_method_14_code 0 = .ok (.iload_n 1, 1) := by decide +kernel
theorem d_Tr_propertyPlace_1 : decode prog_10_method_14_code 1 = .ok (.istore_n 3, 1) := by decide +kernel
theorem d_Tr_propertyPlace_2 : decode prog_10_method_14_code 2 = .ok (.iconst 0, 1) := by decide +kernel
theorem d_Tr_propertyPlace_3 : decode prog_10_method_14_code 3 = .ok (.istore 4, 2) := by decide +kernel
theorem d_Tr_propertyPlace_5 : decode prog_10_method_14_code 5 = .ok (.iload 4, 2) := by decide +kernel
theorem d_Tr_propertyPlace_7 : decode prog_10_method_14_code 7 = .ok (.sipush 512, 3) := by decide +kernel
theorem d_Tr_propertyPlace_10 : decode prog_10_method_14_code 10 = .ok (.if_icmp .ge 49, 3) := by decide +kernel
theorem d_Tr_propertyPlace_13 : decode prog_10_method_14_code 13 = .ok (.aload_n 0, 1) := by decide +kernel
theorem d_Tr_propertyPlace_14 : decode prog_10_method_14_code 14 = .ok (.getfield 7, 3) := by decide +kernel
theorem d_Tr_propertyPlace_17 : decode prog_10_method_14_code 17 = .ok (.iload_n 3, 1) := by decide +kernel
theorem d_Tr_propertyPlace_18 : decode prog_10_method_14_code 18 = .ok (.invokevirtual 25, 3) := by decide +kernel
theorem d_Tr_propertyPlace_21 : decode prog_10_method_14_code 21 = .ok (.istore 5, 2) := by decide +kernel
theorem d_Tr_propertyPlace_23 : decode prog_10_method_14_code 23 = .ok (.iload 5, 2) := by decide +kernel
theorem d_Tr_propertyPlace_25 : decode prog_10_method_14_code 25 = .ok (.ifCond .ne 5, 3) := by decide +kernel
theorem d_Tr_propertyPlace_28 : decode prog_10_method_14_code 28 = .ok (.iconst 0, 1) := by decide +kernel
theorem d_Tr_propertyPlace_29 : decode prog_10_method_14_code 29 = .ok (.ireturn, 1) := by decide +kernel
theorem d_Tr_propertyPlace_30 : decode prog_10_method_14_code 30 = .ok (.iload 5, 2) := by decide +kernel
theorem d_Tr_propertyPlace_32 : decode prog_10_method_14_code 32 = .ok (.bipush 31, 2) := by decide +kernel
theorem d_Tr_propertyPlace_34 : decode prog_10_method_14_code 34 = .ok (.iand, 1) := by decide +kernel
theorem d_Tr_propertyPlace_35 : decode prog_10_method_14_code 35 = .ok (.iload_n 2, 1) := by decide +kernel
theorem d_Tr_propertyPlace_36 : decode prog_10_method_14_code 36 = .ok (.if_icmp .ne 7, 3) := by decide +kernel
theorem d_Tr_propertyPlace_39 : decode prog_10_method_14_code 39 = .ok (.iload_n 3, 1) := by decide +kernel
theorem d_Tr_propertyPlace_40 : decode prog_10_method_14_code 40 = .ok (.iconst 1, 1) := by decide +kernel
theorem d_Tr_propertyPlace_41 : decode prog_10_method_14_code 41 = .ok (.iadd, 1) := by decide +kernel
theorem d_Tr_propertyPlace_42 : decode prog_10_method_14_code 42 = .ok (.ireturn, 1) := by decide +kernel
theorem d_Tr_propertyPlace_43 : decode prog_10_method_14_code 43 = .ok (.iload_n 3, 1) := by decide +kernel
theorem d_Tr_propertyPlace_44 : decode prog_10_method_14_code 44 = .ok (.iconst 1, 1) := by decide +kernel
theorem d_Tr_propertyPlace_45 : decode prog_10_method_14_code 45 = .ok (.iload 5, 2) := by decide +kernel
theorem d_Tr_propertyPlace_47 : decode prog_10_method_14_code 47 = .ok (.invokestatic 43, 3) := by decide +kernel
theorem d_Tr_propertyPlace_50 : decode prog_10_method_14_code 50 = .ok (.iadd, 1) := by decide +kernel
theorem d_Tr_propertyPlace_51 : decode prog_10_method_14_code 51 = .ok (.iadd, 1) := by decide +kernel
theorem d_Tr_propertyPlace_52 : decode prog_10_method_14_code 52 = .ok (.istore_n 3, 1) := by decide +kernel
theorem d_Tr_propertyPlace_53 : decode prog_10_method_14_code 53 = .ok (.iinc 4 1, 3) := by decide +kernel
theorem d_Tr_propertyPlace_56 : decode prog_10_method_14_code 56 = .ok (.goto (-51), 3) := by decide +kernel
theorem d_Tr_propertyPlace_59 : decode prog_10_method_14_code 59 = .ok (.new 13, 3) := by decide +kernel
theorem d_Tr_propertyPlace_62 : decode prog_10_method_14_code 62 = .ok (.dup, 1) := by decide +kernel
theorem d_Tr_propertyPlace_63 : decode prog_10_method_14_code 63 = .ok (.invokespecial 15, 3) := by decide +kernel
theorem d_Tr_propertyPlace_66 : decode prog_10_method_14_code 66 = .ok (.athrow, 1) := by decide +kernel
theorem d_Tr_lengthIn_0 : decode prog_10_method_15_code 0 = .ok (.iload_n 0, 1) := by decide +kernel
theorem d_Tr_lengthIn_1 : decode prog_10_method_15_code 1 = .ok (.bipush 32, 2) := by decide +kernel
theorem d_Tr_lengthIn_3 : decode prog_10_method_15_code 3 = .ok (.idiv, 1) := by decide +kernel
theorem d_Tr_lengthIn_4 : decode prog_10_method_15_code 4 = .ok (.iconst 1, 1) := by decide +kernel
theorem d_Tr_lengthIn_5 : decode prog_10_method_15_code 5 = .ok (.iadd, 1) := by decide +kernel
theorem d_Tr_lengthIn_6 : decode prog_10_method_15_code 6 = .ok (.ireturn, 1) := by decide +kernel
theorem d_Tr_propertyLength_0 : decode prog_10_method_16_code 0 = .ok (.aload_n 0, 1) := by decide +kernel
theorem d_Tr_propertyLength_1 : decode prog_10_method_16_code 1 = .ok (.getfield 7, 3) := by decide +kernel
theorem d_Tr_propertyLength_4 : decode prog_10_method_16_code 4 = .ok (.iload_n 1, 1) := by decide +kernel
theorem d_Tr_propertyLength_5 : decode prog_10_method_16_code 5 = .ok (.iconst 1, 1) := by decide +kernel
theorem d_Tr_propertyLength_6 : decode prog_10_method_16_code 6 = .ok (.isub, 1) := by decide +kernel
theorem d_Tr_propertyLength_7 : decode prog_10_method_16_code 7 = .ok (.invokevirtual 25, 3) := by decide +kernel
theorem d_Tr_propertyLength_10 : decode prog_10_method_16_code 10 = .ok (.invokestatic 43, 3) := by decide +kernel
theorem d_Tr_propertyLength_13 : decode prog_10_method_16_code 13 = .ok (.ireturn, 1) := by decide +kernel
theorem d_Tr_propertyValue_0 : decode prog_10_method_17_code 0 = .ok (.aload_n 0, 1) := by decide +kernel
theorem d_Tr_propertyValue_1 : decode prog_10_method_17_code 1 = .ok (.iload_n 1, 1) := by decide +kernel
theorem d_Tr_propertyValue_2 : decode prog_10_method_17_code 2 = .ok (.iload_n 2, 1) := by decide +kernel
theorem d_Tr_propertyValue_3 : decode prog_10_method_17_code 3 = .ok (.invokevirtual 46, 3) := by decide +kernel
theorem d_Tr_propertyValue_6 : decode prog_10_method_17_code 6 = .ok (.istore_n 3, 1) := by decide +kernel
theorem d_Tr_propertyValue_7 : decode prog_10_method_17_code 7 = .ok (.iload_n 3, 1) := by decide +kernel
theorem d_Tr_propertyValue_8 : decode prog_10_method_17_code 8 = .ok (.ifCond .ne 9, 3) := by decide +kernel
theorem d_Tr_propertyValue_11 : decode prog_10_method_17_code 11 = .ok (.aload_n 0, 1) := by decide +kernel
theorem d_Tr_propertyValue_12 : decode prog_10_method_17_code 12 = .ok (.iload_n 2, 1) := by decide +kernel
theorem d_Tr_propertyValue_13 : decode prog_10_method_17_code 13 = .ok (.invokevirtual 49, 3) := by decide +kernel
theorem d_Tr_propertyValue_16 : decode prog_10_method_17_code 16 = .ok (.ireturn, 1) := by decide +kernel
theorem d_Tr_propertyValue_17 : decode prog_10_method_17_code 17 = .ok (.aload_n 0, 1) := by decide +kernel
theorem d_Tr_propertyValue_18 : decode prog_10_method_17_code 18 = .ok (.iload_n 3, 1) := by decide +kernel
theorem d_Tr_propertyValue_19 : decode prog_10_method_17_code 19 = .ok (.invokevirtual 52, 3) := by decide +kernel
theorem d_Tr_propertyValue_22 : decode prog_10_method_17_code 22 = .ok (.istore 4, 2) := by decide +kernel
theorem d_Tr_propertyValue_24 : decode prog_10_method_17_code 24 = .ok (.iload 4, 2) := by decide +kernel
theorem d_Tr_propertyValue_26 : decode prog_10_method_17_code 26 = .ok (.iconst 2, 1) := by decide +kernel
theorem d_Tr_propertyValue_27 : decode prog_10_method_17_code 27 = .ok (.if_icmp .le 11, 3) := by decide +kernel
theorem d_Tr_propertyValue_30 : decode prog_10_method_17_code 30 = .ok (.new 13, 3) := by decide +kernel
theorem d_Tr_propertyValue_33 : decode prog_10_method_17_code 33 = .ok (.dup, 1) := by decide +kernel
theorem d_Tr_propertyValue_34 : decode prog_10_method_17_code 34 = .ok (.invokespecial 15, 3) := by decide +kernel
theorem d_Tr_propertyValue_37 : decode prog_10_method_17_code 37 = .ok (.athrow, 1) := by decide +kernel
theorem d_Tr_propertyValue_38 : decode prog_10_method_17_code 38 = .ok (.iload 4, 2) := by decide +kernel
theorem d_Tr_propertyValue_40 : decode prog_10_method_17_code 40 = .ok (.iconst 1, 1) := by decide +kernel
theorem d_Tr_propertyValue_41 : decode prog_10_method_17_code 41 = .ok (.if_icmp .ne 14, 3) := by decide +kernel
theorem d_Tr_propertyValue_44 : decode prog_10_method_17_code 44 = .ok (.aload_n 0, 1) := by decide +kernel
theorem d_Tr_propertyValue_45 : decode prog_10_method_17_code 45 = .ok (.getfield 7, 3) := by decide +kernel
theorem d_Tr_propertyValue_48 : decode prog_10_method_17_code 48 = .ok (.iload_n 3, 1) := by decide +kernel
theorem d_Tr_propertyValue_49 : decode prog_10_method_17_code 49 = .ok (.invokevirtual 25, 3) := by decide +kernel
theorem d_Tr_propertyValue_52 : decode prog_10_method_17_code 52 = .ok (.goto 11, 3) := by decide +kernel
theorem d_Tr_propertyValue_55 : decode prog_10_method_17_code 55 = .ok (.aload_n 0, 1) := by decide +kernel
theorem d_Tr_propertyValue_56 : decode prog_10_method_17_code 56 = .ok (.getfield 7, 3) := by decide +kernel
theorem d_Tr_propertyValue_59 : decode prog_10_method_17_code 59 = .ok (.iload_n 3, 1) := by decide +kernel
theorem d_Tr_propertyValue_60 : decode prog_10_method_17_code 60 = .ok (.invokevirtual 18, 3) := by decide +kernel
theorem d_Tr_propertyValue_63 : decode prog_10_method_17_code 63 = .ok (.ireturn, 1) := by decide +kernel
theorem d_Tr_defaultOf_0 : decode prog_10_method_18_code 0 = .ok (.iload_n 1, 1) := by decide +kernel
theorem d_Tr_defaultOf_1 : decode prog_10_method_18_code 1 = .ok (.iconst 1, 1) := by decide +kernel
theorem d_Tr_defaultOf_2 : decode prog_10_method_18_code 2 = .ok (.if_icmp .lt 9, 3) := by decide +kernel
theorem d_Tr_defaultOf_5 : decode prog_10_method_18_code 5 = .ok (.iload_n 1, 1) := by decide +kernel
theorem d_Tr_defaultOf_6 : decode prog_10_method_18_code 6 = .ok (.bipush 7, 2) := by decide +kernel
theorem d_Tr_defaultOf_8 : decode prog_10_method_18_code 8 = .ok (.if_icmp .le 11, 3) := by decide +kernel
theorem d_Tr_defaultOf_11 : decode prog_10_method_18_code 11 = .ok (.new 13, 3) := by decide +kernel
theorem d_Tr_defaultOf_14 : decode prog_10_method_18_code 14 = .ok (.dup, 1) := by decide +kernel
theorem d_Tr_defaultOf_15 : decode prog_10_method_18_code 15 = .ok (.invokespecial 15, 3) := by decide +kernel
theorem d_Tr_defaultOf_18 : decode prog_10_method_18_code 18 = .ok (.athrow, 1) := by decide +kernel
theorem d_Tr_defaultOf_19 : decode prog_10_method_18_code 19 = .ok (.aload_n 0, 1) := by decide +kernel
theorem d_Tr_defaultOf_20 : decode prog_10_method_18_code 20 = .ok (.getfield 7, 3) := by decide +kernel
theorem d_Tr_defaultOf_23 : decode prog_10_method_18_code 23 = .ok (.aload_n 0, 1) := by decide +kernel
theorem d_Tr_defaultOf_24 : decode prog_10_method_18_code 24 = .ok (.getfield 7, 3) := by decide +kernel
theorem d_Tr_defaultOf_27 : decode prog_10_method_18_code 27 = .ok (.bipush 8, 2) := by decide +kernel
theorem d_Tr_defaultOf_29 : decode prog_10_method_18_code 29 = .ok (.invokevirtual 18, 3) := by decide +kernel
theorem d_Tr_defaultOf_32 : decode prog_10_method_18_code 32 = .ok (.iconst 2, 1) := by decide +kernel
theorem d_Tr_defaultOf_33 : decode prog_10_method_18_code 33 = .ok (.iload_n 1, 1) := by decide +kernel
theorem d_Tr_defaultOf_34 : decode prog_10_method_18_code 34 = .ok (.iconst 1, 1) := by decide +kernel
theorem d_Tr_defaultOf_35 : decode prog_10_method_18_code 35 = .ok (.isub, 1) := by decide +kernel
theorem d_Tr_defaultOf_36 : decode prog_10_method_18_code 36 = .ok (.imul, 1) := by decide +kernel
theorem d_Tr_defaultOf_37 : decode prog_10_method_18_code 37 = .ok (.iadd, 1) := by decide +kernel
theorem d_Tr_defaultOf_38 : decode prog_10_method_18_code 38 = .ok (.invokevirtual 18, 3) := by decide +kernel
theorem d_Tr_defaultOf_41 : decode prog_10_method_18_code 41 = .ok (.ireturn, 1) := by decide +kernel
theorem d_Tr_setProperty_0 : decode prog_10_method_19_code 0 = .ok (.aload_n 0, 1) := by decide +kernel
theorem d_Tr_setProperty_1 : decode prog_10_method_19_code 1 = .ok (.iload_n 1, 1) := by decide +kernel
theorem d_Tr_setProperty_2 : decode prog_10_method_19_code 2 = .ok (.iload_n 2, 1) := by decide +kernel
theorem d_Tr_setProperty_3 : decode prog_10_method_19_code 3 = .ok (.invokevirtual 46, 3) := by decide +kernel
theorem d_Tr_setProperty_6 : decode prog_10_method_19_code 6 = .ok (.istore 4, 2) := by decide +kernel
theorem d_Tr_setProperty_8 : decode prog_10_method_19_code 8 = .ok (.iload 4, 2) := by decide +kernel
theorem d_Tr_setProperty_10 : decode prog_10_method_19_code 10 = .ok (.ifCond .ne 7, 3) := by decide +kernel
theorem d_Tr_setProperty_13 : decode prog_10_method_19_code 13 = .ok (.iconst 0, 1) := by decide +kernel
theorem d_Tr_setProperty_14 : decode prog_10_method_19_code 14 = .ok (.goto 9, 3) := by decide +kernel
theorem d_Tr_setProperty_17 : decode prog_10_method_19_code 17 = .ok (.aload_n 0, 1) := by decide +kernel
theorem d_Tr_setProperty_18 : decode prog_10_method_19_code 18 = .ok (.iload 4, 2) := by decide +kernel
theorem d_Tr_setProperty_20 : decode prog_10_method_19_code 20 = .ok (.invokevirtual 52, 3) := by decide +kernel
theorem d_Tr_setProperty_23 : decode prog_10_method_19_code 23 = .ok (.istore 5, 2) := by decide +kernel
theorem d_Tr_setProperty_25 : decode prog_10_method_19_code 25 = .ok (.iload 5, 2) := by decide +kernel
theorem d_Tr_setProperty_27 : decode prog_10_method_19_code 27 = .ok (.iconst 1, 1) := by decide +kernel
theorem d_Tr_setProperty_28 : decode prog_10_method_19_code 28 = .ok (.if_icmp .ne 16, 3) := by decide +kernel
theorem d_Tr_setProperty_31 : decode prog_10_method_19_code 31 = .ok (.aload_n 0, 1) := by decide +kernel
theorem d_Tr_setProperty_32 : decode prog_10_method_19_code 32 = .ok (.getfield 7, 3) := by decide +kernel
theorem d_Tr_setProperty_35 : decode prog_10_method_19_code 35 = .ok (.iload 4, 2) := by decide +kernel
theorem d_Tr_setProperty_37 : decode prog_10_method_19_code 37 = .ok (.iload_n 3, 1) := by decide +kernel
theorem d_Tr_setProperty_38 : decode prog_10_method_19_code 38 = .ok (.invokevirtual 32, 3) := by decide +kernel
theorem d_Tr_setProperty_41 : decode prog_10_method_19_code 41 = .ok (.goto 30, 3) := by decide +kernel
theorem d_Tr_setProperty_44 : decode prog_10_method_19_code 44 = .ok (.iload 5, 2) := by decide +kernel
theorem d_Tr_setProperty_46 : decode prog_10_method_19_code 46 = .ok (.iconst 2, 1) := by decide +kernel
theorem d_Tr_setProperty_47 : decode prog_10_method_19_code 47 = .ok (.if_icmp .ne 16, 3) := by decide +kernel
theorem d_Tr_setProperty_50 : decode prog_10_method_19_code 50 = .ok (.aload_n 0, 1) := by decide +kernel
theorem d_Tr_setProperty_51 : decode prog_10_method_19_code 51 = .ok (.getfield 7, 3) := by decide +kernel
theorem d_Tr_setProperty_54 : decode prog_10_method_19_code 54 = .ok (.iload 4, 2) := by decide +kernel
theorem d_Tr_setProperty_56 : decode prog_10_method_19_code 56 = .ok (.iload_n 3, 1) := by decide +kernel
theorem d_Tr_setProperty_57 : decode prog_10_method_19_code 57 = .ok (.invokevirtual 55, 3) := by decide +kernel
theorem d_Tr_setProperty_60 : decode prog_10_method_19_code 60 = .ok (.goto 11, 3) := by decide +kernel
theorem d_Tr_setProperty_63 : decode prog_10_method_19_code 63 = .ok (.new 13, 3) := by decide +kernel
theorem d_Tr_setProperty_66 : decode prog_10_method_19_code 66 = .ok (.dup, 1) := by decide +kernel
theorem d_Tr_setProperty_67 : decode prog_10_method_19_code 67 = .ok (.invokespecial 15, 3) := by decide +kernel
theorem d_Tr_setProperty_70 : decode prog_10_method_19_code 70 = .ok (.athrow, 1) := by decide +kernel
theorem d_Tr_setProperty_71 : decode prog_10_method_19_code 71 = .ok (.return_, 1) := by decide +kernel
theorem d_Tr_propertyBehind_0 : decode prog_10_method_20_code 0 = .ok (.iload_n 2, 1) := by decide +kernel
theorem d_Tr_propertyBehind_1 : decode prog_10_method_20_code 1 = .ok (.ifCond .ne 15, 3) := by decide +kernel
theorem d_Tr_propertyBehind_4 : decode prog_10_method_20_code 4 = .ok (.aload_n 0, 1) := by decide +kernel
theorem d_Tr_propertyBehind_5 : decode prog_10_method_20_code 5 = .ok (.getfield 7, 3) := by decide +kernel
theorem d_Tr_propertyBehind_8 : decode prog_10_method_20_code 8 = .ok (.iload_n 1, 1) := by decide +kernel
theorem d_Tr_propertyBehind_9 : decode prog_10_method_20_code 9 = .ok (.invokevirtual 25, 3) := by decide +kernel
theorem d_Tr_propertyBehind_12 : decode prog_10_method_20_code 12 = .ok (.bipush 31, 2) := by decide +kernel
theorem d_Tr_propertyBehind_14 : decode prog_10_method_20_code 14 = .ok (.iand, 1) := by decide +kernel
theorem d_Tr_propertyBehind_15 : decode prog_10_method_20_code 15 = .ok (.ireturn, 1) := by decide +kernel
theorem d_Tr_propertyBehind_16 : decode prog_10_method_20_code 16 = .ok (.aload_n 0, 1) := by decide +kernel
theorem d_Tr_propertyBehind_17 : decode prog_10_method_20_code 17 = .ok (.iload_n 1, 1) := by decide +kernel
theorem d_Tr_propertyBehind_18 : decode prog_10_method_20_code 18 = .ok (.iload_n 2, 1) := by decide +kernel
theorem d_Tr_propertyBehind_19 : decode prog_10_method_20_code 19 = .ok (.invokevirtual 46, 3) := by decide +kernel
theorem d_Tr_propertyBehind_22 : decode prog_10_method_20_code 22 = .ok (.istore_n 3, 1) := by decide +kernel
theorem d_Tr_propertyBehind_23 : decode prog_10_method_20_code 23 = .ok (.iload_n 3, 1) := by decide +kernel
theorem d_Tr_propertyBehind_24 : decode prog_10_method_20_code 24 = .ok (.ifCond .ne 11, 3) := by decide +kernel
theorem d_Tr_propertyBehind_27 : decode prog_10_method_20_code 27 = .ok (.new 13, 3) := by decide +kernel
theorem d_Tr_propertyBehind_30 : decode prog_10_method_20_code 30 = .ok (.dup, 1) := by decide +kernel
theorem d_Tr_propertyBehind_31 : decode prog_10_method_20_code 31 = .ok (.invokespecial 15, 3) := by decide +kernel
theorem d_Tr_propertyBehind_34 : decode prog_10_method_20_code 34 = .ok (.athrow, 1) := by decide +kernel
theorem d_Tr_propertyBehind_35 : decode prog_10_method_20_code 35 = .ok (.aload_n 0, 1) := by decide +kernel
theorem d_Tr_propertyBehind_36 : decode prog_10_method_20_code 36 = .ok (.getfield 7, 3) := by decide +kernel
theorem d_Tr_propertyBehind_39 : decode prog_10_method_20_code 39 = .ok (.iload_n 3, 1) := by decide +kernel
theorem d_Tr_propertyBehind_40 : decode prog_10_method_20_code 40 = .ok (.aload_n 0, 1) := by decide +kernel
theorem d_Tr_propertyBehind_41 : decode prog_10_method_20_code 41 = .ok (.iload_n 3, 1) := by decide +kernel
theorem d_Tr_propertyBehind_42 : decode prog_10_method_20_code 42 = .ok (.invokevirtual 52, 3) := by decide +kernel
theorem d_Tr_propertyBehind_45 : decode prog_10_method_20_code 45 = .ok (.iadd, 1) := by decide +kernel
theorem d_Tr_propertyBehind_46 : decode prog_10_method_20_code 46 = .ok (.invokevirtual 25, 3) := by decide +kernel
theorem d_Tr_propertyBehind_49 : decode prog_10_method_20_code 49 = .ok (.bipush 31, 2) := by decide +kernel
theorem d_Tr_propertyBehind_51 : decode prog_10_method_20_code 51 = .ok (.iand, 1) := by decide +kernel
theorem d_Tr_propertyBehind_52 : decode prog_10_method_20_code 52 = .ok (.ireturn, 1) := by decide +kernel
theorem d_Di_isSeparator_0 : decode prog_3_method_4_code 0 = .ok (.aload_n 0, 1) := by decide +kernel
theorem d_Di_isSeparator_1 : decode prog_3_method_4_code 1 = .ok (.getfield 21, 3) := by decide +kernel
theorem d_Di_isSeparator_4 : decode prog_3_method_4_code 4 = .ok (.bipush 6, 2) := by decide +kernel
theorem d_Di_isSeparator_6 : decode prog_3_method_4_code 6 = .ok (.invokevirtual 39, 3) := by decide +kernel
theorem d_Di_isSeparator_9 : decode prog_3_method_4_code 9 = .ok (.istore_n 2, 1) := by decide +kernel
theorem d_Di_isSeparator_10 : decode prog_3_method_4_code 10 = .ok (.aload_n 0, 1) := by decide +kernel
theorem d_Di_isSeparator_11 : decode prog_3_method_4_code 11 = .ok (.getfield 21, 3) := by decide +kernel
theorem d_Di_isSeparator_14 : decode prog_3_method_4_code 14 = .ok (.iload_n 2, 1) := by decide +kernel
theorem d_Di_isSeparator_15 : decode prog_3_method_4_code 15 = .ok (.invokevirtual 43, 3) := by decide +kernel
theorem d_Di_isSeparator_18 : decode prog_3_method_4_code 18 = .ok (.istore_n 3, 1) := by decide +kernel
theorem d_Di_isSeparator_19 : decode prog_3_method_4_code 19 = .ok (.iconst 1, 1) := by decide +kernel
theorem d_Di_isSeparator_20 : decode prog_3_method_4_code 20 = .ok (.istore 4, 2) := by decide +kernel
theorem d_Di_isSeparator_22 : decode prog_3_method_4_code 22 = .ok (.iload 4, 2) := by decide +kernel
theorem d_Di_isSeparator_24 : decode prog_3_method_4_code 24 = .ok (.iload_n 3, 1) := by decide +kernel
theorem d_Di_isSeparator_25 : decode prog_3_method_4_code 25 = .ok (.if_icmp .gt 26, 3) := by decide +kernel
theorem d_Di_isSeparator_28 : decode prog_3_method_4_code 28 = .ok (.aload_n 0, 1) := by decide +kernel
theorem d_Di_isSeparator_29 : decode prog_3_method_4_code 29 = .ok (.getfield 21, 3) := by decide +kernel
theorem d_Di_isSeparator_32 : decode prog_3_method_4_code 32 = .ok (.iload_n 2, 1) := by decide +kernel
theorem d_Di_isSeparator_33 : decode prog_3_method_4_code 33 = .ok (.iload 4, 2) := by decide +kernel
theorem d_Di_isSeparator_35 : decode prog_3_method_4_code 35 = .ok (.iadd, 1) := by decide +kernel
theorem d_Di_isSeparator_36 : decode prog_3_method_4_code 36 = .ok (.invokevirtual 43, 3) := by decide +kernel
theorem d_Di_isSeparator_39 : decode prog_3_method_4_code 39 = .ok (.iload_n 1, 1) := by decide +kernel
theorem d_Di_isSeparator_40 : decode prog_3_method_4_code 40 = .ok (.if_icmp .ne 5, 3) := by decide +kernel
theorem d_Di_isSeparator_43 : decode prog_3_method_4_code 43 = .ok (.iconst 1, 1) := by decide +kernel
theorem d_Di_isSeparator_44 : decode prog_3_method_4_code 44 = .ok (.ireturn, 1) := by decide +kernel
theorem d_Di_isSeparator_45 : decode prog_3_method_4_code 45 = .ok (.iinc 4 1, 3) := by decide +kernel
theorem d_Di_isSeparator_48 : decode prog_3_method_4_code 48 = .ok (.goto (-26), 3) := by decide +kernel
theorem d_Di_isSeparator_51 : decode prog_3_method_4_code 51 = .ok (.iconst 0, 1) := by decide +kernel
theorem d_Di_isSeparator_52 : decode prog_3_method_4_code 52 = .ok (.ireturn, 1) := by decide +kernel
theorem d_Di_addLetter_0 : decode prog_3_method_8_code 0 = .ok (.aload_n 0, 1) := by decide +kernel
theorem d_Di_addLetter_1 : decode prog_3_method_8_code 1 = .ok (.getfield 57, 3) := by decide +kernel
theorem d_Di_addLetter_4 : decode prog_3_method_8_code 4 = .ok (.bipush 6, 2) := by decide +kernel
theorem d_Di_addLetter_6 : decode prog_3_method_8_code 6 = .ok (.if_icmp .ge 23, 3) := by decide +kernel
theorem d_Di_addLetter_9 : decode prog_3_method_8_code 9 = .ok (.aload_n 0, 1) := by decide +kernel
theorem d_Di_addLetter_10 : decode prog_3_method_8_code 10 = .ok (.getfield 18, 3) := by decide +kernel
theorem d_Di_addLetter_13 : decode prog_3_method_8_code 13 = .ok (.aload_n 0, 1) := by decide +kernel
theorem d_Di_addLetter_14 : decode prog_3_method_8_code 14 = .ok (.getfield 57, 3) := by decide +kernel
theorem d_Di_addLetter_17 : decode prog_3_method_8_code 17 = .ok (.iload_n 1, 1) := by decide +kernel
theorem d_Di_addLetter_18 : decode prog_3_method_8_code 18 = .ok (.iastore, 1) := by decide +kernel
theorem d_Di_addLetter_19 : decode prog_3_method_8_code 19 = .ok (.aload_n 0, 1) := by decide +kernel
theorem d_Di_addLetter_20 : decode prog_3_method_8_code 20 = .ok (.dup, 1) := by decide +kernel
theorem d_Di_addLetter_21 : decode prog_3_method_8_code 21 = .ok (.getfield 57, 3) := by decide +kernel
theorem d_Di_addLetter_24 : decode prog_3_method_8_code 24 = .ok (.iconst 1, 1) := by decide +kernel
theorem d_Di_addLetter_25 : decode prog_3_method_8_code 25 = .ok (.iadd, 1) := by decide +kernel
theorem d_Di_addLetter_26 : decode prog_3_method_8_code 26 = .ok (.putfield 57, 3) := by decide +kernel
theorem d_Di_addLetter_29 : decode prog_3_method_8_code 29 = .ok (.return_, 1) := by decide +kernel
theorem d_Di_packedWord_0 : decode prog_3_method_9_code 0 = .ok (.aload_n 0, 1) := by decide +kernel
theorem d_Di_packedWord_1 : decode prog_3_method_9_code 1 = .ok (.getfield 18, 3) := by decide +kernel
theorem d_Di_packedWord_4 : decode prog_3_method_9_code 4 = .ok (.iload_n 1, 1) := by decide +kernel
theorem d_Di_packedWord_5 : decode prog_3_method_9_code 5 = .ok (.iaload, 1) := by decide +kernel
theorem d_Di_packedWord_6 : decode prog_3_method_9_code 6 = .ok (.bipush 10, 2) := by decide +kernel
theorem d_Di_packedWord_8 : decode prog_3_method_9_code 8 = .ok (.ishl, 1) := by decide +kernel
theorem d_Di_packedWord_9 : decode prog_3_method_9_code 9 = .ok (.aload_n 0, 1) := by decide +kernel
theorem d_Di_packedWord_10 : decode prog_3_method_9_code 10 = .ok (.getfield 18, 3) := by decide +kernel
theorem d_Di_packedWord_13 : decode prog_3_method_9_code 13 = .ok (.iload_n 1, 1) := by decide +kernel
theorem d_Di_packedWord_14 : decode prog_3_method_9_code 14 = .ok (.iconst 1, 1) := by decide +kernel
theorem d_Di_packedWord_15 : decode prog_3_method_9_code 15 = .ok (.iadd, 1) := by decide +kernel
theorem d_Di_packedWord_16 : decode prog_3_method_9_code 16 = .ok (.iaload, 1) := by decide +kernel
theorem d_Di_packedWord_17 : decode prog_3_method_9_code 17 = .ok (.iconst 5, 1) := by decide +kernel
theorem d_Di_packedWord_18 : decode prog_3_method_9_code 18 = .ok (.ishl, 1) := by decide +kernel
theorem d_Di_packedWord_19 : decode prog_3_method_9_code 19 = .ok (.ior, 1) := by decide +kernel
theorem d_Di_packedWord_20 : decode prog_3_method_9_code 20 = .ok (.aload_n 0, 1) := by decide +kernel
theorem d_Di_packedWord_21 : decode prog_3_method_9_code 21 = .ok (.getfield 18, 3) := by decide +kernel
theorem d_Di_packedWord_24 : decode prog_3_method_9_code 24 = .ok (.iload_n 1, 1) := by decide +kernel
theorem d_Di_packedWord_25 : decode prog_3_method_9_code 25 = .ok (.iconst 2, 1) := by decide +kernel
theorem d_Di_packedWord_26 : decode prog_3_method_9_code 26 = .ok (.iadd, 1) := by decide +kernel
theorem d_Di_packedWord_27 : decode prog_3_method_9_code 27 = .ok (.iaload, 1) := by decide +kernel
theorem d_Di_packedWord_28 : decode prog_3_method_9_code 28 = .ok (.ior, 1) := by decide +kernel
theorem d_Di_packedWord_29 : decode prog_3_method_9_code 29 = .ok (.ireturn, 1) := by decide +kernel
theorem d_As_keep_0 : decode prog_2_method_2_code 0 = .ok (.aload_n 0, 1) := by decide +kernel
theorem d_As_keep_1 : decode prog_2_method_2_code 1 = .ok (.getfield 10, 3) := by decide +kernel
theorem d_As_keep_4 : decode prog_2_method_2_code 4 = .ok (.aload_n 1, 1) := by decide +kernel
theorem d_As_keep_5 : decode prog_2_method_2_code 5 = .ok (.invokevirtual 23, 3) := by decide +kernel
theorem d_As_keep_8 : decode prog_2_method_2_code 8 = .ok (.aload_n 0, 1) := by decide +kernel
theorem d_As_keep_9 : decode prog_2_method_2_code 9 = .ok (.getfield 19, 3) := by decide +kernel
theorem d_As_keep_12 : decode prog_2_method_2_code 12 = .ok (.aload_n 2, 1) := by decide +kernel
theorem d_As_keep_13 : decode prog_2_method_2_code 13 = .ok (.invokevirtual 27, 3) := by decide +kernel
theorem d_As_keep_16 : decode prog_2_method_2_code 16 = .ok (.aload_n 0, 1) := by decide +kernel
theorem d_As_keep_17 : decode prog_2_method_2_code 17 = .ok (.iload_n 3, 1) := by decide +kernel
theorem d_As_keep_18 : decode prog_2_method_2_code 18 = .ok (.putfield 30, 3) := by decide +kernel
theorem d_As_keep_21 : decode prog_2_method_2_code 21 = .ok (.aload_n 0, 1) := by decide +kernel
theorem d_As_keep_22 : decode prog_2_method_2_code 22 = .ok (.iconst 1, 1) := by decide +kernel
theorem d_As_keep_23 : decode prog_2_method_2_code 23 = .ok (.putfield 34, 3) := by decide +kernel
theorem d_As_keep_26 : decode prog_2_method_2_code 26 = .ok (.return_, 1) := by decide +kernel
theorem d_As_bringBack_0 : decode prog_2_method_3_code 0 = .ok (.aload_n 1, 1) := by decide +kernel
theorem d_As_bringBack_1 : decode prog_2_method_3_code 1 = .ok (.aload_n 0, 1) := by decide +kernel
theorem d_As_bringBack_2 : decode prog_2_method_3_code 2 = .ok (.getfield 10, 3) := by decide +kernel
theorem d_As_bringBack_5 : decode prog_2_method_3_code 5 = .ok (.invokevirtual 23, 3) := by decide +kernel
theorem d_As_bringBack_8 : decode prog_2_method_3_code 8 = .ok (.aload_n 2, 1) := by decide +kernel
theorem d_As_bringBack_9 : decode prog_2_method_3_code 9 = .ok (.aload_n 0, 1) := by decide +kernel
theorem d_As_bringBack_10 : decode prog_2_method_3_code 10 = .ok (.getfield 19, 3) := by decide +kernel
theorem d_As_bringBack_13 : decode prog_2_method_3_code 13 = .ok (.invokevirtual 27, 3) := by decide +kernel
theorem d_As_bringBack_16 : decode prog_2_method_3_code 16 = .ok (.aload_n 0, 1) := by decide +kernel
theorem d_As_bringBack_17 : decode prog_2_method_3_code 17 = .ok (.getfield 30, 3) := by decide +kernel
theorem d_As_bringBack_20 : decode prog_2_method_3_code 20 = .ok (.ireturn, 1) := by decide +kernel
theorem d_Pr_putText_0 : decode prog_8_method_5_code 0 = .ok (.aload_n 0, 1) := by decide +kernel
theorem d_Pr_putText_1 : decode prog_8_method_5_code 1 = .ok (.iconst 0, 1) := by decide +kernel
theorem d_Pr_putText_2 : decode prog_8_method_5_code 2 = .ok (.putfield 31, 3) := by decide +kernel
theorem d_Pr_putText_5 : decode prog_8_method_5_code 5 = .ok (.iload_n 1, 1) := by decide +kernel
theorem d_Pr_putText_6 : decode prog_8_method_5_code 6 = .ok (.istore_n 2, 1) := by decide +kernel
theorem d_Pr_putText_7 : decode prog_8_method_5_code 7 = .ok (.iload_n 2, 1) := by decide +kernel
theorem d_Pr_putText_8 : decode prog_8_method_5_code 8 = .ok (.sipush 512, 3) := by decide +kernel
theorem d_Pr_putText_11 : decode prog_8_method_5_code 11 = .ok (.if_icmp .ge 57, 3) := by decide +kernel
theorem d_Pr_putText_14 : decode prog_8_method_5_code 14 = .ok (.aload_n 0, 1) := by decide +kernel
theorem d_Pr_putText_15 : decode prog_8_method_5_code 15 = .ok (.getfield 13, 3) := by decide +kernel
theorem d_Pr_putText_18 : decode prog_8_method_5_code 18 = .ok (.iload_n 2, 1) := by decide +kernel
theorem d_Pr_putText_19 : decode prog_8_method_5_code 19 = .ok (.invokevirtual 36, 3) := by decide +kernel
theorem d_Pr_putText_22 : decode prog_8_method_5_code 22 = .ok (.istore_n 3, 1) := by decide +kernel
theorem d_Pr_putText_23 : decode prog_8_method_5_code 23 = .ok (.aload_n 0, 1) := by decide +kernel
theorem d_Pr_putText_24 : decode prog_8_method_5_code 24 = .ok (.iload_n 3, 1) := by decide +kernel
theorem d_Pr_putText_25 : decode prog_8_method_5_code 25 = .ok (.bipush 10, 2) := by decide +kernel
theorem d_Pr_putText_27 : decode prog_8_method_5_code 27 = .ok (.ishr, 1) := by decide +kernel
theorem d_Pr_putText_28 : decode prog_8_method_5_code 28 = .ok (.bipush 31, 2) := by decide +kernel
theorem d_Pr_putText_30 : decode prog_8_method_5_code 30 = .ok (.iand, 1) := by decide +kernel
theorem d_Pr_putText_31 : decode prog_8_method_5_code 31 = .ok (.invokevirtual 39, 3) := by decide +kernel
theorem d_Pr_putText_34 : decode prog_8_method_5_code 34 = .ok (.aload_n 0, 1) := by decide +kernel
theorem d_Pr_putText_35 : decode prog_8_method_5_code 35 = .ok (.iload_n 3, 1) := by decide +kernel
theorem d_Pr_putText_36 : decode prog_8_method_5_code 36 = .ok (.iconst 5, 1) := by decide +kernel
theorem d_Pr_putText_37 : decode prog_8_method_5_code 37 = .ok (.ishr, 1) := by decide +kernel
theorem d_Pr_putText_38 : decode prog_8_method_5_code 38 = .ok (.bipush 31, 2) := by decide +kernel
theorem d_Pr_putText_40 : decode prog_8_method_5_code 40 = .ok (.iand, 1) := by decide +kernel
theorem d_Pr_putText_41 : decode prog_8_method_5_code 41 = .ok (.invokevirtual 39, 3) := by decide +kernel
theorem d_Pr_putText_44 : decode prog_8_method_5_code 44 = .ok (.aload_n 0, 1) := by decide +kernel
theorem d_Pr_putText_45 : decode prog_8_method_5_code 45 = .ok (.iload_n 3, 1) := by decide +kernel
theorem d_Pr_putText_46 : decode prog_8_method_5_code 46 = .ok (.bipush 31, 2) := by decide +kernel
theorem d_Pr_putText_48 : decode prog_8_method_5_code 48 = .ok (.iand, 1) := by decide +kernel
theorem d_Pr_putText_49 : decode prog_8_method_5_code 49 = .ok (.invokevirtual 39, 3) := by decide +kernel
theorem d_Pr_putText_52 : decode prog_8_method_5_code 52 = .ok (.iload_n 3, 1) := by decide +kernel
theorem d_Pr_putText_53 : decode prog_8_method_5_code 53 = .ok (.ldc 42, 2) := by decide +kernel
theorem d_Pr_putText_55 : decode prog_8_method_5_code 55 = .ok (.if_icmp .lt 7, 3) := by decide +kernel
theorem d_Pr_putText_58 : decode prog_8_method_5_code 58 = .ok (.iload_n 2, 1) := by decide +kernel
theorem d_Pr_putText_59 : decode prog_8_method_5_code 59 = .ok (.iconst 2, 1) := by decide +kernel
theorem d_Pr_putText_60 : decode prog_8_method_5_code 60 = .ok (.iadd, 1) := by decide +kernel
theorem d_Pr_putText_61 : decode prog_8_method_5_code 61 = .ok (.ireturn, 1) := by decide +kernel
theorem d_Pr_putText_62 : decode prog_8_method_5_code 62 = .ok (.iinc 2 2, 3) := by decide +kernel
theorem d_Pr_putText_65 : decode prog_8_method_5_code 65 = .ok (.goto (-58), 3) := by decide +kernel
theorem d_Pr_putText_68 : decode prog_8_method_5_code 68 = .ok (.new 43, 3) := by decide +kernel
theorem d_Pr_putText_71 : decode prog_8_method_5_code 71 = .ok (.dup, 1) := by decide +kernel
theorem d_Pr_putText_72 : decode prog_8_method_5_code 72 = .ok (.invokespecial 45, 3) := by decide +kernel
theorem d_Pr_putText_75 : decode prog_8_method_5_code 75 = .ok (.athrow, 1) := by decide +kernel
theorem d_Pr_putLetter_0 : decode prog_8_method_6_code 0 = .ok (.aload_n 0, 1) := by decide +kernel
theorem d_Pr_putLetter_1 : decode prog_8_method_6_code 1 = .ok (.getfield 31, 3) := by decide +kernel
theorem d_Pr_putLetter_4 : decode prog_8_method_6_code 4 = .ok (.istore_n 2, 1) := by decide +kernel
theorem d_Pr_putLetter_5 : decode prog_8_method_6_code 5 = .ok (.aload_n 0, 1) := by decide +kernel
theorem d_Pr_putLetter_6 : decode prog_8_method_6_code 6 = .ok (.iconst 0, 1) := by decide +kernel
theorem d_Pr_putLetter_7 : decode prog_8_method_6_code 7 = .ok (.putfield 31, 3) := by decide +kernel
theorem d_Pr_putLetter_10 : decode prog_8_method_6_code 10 = .ok (.iload_n 2, 1) := by decide +kernel
theorem d_Pr_putLetter_11 : decode prog_8_method_6_code 11 = .ok (.iconst 3, 1) := by decide +kernel
theorem d_Pr_putLetter_12 : decode prog_8_method_6_code 12 = .ok (.if_icmp .ne 16, 3) := by decide +kernel
theorem d_Pr_putLetter_15 : decode prog_8_method_6_code 15 = .ok (.aload_n 0, 1) := by decide +kernel
theorem d_Pr_putLetter_16 : decode prog_8_method_6_code 16 = .ok (.iload_n 1, 1) := by decide +kernel
theorem d_Pr_putLetter_17 : decode prog_8_method_6_code 17 = .ok (.putfield 46, 3) := by decide +kernel
theorem d_Pr_putLetter_20 : decode prog_8_method_6_code 20 = .ok (.aload_n 0, 1) := by decide +kernel
theorem d_Pr_putLetter_21 : decode prog_8_method_6_code 21 = .ok (.iconst 4, 1) := by decide +kernel
theorem d_Pr_putLetter_22 : decode prog_8_method_6_code 22 = .ok (.putfield 31, 3) := by decide +kernel
theorem d_Pr_putLetter_25 : decode prog_8_method_6_code 25 = .ok (.goto 79, 3) := by decide +kernel
theorem d_Pr_putLetter_28 : decode prog_8_method_6_code 28 = .ok (.iload_n 2, 1) := by decide +kernel
theorem d_Pr_putLetter_29 : decode prog_8_method_6_code 29 = .ok (.iconst 4, 1) := by decide +kernel
theorem d_Pr_putLetter_30 : decode prog_8_method_6_code 30 = .ok (.if_icmp .ne 23, 3) := by decide +kernel
theorem d_Pr_putLetter_33 : decode prog_8_method_6_code 33 = .ok (.aload_n 0, 1) := by decide +kernel
theorem d_Pr_putLetter_34 : decode prog_8_method_6_code 34 = .ok (.bipush 32, 2) := by decide +kernel
theorem d_Pr_putLetter_36 : decode prog_8_method_6_code 36 = .ok (.aload_n 0, 1) := by decide +kernel
theorem d_Pr_putLetter_37 : decode prog_8_method_6_code 37 = .ok (.getfield 46, 3) := by decide +kernel
theorem d_Pr_putLetter_40 : decode prog_8_method_6_code 40 = .ok (.imul, 1) := by decide +kernel
theorem d_Pr_putLetter_41 : decode prog_8_method_6_code 41 = .ok (.iload_n 1, 1) := by decide +kernel
theorem d_Pr_putLetter_42 : decode prog_8_method_6_code 42 = .ok (.iadd, 1) := by decide +kernel
theorem d_Pr_putLetter_43 : decode prog_8_method_6_code 43 = .ok (.sipush 255, 3) := by decide +kernel
theorem d_Pr_putLetter_46 : decode prog_8_method_6_code 46 = .ok (.iand, 1) := by decide +kernel
theorem d_Pr_putLetter_47 : decode prog_8_method_6_code 47 = .ok (.invokevirtual 21, 3) := by decide +kernel
theorem d_Pr_putLetter_50 : decode prog_8_method_6_code 50 = .ok (.goto 54, 3) := by decide +kernel
theorem d_Pr_putLetter_53 : decode prog_8_method_6_code 53 = .ok (.iload_n 1, 1) := by decide +kernel
theorem d_Pr_putLetter_54 : decode prog_8_method_6_code 54 = .ok (.ifCond .ne 12, 3) := by decide +kernel
theorem d_Pr_putLetter_57 : decode prog_8_method_6_code 57 = .ok (.aload_n 0, 1) := by decide +kernel
theorem d_Pr_putLetter_58 : decode prog_8_method_6_code 58 = .ok (.bipush 32, 2) := by decide +kernel
theorem d_Pr_putLetter_60 : decode prog_8_method_6_code 60 = .ok (.invokevirtual 21, 3) := by decide +kernel
theorem d_Pr_putLetter_63 : decode prog_8_method_6_code 63 = .ok (.goto 41, 3) := by decide +kernel
theorem d_Pr_putLetter_66 : decode prog_8_method_6_code 66 = .ok (.iload_n 1, 1) := by decide +kernel
theorem d_Pr_putLetter_67 : decode prog_8_method_6_code 67 = .ok (.iconst 4, 1) := by decide +kernel
theorem d_Pr_putLetter_68 : decode prog_8_method_6_code 68 = .ok (.if_icmp .ne 11, 3) := by decide +kernel
theorem d_Pr_putLetter_71 : decode prog_8_method_6_code 71 = .ok (.aload_n 0, 1) := by decide +kernel
theorem d_Pr_putLetter_72 : decode prog_8_method_6_code 72 = .ok (.iconst 1, 1) := by decide +kernel
theorem d_Pr_putLetter_73 : decode prog_8_method_6_code 73 = .ok (.putfield 31, 3) := by decide +kernel
theorem d_Pr_putLetter_76 : decode prog_8_method_6_code 76 = .ok (.goto 28, 3) := by decide +kernel
theorem d_Pr_putLetter_79 : decode prog_8_method_6_code 79 = .ok (.iload_n 1, 1) := by decide +kernel
theorem d_Pr_putLetter_80 : decode prog_8_method_6_code 80 = .ok (.iconst 5, 1) := by decide +kernel
theorem d_Pr_putLetter_81 : decode prog_8_method_6_code 81 = .ok (.if_icmp .ne 11, 3) := by decide +kernel
theorem d_Pr_putLetter_84 : decode prog_8_method_6_code 84 = .ok (.aload_n 0, 1) := by decide +kernel
theorem d_Pr_putLetter_85 : decode prog_8_method_6_code 85 = .ok (.iconst 2, 1) := by decide +kernel
theorem d_Pr_putLetter_86 : decode prog_8_method_6_code 86 = .ok (.putfield 31, 3) := by decide +kernel
theorem d_Pr_putLetter_89 : decode prog_8_method_6_code 89 = .ok (.goto 15, 3) := by decide +kernel
theorem d_Pr_putLetter_92 : decode prog_8_method_6_code 92 = .ok (.iload_n 1, 1) := by decide +kernel
theorem d_Pr_putLetter_93 : decode prog_8_method_6_code 93 = .ok (.bipush 6, 2) := by decide +kernel
theorem d_Pr_putLetter_95 : decode prog_8_method_6_code 95 = .ok (.if_icmp .lt 9, 3) := by decide +kernel
theorem d_Pr_putLetter_98 : decode prog_8_method_6_code 98 = .ok (.aload_n 0, 1) := by decide +kernel
theorem d_Pr_putLetter_99 : decode prog_8_method_6_code 99 = .ok (.iload_n 2, 1) := by decide +kernel
theorem d_Pr_putLetter_100 : decode prog_8_method_6_code 100 = .ok (.iload_n 1, 1) := by decide +kernel
theorem d_Pr_putLetter_101 : decode prog_8_method_6_code 101 = .ok (.invokevirtual 49, 3) := by decide +kernel
theorem d_Pr_putLetter_104 : decode prog_8_method_6_code 104 = .ok (.return_, 1) := by decide +kernel
theorem d_Pr_putOf_0 : decode prog_8_method_7_code 0 = .ok (.iload_n 1, 1) := by decide +kernel
theorem d_Pr_putOf_1 : decode prog_8_method_7_code 1 = .ok (.ifCond .ne 17, 3) := by decide +kernel
theorem d_Pr_putOf_4 : decode prog_8_method_7_code 4 = .ok (.aload_n 0, 1) := by decide +kernel
theorem d_Pr_putOf_5 : decode prog_8_method_7_code 5 = .ok (.bipush 97, 2) := by decide +kernel
theorem d_Pr_putOf_7 : decode prog_8_method_7_code 7 = .ok (.iload_n 2, 1) := by decide +kernel
theorem d_Pr_putOf_8 : decode prog_8_method_7_code 8 = .ok (.iadd, 1) := by decide +kernel
theorem d_Pr_putOf_9 : decode prog_8_method_7_code 9 = .ok (.bipush 6, 2) := by decide +kernel
theorem d_Pr_putOf_11 : decode prog_8_method_7_code 11 = .ok (.isub, 1) := by decide +kernel
theorem d_Pr_putOf_12 : decode prog_8_method_7_code 12 = .ok (.invokevirtual 21, 3) := by decide +kernel
theorem d_Pr_putOf_15 : decode prog_8_method_7_code 15 = .ok (.goto 64, 3) := by decide +kernel
theorem d_Pr_putOf_18 : decode prog_8_method_7_code 18 = .ok (.iload_n 1, 1) := by decide +kernel
theorem d_Pr_putOf_19 : decode prog_8_method_7_code 19 = .ok (.iconst 1, 1) := by decide +kernel
theorem d_Pr_putOf_20 : decode prog_8_method_7_code 20 = .ok (.if_icmp .ne 17, 3) := by decide +kernel
theorem d_Pr_putOf_23 : decode prog_8_method_7_code 23 = .ok (.aload_n 0, 1) := by decide +kernel
theorem d_Pr_putOf_24 : decode prog_8_method_7_code 24 = .ok (.bipush 65, 2) := by decide +kernel
theorem d_Pr_putOf_26 : decode prog_8_method_7_code 26 = .ok (.iload_n 2, 1) := by decide +kernel
theorem d_Pr_putOf_27 : decode prog_8_method_7_code 27 = .ok (.iadd, 1) := by decide +kernel
theorem d_Pr_putOf_28 : decode prog_8_method_7_code 28 = .ok (.bipush 6, 2) := by decide +kernel
theorem d_Pr_putOf_30 : decode prog_8_method_7_code 30 = .ok (.isub, 1) := by decide +kernel
theorem d_Pr_putOf_31 : decode prog_8_method_7_code 31 = .ok (.invokevirtual 21, 3) := by decide +kernel
theorem d_Pr_putOf_34 : decode prog_8_method_7_code 34 = .ok (.goto 45, 3) := by decide +kernel
theorem d_Pr_putOf_37 : decode prog_8_method_7_code 37 = .ok (.iload_n 2, 1) := by decide +kernel
theorem d_Pr_putOf_38 : decode prog_8_method_7_code 38 = .ok (.bipush 6, 2) := by decide +kernel
theorem d_Pr_putOf_40 : decode prog_8_method_7_code 40 = .ok (.if_icmp .ne 11, 3) := by decide +kernel
theorem d_Pr_putOf_43 : decode prog_8_method_7_code 43 = .ok (.aload_n 0, 1) := by decide +kernel
theorem d_Pr_putOf_44 : decode prog_8_method_7_code 44 = .ok (.iconst 3, 1) := by decide +kernel
theorem d_Pr_putOf_45 : decode prog_8_method_7_code 45 = .ok (.putfield 31, 3) := by decide +kernel
theorem d_Pr_putOf_48 : decode prog_8_method_7_code 48 = .ok (.goto 31, 3) := by decide +kernel
theorem d_Pr_putOf_51 : decode prog_8_method_7_code 51 = .ok (.iload_n 2, 1) := by decide +kernel
theorem d_Pr_putOf_52 : decode prog_8_method_7_code 52 = .ok (.bipush 7, 2) := by decide +kernel
theorem d_Pr_putOf_54 : decode prog_8_method_7_code 54 = .ok (.if_icmp .ne 12, 3) := by decide +kernel
theorem d_Pr_putOf_57 : decode prog_8_method_7_code 57 = .ok (.aload_n 0, 1) := by decide +kernel
theorem d_Pr_putOf_58 : decode prog_8_method_7_code 58 = .ok (.bipush 13, 2) := by decide +kernel
theorem d_Pr_putOf_60 : decode prog_8_method_7_code 60 = .ok (.invokevirtual 21, 3) := by decide +kernel
theorem d_Pr_putOf_63 : decode prog_8_method_7_code 63 = .ok (.goto 16, 3) := by decide +kernel
theorem d_Pr_putOf_66 : decode prog_8_method_7_code 66 = .ok (.aload_n 0, 1) := by decide +kernel
theorem d_Pr_putOf_67 : decode prog_8_method_7_code 67 = .ok (.ldc 53, 2) := by decide +kernel
theorem d_Pr_putOf_69 : decode prog_8_method_7_code 69 = .ok (.iload_n 2, 1) := by decide +kernel
theorem d_Pr_putOf_70 : decode prog_8_method_7_code 70 = .ok (.bipush 8, 2) := by decide +kernel
theorem d_Pr_putOf_72 : decode prog_8_method_7_code 72 = .ok (.isub, 1) := by decide +kernel
theorem d_Pr_putOf_73 : decode prog_8_method_7_code 73 = .ok (.invokevirtual 55, 3) := by decide +kernel
theorem d_Pr_putOf_76 : decode prog_8_method_7_code 76 = .ok (.invokevirtual 21, 3) := by decide +kernel
theorem d_Pr_putOf_79 : decode prog_8_method_7_code 79 = .ok (.return_, 1) := by decide +kernel
theorem d_Js_charAt1_0 : decode prog_22_method_56_code 0 = .ok (.aload_n 0, 1) := by decide +kernel
theorem d_Js_charAt1_1 : decode prog_22_method_56_code 1 = .ok (.invokevirtual 492, 3) := by decide +kernel
theorem d_Js_charAt1_4 : decode prog_22_method_56_code 4 = .ok (.ifCond .eq 12, 3) := by decide +kernel
theorem d_Js_charAt1_7 : decode prog_22_method_56_code 7 = .ok (.aload_n 0, 1) := by decide +kernel
theorem d_Js_charAt1_8 : decode prog_22_method_56_code 8 = .ok (.getfield 9, 3) := by decide +kernel
theorem d_Js_charAt1_11 : decode prog_22_method_56_code 11 = .ok (.iload_n 1, 1) := by decide +kernel
theorem d_Js_charAt1_12 : decode prog_22_method_56_code 12 = .ok (.invokestatic 495, 3) := by decide +kernel
theorem d_Js_charAt1_15 : decode prog_22_method_56_code 15 = .ok (.ireturn, 1) := by decide +kernel
theorem d_Js_charAt1_16 : decode prog_22_method_56_code 16 = .ok (.aload_n 0, 1) := by decide +kernel
theorem d_Js_charAt1_17 : decode prog_22_method_56_code 17 = .ok (.getfield 9, 3) := by decide +kernel
theorem d_Js_charAt1_20 : decode prog_22_method_56_code 20 = .ok (.iload_n 1, 1) := by decide +kernel
theorem d_Js_charAt1_21 : decode prog_22_method_56_code 21 = .ok (.invokestatic 498, 3) := by decide +kernel
theorem d_Js_charAt1_24 : decode prog_22_method_56_code 24 = .ok (.ireturn, 1) := by decide +kernel
theorem d_Js_isLatin10_0 : decode prog_22_method_154_code 0 = .ok (.getstatic 38, 3) := by decide +kernel
theorem d_Js_isLatin10_3 : decode prog_22_method_154_code 3 = .ok (.ifCond .eq 14, 3) := by decide +kernel
theorem d_Js_isLatin10_6 : decode prog_22_method_154_code 6 = .ok (.aload_n 0, 1) := by decide +kernel
theorem d_Js_isLatin10_7 : decode prog_22_method_154_code 7 = .ok (.getfield 15, 3) := by decide +kernel
theorem d_Js_isLatin10_10 : decode prog_22_method_154_code 10 = .ok (.ifCond .ne 7, 3) := by decide +kernel
theorem d_Js_isLatin10_13 : decode prog_22_method_154_code 13 = .ok (.iconst 1, 1) := by decide +kernel
theorem d_Js_isLatin10_14 : decode prog_22_method_154_code 14 = .ok (.goto 4, 3) := by decide +kernel
theorem d_Js_isLatin10_17 : decode prog_22_method_154_code 17 = .ok (.iconst 0, 1) := by decide +kernel
theorem d_Js_isLatin10_18 : decode prog_22_method_154_code 18 = .ok (.ireturn, 1) := by decide +kernel
theorem d_Jl_charAt2_0 : decode prog_23_method_2_code 0 = .ok (.iload_n 1, 1) := by decide +kernel
theorem d_Jl_charAt2_1 : decode prog_23_method_2_code 1 = .ok (.aload_n 0, 1) := by decide +kernel
theorem d_Jl_charAt2_2 : decode prog_23_method_2_code 2 = .ok (.arraylength, 1) := by decide +kernel
theorem d_Jl_charAt2_3 : decode prog_23_method_2_code 3 = .ok (.invokestatic 9, 3) := by decide +kernel
theorem d_Jl_charAt2_6 : decode prog_23_method_2_code 6 = .ok (.aload_n 0, 1) := by decide +kernel
theorem d_Jl_charAt2_7 : decode prog_23_method_2_code 7 = .ok (.iload_n 1, 1) := by decide +kernel
theorem d_Jl_charAt2_8 : decode prog_23_method_2_code 8 = .ok (.baload, 1) := by decide +kernel
theorem d_Jl_charAt2_9 : decode prog_23_method_2_code 9 = .ok (.sipush 255, 3) := by decide +kernel
theorem d_Jl_charAt2_12 : decode prog_23_method_2_code 12 = .ok (.iand, 1) := by decide +kernel
theorem d_Jl_charAt2_13 : decode prog_23_method_2_code 13 = .ok (.i2c, 1) := by decide +kernel
theorem d_Jl_charAt2_14 : decode prog_23_method_2_code 14 = .ok (.ireturn, 1) := by decide +kernel
theorem d_Js_checkIndex2_0 : decode prog_22_method_155_code 0 = .ok (.iload_n 0, 1) := by decide +kernel
theorem d_Js_checkIndex2_1 : decode prog_22_method_155_code 1 = .ok (.iload_n 1, 1) := by decide +kernel
theorem d_Js_checkIndex2_2 : decode prog_22_method_155_code 2 = .ok (.getstatic 1053, 3) := by decide +kernel
theorem d_Js_checkIndex2_5 : decode prog_22_method_155_code 5 = .ok (.invokestatic 1059, 3) := by decide +kernel
theorem d_Js_checkIndex2_8 : decode prog_22_method_155_code 8 = .ok (.pop, 1) := by decide +kernel
theorem d_Js_checkIndex2_9 : decode prog_22_method_155_code 9 = .ok (.return_, 1) := by decide +kernel
theorem d_Jp_checkIndex3_0 : decode prog_28_method_11_code 0 = .ok (.iload_n 0, 1) := by decide +kernel
theorem d_Jp_checkIndex3_1 : decode prog_28_method_11_code 1 = .ok (.ifCond .lt 8, 3) := by decide +kernel
theorem d_Jp_checkIndex3_4 : decode prog_28_method_11_code 4 = .ok (.iload_n 0, 1) := by decide +kernel
theorem d_Jp_checkIndex3_5 : decode prog_28_method_11_code 5 = .ok (.iload_n 1, 1) := by decide +kernel
theorem d_Jp_checkIndex3_6 : decode prog_28_method_11_code 6 = .ok (.if_icmp .lt 10, 3) := by decide +kernel
theorem d_Jp_checkIndex3_9 : decode prog_28_method_11_code 9 = .ok (.aload_n 2, 1) := by decide +kernel
theorem d_Jp_checkIndex3_10 : decode prog_28_method_11_code 10 = .ok (.iload_n 0, 1) := by decide +kernel
theorem d_Jp_checkIndex3_11 : decode prog_28_method_11_code 11 = .ok (.iload_n 1, 1) := by decide +kernel
theorem d_Jp_checkIndex3_12 : decode prog_28_method_11_code 12 = .ok (.invokestatic 95, 3) := by decide +kernel
theorem d_Jp_checkIndex3_15 : decode prog_28_method_11_code 15 = .ok (.athrow, 1) := by decide +kernel
theorem d_Jp_checkIndex3_16 : decode prog_28_method_11_code 16 = .ok (.iload_n 0, 1) := by decide +kernel
theorem d_Jp_checkIndex3_17 : decode prog_28_method_11_code 17 = .ok (.ireturn, 1) := by decide +kernel
theorem d_Di_split_0 : decode prog_3_method_2_code 0 = .ok (.aload_n 0, 1) := by decide +kernel
theorem d_Di_split_1 : decode prog_3_method_2_code 1 = .ok (.iconst 0, 1) := by decide +kernel
theorem d_Di_split_2 : decode prog_3_method_2_code 2 = .ok (.putfield 25, 3) := by decide +kernel
theorem d_Di_split_5 : decode prog_3_method_2_code 5 = .ok (.iconst 0, 1) := by decide +kernel
theorem d_Di_split_6 : decode prog_3_method_2_code 6 = .ok (.istore_n 3, 1) := by decide +kernel
theorem d_Di_split_7 : decode prog_3_method_2_code 7 = .ok (.iconst 0, 1) := by decide +kernel
theorem d_Di_split_8 : decode prog_3_method_2_code 8 = .ok (.istore 4, 2) := by decide +kernel
theorem d_Di_split_10 : decode prog_3_method_2_code 10 = .ok (.iload 4, 2) := by decide +kernel
theorem d_Di_split_12 : decode prog_3_method_2_code 12 = .ok (.iload_n 2, 1) := by decide +kernel
theorem d_Di_split_13 : decode prog_3_method_2_code 13 = .ok (.if_icmp .ge 73, 3) := by decide +kernel
theorem d_Di_split_16 : decode prog_3_method_2_code 16 = .ok (.aload_n 1, 1) := by decide +kernel
theorem d_Di_split_17 : decode prog_3_method_2_code 17 = .ok (.iload 4, 2) := by decide +kernel
theorem d_Di_split_19 : decode prog_3_method_2_code 19 = .ok (.iaload, 1) := by decide +kernel
theorem d_Di_split_20 : decode prog_3_method_2_code 20 = .ok (.bipush 32, 2) := by decide +kernel
theorem d_Di_split_22 : decode prog_3_method_2_code 22 = .ok (.if_icmp .ne 7, 3) := by decide +kernel
theorem d_Di_split_25 : decode prog_3_method_2_code 25 = .ok (.iconst 1, 1) := by decide +kernel
theorem d_Di_split_26 : decode prog_3_method_2_code 26 = .ok (.goto 4, 3) := by decide +kernel
theorem d_Di_split_29 : decode prog_3_method_2_code 29 = .ok (.iconst 0, 1) := by decide +kernel
theorem d_Di_split_30 : decode prog_3_method_2_code 30 = .ok (.istore 5, 2) := by decide +kernel
theorem d_Di_split_32 : decode prog_3_method_2_code 32 = .ok (.iload 5, 2) := by decide +kernel
theorem d_Di_split_34 : decode prog_3_method_2_code 34 = .ok (.ifCond .ne 14, 3) := by decide +kernel
theorem d_Di_split_37 : decode prog_3_method_2_code 37 = .ok (.aload_n 0, 1) := by decide +kernel
theorem d_Di_split_38 : decode prog_3_method_2_code 38 = .ok (.aload_n 1, 1) := by decide +kernel
theorem d_Di_split_39 : decode prog_3_method_2_code 39 = .ok (.iload 4, 2) := by decide +kernel
theorem d_Di_split_41 : decode prog_3_method_2_code 41 = .ok (.iaload, 1) := by decide +kernel
theorem d_Di_split_42 : decode prog_3_method_2_code 42 = .ok (.invokevirtual 29, 3) := by decide +kernel
theorem d_Di_split_45 : decode prog_3_method_2_code 45 = .ok (.ifCond .eq 35, 3) := by decide +kernel
theorem d_Di_split_48 : decode prog_3_method_2_code 48 = .ok (.aload_n 0, 1) := by decide +kernel
theorem d_Di_split_49 : decode prog_3_method_2_code 49 = .ok (.iload_n 3, 1) := by decide +kernel
theorem d_Di_split_50 : decode prog_3_method_2_code 50 = .ok (.iload 4, 2) := by decide +kernel
theorem d_Di_split_52 : decode prog_3_method_2_code 52 = .ok (.invokevirtual 33, 3) := by decide +kernel
theorem d_Di_split_55 : decode prog_3_method_2_code 55 = .ok (.aload_n 0, 1) := by decide +kernel
theorem d_Di_split_56 : decode prog_3_method_2_code 56 = .ok (.iload 4, 2) := by decide +kernel
theorem d_Di_split_58 : decode prog_3_method_2_code 58 = .ok (.iload 5, 2) := by decide +kernel
theorem d_Di_split_60 : decode prog_3_method_2_code 60 = .ok (.ifCond .eq 8, 3) := by decide +kernel
theorem d_Di_split_63 : decode prog_3_method_2_code 63 = .ok (.iload 4, 2) := by decide +kernel
theorem d_Di_split_65 : decode prog_3_method_2_code 65 = .ok (.goto 7, 3) := by decide +kernel
theorem d_Di_split_68 : decode prog_3_method_2_code 68 = .ok (.iload 4, 2) := by decide +kernel
theorem d_Di_split_70 : decode prog_3_method_2_code 70 = .ok (.iconst 1, 1) := by decide +kernel
theorem d_Di_split_71 : decode prog_3_method_2_code 71 = .ok (.iadd, 1) := by decide +kernel
theorem d_Di_split_72 : decode prog_3_method_2_code 72 = .ok (.invokevirtual 33, 3) := by decide +kernel
theorem d_Di_split_75 : decode prog_3_method_2_code 75 = .ok (.iload 4, 2) := by decide +kernel
theorem d_Di_split_77 : decode prog_3_method_2_code 77 = .ok (.iconst 1, 1) := by decide +kernel
theorem d_Di_split_78 : decode prog_3_method_2_code 78 = .ok (.iadd, 1) := by decide +kernel
theorem d_Di_split_79 : decode prog_3_method_2_code 79 = .ok (.istore_n 3, 1) := by decide +kernel
theorem d_Di_split_80 : decode prog_3_method_2_code 80 = .ok (.iinc 4 1, 3) := by decide +kernel
theorem d_Di_split_83 : decode prog_3_method_2_code 83 = .ok (.goto (-73), 3) := by decide +kernel
theorem d_Di_split_86 : decode prog_3_method_2_code 86 = .ok (.aload_n 0, 1) := by decide +kernel
theorem d_Di_split_87 : decode prog_3_method_2_code 87 = .ok (.iload_n 3, 1) := by decide +kernel
theorem d_Di_split_88 : decode prog_3_method_2_code 88 = .ok (.iload_n 2, 1) := by decide +kernel
theorem d_Di_split_89 : decode prog_3_method_2_code 89 = .ok (.invokevirtual 33, 3) := by decide +kernel
theorem d_Di_split_92 : decode prog_3_method_2_code 92 = .ok (.return_, 1) := by decide +kernel
theorem d_Di_addWord_0 : decode prog_3_method_3_code 0 = .ok (.iload_n 1, 1) := by decide +kernel
theorem d_Di_addWord_1 : decode prog_3_method_3_code 1 = .ok (.iload_n 2, 1) := by decide +kernel
theorem d_Di_addWord_2 : decode prog_3_method_3_code 2 = .ok (.if_icmp .ge 44, 3) := by decide +kernel
theorem d_Di_addWord_5 : decode prog_3_method_3_code 5 = .ok (.aload_n 0, 1) := by decide +kernel
theorem d_Di_addWord_6 : decode prog_3_method_3_code 6 = .ok (.getfield 25, 3) := by decide +kernel
theorem d_Di_addWord_9 : decode prog_3_method_3_code 9 = .ok (.bipush 24, 2) := by decide +kernel
theorem d_Di_addWord_11 : decode prog_3_method_3_code 11 = .ok (.if_icmp .ge 35, 3) := by decide +kernel
theorem d_Di_addWord_14 : decode prog_3_method_3_code 14 = .ok (.aload_n 0, 1) := by decide +kernel
theorem d_Di_addWord_15 : decode prog_3_method_3_code 15 = .ok (.getfield 9, 3) := by decide +kernel
theorem d_Di_addWord_18 : decode prog_3_method_3_code 18 = .ok (.aload_n 0, 1) := by decide +kernel
theorem d_Di_addWord_19 : decode prog_3_method_3_code 19 = .ok (.getfield 25, 3) := by decide +kernel
theorem d_Di_addWord_22 : decode prog_3_method_3_code 22 = .ok (.iload_n 1, 1) := by decide +kernel
theorem d_Di_addWord_23 : decode prog_3_method_3_code 23 = .ok (.iastore, 1) := by decide +kernel
theorem d_Di_addWord_24 : decode prog_3_method_3_code 24 = .ok (.aload_n 0, 1) := by decide +kernel
theorem d_Di_addWord_25 : decode prog_3_method_3_code 25 = .ok (.getfield 15, 3) := by decide +kernel
theorem d_Di_addWord_28 : decode prog_3_method_3_code 28 = .ok (.aload_n 0, 1) := by decide +kernel
theorem d_Di_addWord_29 : decode prog_3_method_3_code 29 = .ok (.getfield 25, 3) := by decide +kernel
theorem d_Di_addWord_32 : decode prog_3_method_3_code 32 = .ok (.iload_n 2, 1) := by decide +kernel
theorem d_Di_addWord_33 : decode prog_3_method_3_code 33 = .ok (.iload_n 1, 1) := by decide +kernel
theorem d_Di_addWord_34 : decode prog_3_method_3_code 34 = .ok (.isub, 1) := by decide +kernel
theorem d_Di_addWord_35 : decode prog_3_method_3_code 35 = .ok (.iastore, 1) := by decide +kernel
theorem d_Di_addWord_36 : decode prog_3_method_3_code 36 = .ok (.aload_n 0, 1) := by decide +kernel
theorem d_Di_addWord_37 : decode prog_3_method_3_code 37 = .ok (.dup, 1) := by decide +kernel
theorem d_Di_addWord_38 : decode prog_3_method_3_code 38 = .ok (.getfield 25, 3) := by decide +kernel
theorem d_Di_addWord_41 : decode prog_3_method_3_code 41 = .ok (.iconst 1, 1) := by decide +kernel
theorem d_Di_addWord_42 : decode prog_3_method_3_code 42 = .ok (.iadd, 1) := by decide +kernel
theorem d_Di_addWord_43 : decode prog_3_method_3_code 43 = .ok (.putfield 25, 3) := by decide +kernel
theorem d_Di_addWord_46 : decode prog_3_method_3_code 46 = .ok (.return_, 1) := by decide +kernel
theorem d_Di_entryOf_0 : decode prog_3_method_5_code 0 = .ok (.aload_n 0, 1) := by decide +kernel
theorem d_Di_entryOf_1 : decode prog_3_method_5_code 1 = .ok (.aload_n 1, 1) := by decide +kernel
theorem d_Di_entryOf_2 : decode prog_3_method_5_code 2 = .ok (.aload_n 0, 1) := by decide +kernel
theorem d_Di_entryOf_3 : decode prog_3_method_5_code 3 = .ok (.getfield 9, 3) := by decide +kernel
theorem d_Di_entryOf_6 : decode prog_3_method_5_code 6 = .ok (.iload_n 2, 1) := by decide +kernel
theorem d_Di_entryOf_7 : decode prog_3_method_5_code 7 = .ok (.iaload, 1) := by decide +kernel
theorem d_Di_entryOf_8 : decode prog_3_method_5_code 8 = .ok (.aload_n 0, 1) := by decide +kernel
theorem d_Di_entryOf_9 : decode prog_3_method_5_code 9 = .ok (.getfield 15, 3) := by decide +kernel
theorem d_Di_entryOf_12 : decode prog_3_method_5_code 12 = .ok (.iload_n 2, 1) := by decide +kernel
theorem d_Di_entryOf_13 : decode prog_3_method_5_code 13 = .ok (.iaload, 1) := by decide +kernel
theorem d_Di_entryOf_14 : decode prog_3_method_5_code 14 = .ok (.invokevirtual 46, 3) := by decide +kernel
theorem d_Di_entryOf_17 : decode prog_3_method_5_code 17 = .ok (.aload_n 0, 1) := by decide +kernel
theorem d_Di_entryOf_18 : decode prog_3_method_5_code 18 = .ok (.iconst 0, 1) := by decide +kernel
theorem d_Di_entryOf_19 : decode prog_3_method_5_code 19 = .ok (.invokevirtual 50, 3) := by decide +kernel
theorem d_Di_entryOf_22 : decode prog_3_method_5_code 22 = .ok (.istore_n 3, 1) := by decide +kernel
theorem d_Di_entryOf_23 : decode prog_3_method_5_code 23 = .ok (.aload_n 0, 1) := by decide +kernel
theorem d_Di_entryOf_24 : decode prog_3_method_5_code 24 = .ok (.iconst 3, 1) := by decide +kernel
theorem d_Di_entryOf_25 : decode prog_3_method_5_code 25 = .ok (.invokevirtual 50, 3) := by decide +kernel
theorem d_Di_entryOf_28 : decode prog_3_method_5_code 28 = .ok (.ldc 53, 2) := by decide +kernel
theorem d_Di_entryOf_30 : decode prog_3_method_5_code 30 = .ok (.ior, 1) := by decide +kernel
theorem d_Di_entryOf_31 : decode prog_3_method_5_code 31 = .ok (.istore 4, 2) := by decide +kernel
theorem d_Di_entryOf_33 : decode prog_3_method_5_code 33 = .ok (.aload_n 0, 1) := by decide +kernel
theorem d_Di_entryOf_34 : decode prog_3_method_5_code 34 = .ok (.getfield 21, 3) := by decide +kernel
theorem d_Di_entryOf_37 : decode prog_3_method_5_code 37 = .ok (.bipush 6, 2) := by decide +kernel
theorem d_Di_entryOf_39 : decode prog_3_method_5_code 39 = .ok (.invokevirtual 39, 3) := by decide +kernel
theorem d_Di_entryOf_42 : decode prog_3_method_5_code 42 = .ok (.istore 5, 2) := by decide +kernel
theorem d_Di_entryOf_44 : decode prog_3_method_5_code 44 = .ok (.iload 5, 2) := by decide +kernel
theorem d_Di_entryOf_46 : decode prog_3_method_5_code 46 = .ok (.iconst 1, 1) := by decide +kernel
theorem d_Di_entryOf_47 : decode prog_3_method_5_code 47 = .ok (.aload_n 0, 1) := by decide +kernel
theorem d_Di_entryOf_48 : decode prog_3_method_5_code 48 = .ok (.getfield 21, 3) := by decide +kernel
theorem d_Di_entryOf_51 : decode prog_3_method_5_code 51 = .ok (.iload 5, 2) := by decide +kernel
theorem d_Di_entryOf_53 : decode prog_3_method_5_code 53 = .ok (.invokevirtual 43, 3) := by decide +kernel
theorem d_Di_entryOf_56 : decode prog_3_method_5_code 56 = .ok (.iadd, 1) := by decide +kernel
theorem d_Di_entryOf_57 : decode prog_3_method_5_code 57 = .ok (.iadd, 1) := by decide +kernel
theorem d_Di_entryOf_58 : decode prog_3_method_5_code 58 = .ok (.istore 5, 2) := by decide +kernel
theorem d_Di_entryOf_60 : decode prog_3_method_5_code 60 = .ok (.aload_n 0, 1) := by decide +kernel
theorem d_Di_entryOf_61 : decode prog_3_method_5_code 61 = .ok (.getfield 21, 3) := by decide +kernel
theorem d_Di_entryOf_64 : decode prog_3_method_5_code 64 = .ok (.iload 5, 2) := by decide +kernel
theorem d_Di_entryOf_66 : decode prog_3_method_5_code 66 = .ok (.invokevirtual 43, 3) := by decide +kernel
theorem d_Di_entryOf_69 : decode prog_3_method_5_code 69 = .ok (.istore 6, 2) := by decide +kernel
theorem d_Di_entryOf_71 : decode prog_3_method_5_code 71 = .ok (.iload 6, 2) := by decide +kernel
theorem d_Di_entryOf_73 : decode prog_3_method_5_code 73 = .ok (.iconst 5, 1) := by decide +kernel
theorem d_Di_entryOf_74 : decode prog_3_method_5_code 74 = .ok (.if_icmp .ge 11, 3) := by decide +kernel
theorem d_Di_entryOf_77 : decode prog_3_method_5_code 77 = .ok (.new 54, 3) := by decide +kernel
theorem d_Di_entryOf_80 : decode prog_3_method_5_code 80 = .ok (.dup, 1) := by decide +kernel
theorem d_Di_entryOf_81 : decode prog_3_method_5_code 81 = .ok (.invokespecial 56, 3) := by decide +kernel
theorem d_Di_entryOf_84 : decode prog_3_method_5_code 84 = .ok (.athrow, 1) := by decide +kernel
theorem d_Di_entryOf_85 : decode prog_3_method_5_code 85 = .ok (.aload_n 0, 1) := by decide +kernel
theorem d_Di_entryOf_86 : decode prog_3_method_5_code 86 = .ok (.getfield 21, 3) := by decide +kernel
theorem d_Di_entryOf_89 : decode prog_3_method_5_code 89 = .ok (.iload 5, 2) := by decide +kernel
theorem d_Di_entryOf_91 : decode prog_3_method_5_code 91 = .ok (.iconst 1, 1) := by decide +kernel
theorem d_Di_entryOf_92 : decode prog_3_method_5_code 92 = .ok (.iadd, 1) := by decide +kernel
theorem d_Di_entryOf_93 : decode prog_3_method_5_code 93 = .ok (.invokevirtual 39, 3) := by decide +kernel
theorem d_Di_entryOf_96 : decode prog_3_method_5_code 96 = .ok (.istore 7, 2) := by decide +kernel
theorem d_Di_entryOf_98 : decode prog_3_method_5_code 98 = .ok (.iload 5, 2) := by decide +kernel
theorem d_Di_entryOf_100 : decode prog_3_method_5_code 100 = .ok (.iconst 3, 1) := by decide +kernel
theorem d_Di_entryOf_101 : decode prog_3_method_5_code 101 = .ok (.iadd, 1) := by decide +kernel
theorem d_Di_entryOf_102 : decode prog_3_method_5_code 102 = .ok (.istore 8, 2) := by decide +kernel
theorem d_Di_entryOf_104 : decode prog_3_method_5_code 104 = .ok (.iconst 0, 1) := by decide +kernel
theorem d_Di_entryOf_105 : decode prog_3_method_5_code 105 = .ok (.istore 9, 2) := by decide +kernel
theorem d_Di_entryOf_107 : decode prog_3_method_5_code 107 = .ok (.iload 9, 2) := by decide +kernel
theorem d_Di_entryOf_109 : decode prog_3_method_5_code 109 = .ok (.iload 7, 2) := by decide +kernel
theorem d_Di_entryOf_111 : decode prog_3_method_5_code 111 = .ok (.if_icmp .ge 56, 3) := by decide +kernel
theorem d_Di_entryOf_114 : decode prog_3_method_5_code 114 = .ok (.aload_n 0, 1) := by decide +kernel
theorem d_Di_entryOf_115 : decode prog_3_method_5_code 115 = .ok (.getfield 21, 3) := by decide +kernel
theorem d_Di_entryOf_118 : decode prog_3_method_5_code 118 = .ok (.iload 8, 2) := by decide +kernel
theorem d_Di_entryOf_120 : decode prog_3_method_5_code 120 = .ok (.invokevirtual 39, 3) := by decide +kernel
theorem d_Di_entryOf_123 : decode prog_3_method_5_code 123 = .ok (.istore 10, 2) := by decide +kernel
theorem d_Di_entryOf_125 : decode prog_3_method_5_code 125 = .ok (.aload_n 0, 1) := by decide +kernel
theorem d_Di_entryOf_126 : decode prog_3_method_5_code 126 = .ok (.getfield 21, 3) := by decide +kernel
theorem d_Di_entryOf_129 : decode prog_3_method_5_code 129 = .ok (.iload 8, 2) := by decide +kernel
theorem d_Di_entryOf_131 : decode prog_3_method_5_code 131 = .ok (.iconst 2, 1) := by decide +kernel
theorem d_Di_entryOf_132 : decode prog_3_method_5_code 132 = .ok (.iadd, 1) := by decide +kernel
theorem d_Di_entryOf_133 : decode prog_3_method_5_code 133 = .ok (.invokevirtual 39, 3) := by decide +kernel
theorem d_Di_entryOf_136 : decode prog_3_method_5_code 136 = .ok (.istore 11, 2) := by decide +kernel
theorem d_Di_entryOf_138 : decode prog_3_method_5_code 138 = .ok (.iload 10, 2) := by decide +kernel
theorem d_Di_entryOf_140 : decode prog_3_method_5_code 140 = .ok (.iload_n 3, 1) := by decide +kernel
theorem d_Di_entryOf_141 : decode prog_3_method_5_code 141 = .ok (.if_icmp .ne 13, 3) := by decide +kernel
theorem d_Di_entryOf_144 : decode prog_3_method_5_code 144 = .ok (.iload 11, 2) := by decide +kernel
theorem d_Di_entryOf_146 : decode prog_3_method_5_code 146 = .ok (.iload 4, 2) := by decide +kernel
theorem d_Di_entryOf_148 : decode prog_3_method_5_code 148 = .ok (.if_icmp .ne 6, 3) := by decide +kernel
theorem d_Di_entryOf_151 : decode prog_3_method_5_code 151 = .ok (.iload 8, 2) := by decide +kernel
theorem d_Di_entryOf_153 : decode prog_3_method_5_code 153 = .ok (.ireturn, 1) := by decide +kernel
theorem d_Di_entryOf_154 : decode prog_3_method_5_code 154 = .ok (.iload 8, 2) := by decide +kernel
theorem d_Di_entryOf_156 : decode prog_3_method_5_code 156 = .ok (.iload 6, 2) := by decide +kernel
theorem d_Di_entryOf_158 : decode prog_3_method_5_code 158 = .ok (.iadd, 1) := by decide +kernel
theorem d_Di_entryOf_159 : decode prog_3_method_5_code 159 = .ok (.istore 8, 2) := by decide +kernel
theorem d_Di_entryOf_161 : decode prog_3_method_5_code 161 = .ok (.iinc 9 1, 3) := by decide +kernel
theorem d_Di_entryOf_164 : decode prog_3_method_5_code 164 = .ok (.goto (-57), 3) := by decide +kernel
theorem d_Di_entryOf_167 : decode prog_3_method_5_code 167 = .ok (.iconst 0, 1) := by decide +kernel
theorem d_Di_entryOf_168 : decode prog_3_method_5_code 168 = .ok (.ireturn, 1) := by decide +kernel
theorem d_Di_pack_0 : decode prog_3_method_6_code 0 = .ok (.aload_n 0, 1) := by decide +kernel
theorem d_Di_pack_1 : decode prog_3_method_6_code 1 = .ok (.iconst 0, 1) := by decide +kernel
theorem d_Di_pack_2 : decode prog_3_method_6_code 2 = .ok (.putfield 57, 3) := by decide +kernel
theorem d_Di_pack_5 : decode prog_3_method_6_code 5 = .ok (.iload_n 2, 1) := by decide +kernel
theorem d_Di_pack_6 : decode prog_3_method_6_code 6 = .ok (.istore 4, 2) := by decide +kernel
theorem d_Di_pack_8 : decode prog_3_method_6_code 8 = .ok (.iload 4, 2) := by decide +kernel
theorem d_Di_pack_10 : decode prog_3_method_6_code 10 = .ok (.iload_n 2, 1) := by decide +kernel
theorem d_Di_pack_11 : decode prog_3_method_6_code 11 = .ok (.iload_n 3, 1) := by decide +kernel
theorem d_Di_pack_12 : decode prog_3_method_6_code 12 = .ok (.iadd, 1) := by decide +kernel
theorem d_Di_pack_13 : decode prog_3_method_6_code 13 = .ok (.if_icmp .ge 17, 3) := by decide +kernel
theorem d_Di_pack_16 : decode prog_3_method_6_code 16 = .ok (.aload_n 0, 1) := by decide +kernel
theorem d_Di_pack_17 : decode prog_3_method_6_code 17 = .ok (.aload_n 1, 1) := by decide +kernel
theorem d_Di_pack_18 : decode prog_3_method_6_code 18 = .ok (.iload 4, 2) := by decide +kernel
theorem d_Di_pack_20 : decode prog_3_method_6_code 20 = .ok (.iaload, 1) := by decide +kernel
theorem d_Di_pack_21 : decode prog_3_method_6_code 21 = .ok (.invokevirtual 60, 3) := by decide +kernel
theorem d_Di_pack_24 : decode prog_3_method_6_code 24 = .ok (.iinc 4 1, 3) := by decide +kernel
theorem d_Di_pack_27 : decode prog_3_method_6_code 27 = .ok (.goto (-19), 3) := by decide +kernel
theorem d_Di_pack_30 : decode prog_3_method_6_code 30 = .ok (.aload_n 0, 1) := by decide +kernel
theorem d_Di_pack_31 : decode prog_3_method_6_code 31 = .ok (.getfield 57, 3) := by decide +kernel
theorem d_Di_pack_34 : decode prog_3_method_6_code 34 = .ok (.istore 4, 2) := by decide +kernel
theorem d_Di_pack_36 : decode prog_3_method_6_code 36 = .ok (.iload 4, 2) := by decide +kernel
theorem d_Di_pack_38 : decode prog_3_method_6_code 38 = .ok (.bipush 6, 2) := by decide +kernel
theorem d_Di_pack_40 : decode prog_3_method_6_code 40 = .ok (.if_icmp .ge 17, 3) := by decide +kernel
theorem d_Di_pack_43 : decode prog_3_method_6_code 43 = .ok (.aload_n 0, 1) := by decide +kernel
theorem d_Di_pack_44 : decode prog_3_method_6_code 44 = .ok (.getfield 18, 3) := by decide +kernel
theorem d_Di_pack_47 : decode prog_3_method_6_code 47 = .ok (.iload 4, 2) := by decide +kernel
theorem d_Di_pack_49 : decode prog_3_method_6_code 49 = .ok (.iconst 5, 1) := by decide +kernel
theorem d_Di_pack_50 : decode prog_3_method_6_code 50 = .ok (.iastore, 1) := by decide +kernel
theorem d_Di_pack_51 : decode prog_3_method_6_code 51 = .ok (.iinc 4 1, 3) := by decide +kernel
theorem d_Di_pack_54 : decode prog_3_method_6_code 54 = .ok (.goto (-18), 3) := by decide +kernel
theorem d_Di_pack_57 : decode prog_3_method_6_code 57 = .ok (.return_, 1) := by decide +kernel
theorem d_Di_addCharacter_0 : decode prog_3_method_7_code 0 = .ok (.ldc 66, 2) := by decide +kernel
theorem d_Di_addCharacter_2 : decode prog_3_method_7_code 2 = .ok (.iload_n 1, 1) := by decide +kernel
theorem d_Di_addCharacter_3 : decode prog_3_method_7_code 3 = .ok (.i2c, 1) := by decide +kernel
theorem d_Di_addCharacter_4 : decode prog_3_method_7_code 4 = .ok (.invokevirtual 68, 3) := by decide +kernel
theorem d_Di_addCharacter_7 : decode prog_3_method_7_code 7 = .ok (.istore_n 2, 1) := by decide +kernel
theorem d_Di_addCharacter_8 : decode prog_3_method_7_code 8 = .ok (.iload_n 1, 1) := by decide +kernel
theorem d_Di_addCharacter_9 : decode prog_3_method_7_code 9 = .ok (.bipush 97, 2) := by decide +kernel
theorem d_Di_addCharacter_11 : decode prog_3_method_7_code 11 = .ok (.if_icmp .lt 23, 3) := by decide +kernel
theorem d_Di_addCharacter_14 : decode prog_3_method_7_code 14 = .ok (.iload_n 1, 1) := by decide +kernel
theorem d_Di_addCharacter_15 : decode prog_3_method_7_code 15 = .ok (.bipush 122, 2) := by decide +kernel
theorem d_Di_addCharacter_17 : decode prog_3_method_7_code 17 = .ok (.if_icmp .gt 17, 3) := by decide +kernel
theorem d_Di_addCharacter_20 : decode prog_3_method_7_code 20 = .ok (.aload_n 0, 1) := by decide +kernel
theorem d_Di_addCharacter_21 : decode prog_3_method_7_code 21 = .ok (.iload_n 1, 1) := by decide +kernel
theorem d_Di_addCharacter_22 : decode prog_3_method_7_code 22 = .ok (.bipush 97, 2) := by decide +kernel
theorem d_Di_addCharacter_24 : decode prog_3_method_7_code 24 = .ok (.isub, 1) := by decide +kernel
theorem d_Di_addCharacter_25 : decode prog_3_method_7_code 25 = .ok (.bipush 6, 2) := by decide +kernel
theorem d_Di_addCharacter_27 : decode prog_3_method_7_code 27 = .ok (.iadd, 1) := by decide +kernel
theorem d_Di_addCharacter_28 : decode prog_3_method_7_code 28 = .ok (.invokevirtual 73, 3) := by decide +kernel
theorem d_Di_addCharacter_31 : decode prog_3_method_7_code 31 = .ok (.goto 50, 3) := by decide +kernel
theorem d_Di_addCharacter_34 : decode prog_3_method_7_code 34 = .ok (.iload_n 2, 1) := by decide +kernel
theorem d_Di_addCharacter_35 : decode prog_3_method_7_code 35 = .ok (.ifCond .lt 19, 3) := by decide +kernel
theorem d_Di_addCharacter_38 : decode prog_3_method_7_code 38 = .ok (.aload_n 0, 1) := by decide +kernel
theorem d_Di_addCharacter_39 : decode prog_3_method_7_code 39 = .ok (.iconst 5, 1) := by decide +kernel
theorem d_Di_addCharacter_40 : decode prog_3_method_7_code 40 = .ok (.invokevirtual 73, 3) := by decide +kernel
theorem d_Di_addCharacter_43 : decode prog_3_method_7_code 43 = .ok (.aload_n 0, 1) := by decide +kernel
theorem d_Di_addCharacter_44 : decode prog_3_method_7_code 44 = .ok (.iload_n 2, 1) := by decide +kernel
theorem d_Di_addCharacter_45 : decode prog_3_method_7_code 45 = .ok (.bipush 8, 2) := by decide +kernel
theorem d_Di_addCharacter_47 : decode prog_3_method_7_code 47 = .ok (.iadd, 1) := by decide +kernel
theorem d_Di_addCharacter_48 : decode prog_3_method_7_code 48 = .ok (.invokevirtual 73, 3) := by decide +kernel
theorem d_Di_addCharacter_51 : decode prog_3_method_7_code 51 = .ok (.goto 30, 3) := by decide +kernel
theorem d_Di_addCharacter_54 : decode prog_3_method_7_code 54 = .ok (.aload_n 0, 1) := by decide +kernel
theorem d_Di_addCharacter_55 : decode prog_3_method_7_code 55 = .ok (.iconst 5, 1) := by decide +kernel
theorem d_Di_addCharacter_56 : decode prog_3_method_7_code 56 = .ok (.invokevirtual 73, 3) := by decide +kernel
theorem d_Di_addCharacter_59 : decode prog_3_method_7_code 59 = .ok (.aload_n 0, 1) := by decide +kernel
theorem d_Di_addCharacter_60 : decode prog_3_method_7_code 60 = .ok (.bipush 6, 2) := by decide +kernel
theorem d_Di_addCharacter_62 : decode prog_3_method_7_code 62 = .ok (.invokevirtual 73, 3) := by decide +kernel
theorem d_Di_addCharacter_65 : decode prog_3_method_7_code 65 = .ok (.aload_n 0, 1) := by decide +kernel
theorem d_Di_addCharacter_66 : decode prog_3_method_7_code 66 = .ok (.iload_n 1, 1) := by decide +kernel
theorem d_Di_addCharacter_67 : decode prog_3_method_7_code 67 = .ok (.bipush 32, 2) := by decide +kernel
theorem d_Di_addCharacter_69 : decode prog_3_method_7_code 69 = .ok (.idiv, 1) := by decide +kernel
theorem d_Di_addCharacter_70 : decode prog_3_method_7_code 70 = .ok (.invokevirtual 73, 3) := by decide +kernel
theorem d_Di_addCharacter_73 : decode prog_3_method_7_code 73 = .ok (.aload_n 0, 1) := by decide +kernel
theorem d_Di_addCharacter_74 : decode prog_3_method_7_code 74 = .ok (.iload_n 1, 1) := by decide +kernel
theorem d_Di_addCharacter_75 : decode prog_3_method_7_code 75 = .ok (.bipush 32, 2) := by decide +kernel
theorem d_Di_addCharacter_77 : decode prog_3_method_7_code 77 = .ok (.irem, 1) := by decide +kernel
theorem d_Di_addCharacter_78 : decode prog_3_method_7_code 78 = .ok (.invokevirtual 73, 3) := by decide +kernel
theorem d_Di_addCharacter_81 : decode prog_3_method_7_code 81 = .ok (.return_, 1) := by decide +kernel
theorem d_Js_indexOf1_0 : decode prog_22_method_79_code 0 = .ok (.aload_n 0, 1) := by decide +kernel
theorem d_Js_indexOf1_1 : decode prog_22_method_79_code 1 = .ok (.iload_n 1, 1) := by decide +kernel
theorem d_Js_indexOf1_2 : decode prog_22_method_79_code 2 = .ok (.iconst 0, 1) := by decide +kernel
theorem d_Js_indexOf1_3 : decode prog_22_method_79_code 3 = .ok (.invokevirtual 633, 3) := by decide +kernel
theorem d_Js_indexOf1_6 : decode prog_22_method_79_code 6 = .ok (.ireturn, 1) := by decide +kernel
theorem d_Js_indexOf2_0 : decode prog_22_method_80_code 0 = .ok (.aload_n 0, 1) := by decide +kernel
theorem d_Js_indexOf2_1 : decode prog_22_method_80_code 1 = .ok (.invokevirtual 492, 3) := by decide +kernel
theorem d_Js_indexOf2_4 : decode prog_22_method_80_code 4 = .ok (.ifCond .eq 19, 3) := by decide +kernel
theorem d_Js_indexOf2_7 : decode prog_22_method_80_code 7 = .ok (.aload_n 0, 1) := by decide +kernel
theorem d_Js_indexOf2_8 : decode prog_22_method_80_code 8 = .ok (.getfield 9, 3) := by decide +kernel
theorem d_Js_indexOf2_11 : decode prog_22_method_80_code 11 = .ok (.iload_n 1, 1) := by decide +kernel
theorem d_Js_indexOf2_12 : decode prog_22_method_80_code 12 = .ok (.iload_n 2, 1) := by decide +kernel
theorem d_Js_indexOf2_13 : decode prog_22_method_80_code 13 = .ok (.aload_n 0, 1) := by decide +kernel
theorem d_Js_indexOf2_14 : decode prog_22_method_80_code 14 = .ok (.invokevirtual 505, 3) := by decide +kernel
theorem d_Js_indexOf2_17 : decode prog_22_method_80_code 17 = .ok (.invokestatic 637, 3) := by decide +kernel
theorem d_Js_indexOf2_20 : decode prog_22_method_80_code 20 = .ok (.goto 16, 3) := by decide +kernel
theorem d_Js_indexOf2_23 : decode prog_22_method_80_code 23 = .ok (.aload_n 0, 1) := by decide +kernel
theorem d_Js_indexOf2_24 : decode prog_22_method_80_code 24 = .ok (.getfield 9, 3) := by decide +kernel
theorem d_Js_indexOf2_27 : decode prog_22_method_80_code 27 = .ok (.iload_n 1, 1) := by decide +kernel
theorem d_Js_indexOf2_28 : decode prog_22_method_80_code 28 = .ok (.iload_n 2, 1) := by decide +kernel
theorem d_Js_indexOf2_29 : decode prog_22_method_80_code 29 = .ok (.aload_n 0, 1) := by decide +kernel
theorem d_Js_indexOf2_30 : decode prog_22_method_80_code 30 = .ok (.invokevirtual 505, 3) := by decide +kernel
theorem d_Js_indexOf2_33 : decode prog_22_method_80_code 33 = .ok (.invokestatic 640, 3) := by decide +kernel
theorem d_Js_indexOf2_36 : decode prog_22_method_80_code 36 = .ok (.ireturn, 1) := by decide +kernel
theorem d_Js_length0_0 : decode prog_22_method_54_code 0 = .ok (.aload_n 0, 1) := by decide +kernel
theorem d_Js_length0_1 : decode prog_22_method_54_code 1 = .ok (.getfield 9, 3) := by decide +kernel
theorem d_Js_length0_4 : decode prog_22_method_54_code 4 = .ok (.arraylength, 1) := by decide +kernel
theorem d_Js_length0_5 : decode prog_22_method_54_code 5 = .ok (.aload_n 0, 1) := by decide +kernel
theorem d_Js_length0_6 : decode prog_22_method_54_code 6 = .ok (.invokevirtual 335, 3) := by decide +kernel
theorem d_Js_length0_9 : decode prog_22_method_54_code 9 = .ok (.ishr, 1) := by decide +kernel
theorem d_Js_length0_10 : decode prog_22_method_54_code 10 = .ok (.ireturn, 1) := by decide +kernel
theorem d_Js_coder0_0 : decode prog_22_method_152_code 0 = .ok (.getstatic 38, 3) := by decide +kernel
theorem d_Js_coder0_3 : decode prog_22_method_152_code 3 = .ok (.ifCond .eq 10, 3) := by decide +kernel
theorem d_Js_coder0_6 : decode prog_22_method_152_code 6 = .ok (.aload_n 0, 1) := by decide +kernel
theorem d_Js_coder0_7 : decode prog_22_method_152_code 7 = .ok (.getfield 15, 3) := by decide +kernel
theorem d_Js_coder0_10 : decode prog_22_method_152_code 10 = .ok (.goto 4, 3) := by decide +kernel
theorem d_Js_coder0_13 : decode prog_22_method_152_code 13 = .ok (.iconst 1, 1) := by decide +kernel
theorem d_Js_coder0_14 : decode prog_22_method_152_code 14 = .ok (.ireturn, 1) := by decide +kernel
theorem d_Jl_indexOf4_0 : decode prog_23_method_22_code 0 = .ok (.iload_n 1, 1) := by decide +kernel
theorem d_Jl_indexOf4_1 : decode prog_23_method_22_code 1 = .ok (.invokestatic 88, 3) := by decide +kernel
theorem d_Jl_indexOf4_4 : decode prog_23_method_22_code 4 = .ok (.ifCond .ne 5, 3) := by decide +kernel
theorem d_Jl_indexOf4_7 : decode prog_23_method_22_code 7 = .ok (.iconst (-1), 1) := by decide +kernel
theorem d_Jl_indexOf4_8 : decode prog_23_method_22_code 8 = .ok (.ireturn, 1) := by decide +kernel
theorem d_Jl_indexOf4_9 : decode prog_23_method_22_code 9 = .ok (.iload_n 2, 1) := by decide +kernel
theorem d_Jl_indexOf4_10 : decode prog_23_method_22_code 10 = .ok (.iconst 0, 1) := by decide +kernel
theorem d_Jl_indexOf4_11 : decode prog_23_method_22_code 11 = .ok (.invokestatic 92, 3) := by decide +kernel
theorem d_Jl_indexOf4_14 : decode prog_23_method_22_code 14 = .ok (.istore_n 2, 1) := by decide +kernel
theorem d_Jl_indexOf4_15 : decode prog_23_method_22_code 15 = .ok (.iload_n 3, 1) := by decide +kernel
theorem d_Jl_indexOf4_16 : decode prog_23_method_22_code 16 = .ok (.aload_n 0, 1) := by decide +kernel
theorem d_Jl_indexOf4_17 : decode prog_23_method_22_code 17 = .ok (.arraylength, 1) := by decide +kernel
theorem d_Jl_indexOf4_18 : decode prog_23_method_22_code 18 = .ok (.invokestatic 38, 3) := by decide +kernel
theorem d_Jl_indexOf4_21 : decode prog_23_method_22_code 21 = .ok (.istore_n 3, 1) := by decide +kernel
theorem d_Jl_indexOf4_22 : decode prog_23_method_22_code 22 = .ok (.iload_n 2, 1) := by decide +kernel
theorem d_Jl_indexOf4_23 : decode prog_23_method_22_code 23 = .ok (.iload_n 3, 1) := by decide +kernel
theorem d_Jl_indexOf4_24 : decode prog_23_method_22_code 24 = .ok (.if_icmp .lt 5, 3) := by decide +kernel
theorem d_Jl_indexOf4_27 : decode prog_23_method_22_code 27 = .ok (.iconst (-1), 1) := by decide +kernel
theorem d_Jl_indexOf4_28 : decode prog_23_method_22_code 28 = .ok (.ireturn, 1) := by decide +kernel
theorem d_Jl_indexOf4_29 : decode prog_23_method_22_code 29 = .ok (.aload_n 0, 1) := by decide +kernel
theorem d_Jl_indexOf4_30 : decode prog_23_method_22_code 30 = .ok (.iload_n 1, 1) := by decide +kernel
theorem d_Jl_indexOf4_31 : decode prog_23_method_22_code 31 = .ok (.iload_n 2, 1) := by decide +kernel
theorem d_Jl_indexOf4_32 : decode prog_23_method_22_code 32 = .ok (.iload_n 3, 1) := by decide +kernel
theorem d_Jl_indexOf4_33 : decode prog_23_method_22_code 33 = .ok (.invokestatic 95, 3) := by decide +kernel
theorem d_Jl_indexOf4_36 : decode prog_23_method_22_code 36 = .ok (.ireturn, 1) := by decide +kernel
theorem d_Jl_canEncode1_0 : decode prog_23_method_4_code 0 = .ok (.iload_n 0, 1) := by decide +kernel
theorem d_Jl_canEncode1_1 : decode prog_23_method_4_code 1 = .ok (.ifCond .lt 14, 3) := by decide +kernel
theorem d_Jl_canEncode1_4 : decode prog_23_method_4_code 4 = .ok (.iload_n 0, 1) := by decide +kernel
theorem d_Jl_canEncode1_5 : decode prog_23_method_4_code 5 = .ok (.sipush 255, 3) := by decide +kernel
theorem d_Jl_canEncode1_8 : decode prog_23_method_4_code 8 = .ok (.if_icmp .gt 7, 3) := by decide +kernel
theorem d_Jl_canEncode1_11 : decode prog_23_method_4_code 11 = .ok (.iconst 1, 1) := by decide +kernel
theorem d_Jl_canEncode1_12 : decode prog_23_method_4_code 12 = .ok (.goto 4, 3) := by decide +kernel
theorem d_Jl_canEncode1_15 : decode prog_23_method_4_code 15 = .ok (.iconst 0, 1) := by decide +kernel
theorem d_Jl_canEncode1_16 : decode prog_23_method_4_code 16 = .ok (.ireturn, 1) := by decide +kernel
theorem d_Jl_indexOfChar4_0 : decode prog_23_method_23_code 0 = .ok (.iload_n 1, 1) := by decide +kernel
theorem d_Jl_indexOfChar4_1 : decode prog_23_method_23_code 1 = .ok (.i2b, 1) := by decide +kernel
theorem d_Jl_indexOfChar4_2 : decode prog_23_method_23_code 2 = .ok (.istore 4, 2) := by decide +kernel
theorem d_Jl_indexOfChar4_4 : decode prog_23_method_23_code 4 = .ok (.iload_n 2, 1) := by decide +kernel
theorem d_Jl_indexOfChar4_5 : decode prog_23_method_23_code 5 = .ok (.istore 5, 2) := by decide +kernel
theorem d_Jl_indexOfChar4_7 : decode prog_23_method_23_code 7 = .ok (.iload 5, 2) := by decide +kernel
theorem d_Jl_indexOfChar4_9 : decode prog_23_method_23_code 9 = .ok (.iload_n 3, 1) := by decide +kernel
theorem d_Jl_indexOfChar4_10 : decode prog_23_method_23_code 10 = .ok (.if_icmp .ge 21, 3) := by decide +kernel
theorem d_Jl_indexOfChar4_13 : decode prog_23_method_23_code 13 = .ok (.aload_n 0, 1) := by decide +kernel
theorem d_Jl_indexOfChar4_14 : decode prog_23_method_23_code 14 = .ok (.iload 5, 2) := by decide +kernel
theorem d_Jl_indexOfChar4_16 : decode prog_23_method_23_code 16 = .ok (.baload, 1) := by decide +kernel
theorem d_Jl_indexOfChar4_17 : decode prog_23_method_23_code 17 = .ok (.iload 4, 2) := by decide +kernel
theorem d_Jl_indexOfChar4_19 : decode prog_23_method_23_code 19 = .ok (.if_icmp .ne 6, 3) := by decide +kernel
theorem d_Jl_indexOfChar4_22 : decode prog_23_method_23_code 22 = .ok (.iload 5, 2) := by decide +kernel
theorem d_Jl_indexOfChar4_24 : decode prog_23_method_23_code 24 = .ok (.ireturn, 1) := by decide +kernel
theorem d_Jl_indexOfChar4_25 : decode prog_23_method_23_code 25 = .ok (.iinc 5 1, 3) := by decide +kernel
theorem d_Jl_indexOfChar4_28 : decode prog_23_method_23_code 28 = .ok (.goto (-21), 3) := by decide +kernel
theorem d_Jl_indexOfChar4_31 : decode prog_23_method_23_code 31 = .ok (.iconst (-1), 1) := by decide +kernel
theorem d_Jl_indexOfChar4_32 : decode prog_23_method_23_code 32 = .ok (.ireturn, 1) := by decide +kernel
theorem d_In_decode_0 : decode prog_5_method_4_code 0 = .ok (.aload_n 0, 1) := by decide +kernel
theorem d_In_decode_1 : decode prog_5_method_4_code 1 = .ok (.iload_n 1, 1) := by decide +kernel
theorem d_In_decode_2 : decode prog_5_method_4_code 2 = .ok (.putfield 25, 3) := by decide +kernel
theorem d_In_decode_5 : decode prog_5_method_4_code 5 = .ok (.aload_n 0, 1) := by decide +kernel
theorem d_In_decode_6 : decode prog_5_method_4_code 6 = .ok (.invokevirtual 28, 3) := by decide +kernel
theorem d_In_decode_9 : decode prog_5_method_4_code 9 = .ok (.istore_n 3, 1) := by decide +kernel
theorem d_In_decode_10 : decode prog_5_method_4_code 10 = .ok (.aload_n 0, 1) := by decide +kernel
theorem d_In_decode_11 : decode prog_5_method_4_code 11 = .ok (.getfield 32, 3) := by decide +kernel
theorem d_In_decode_14 : decode prog_5_method_4_code 14 = .ok (.iconst 3, 1) := by decide +kernel
theorem d_In_decode_15 : decode prog_5_method_4_code 15 = .ok (.if_icmp .ne 23, 3) := by decide +kernel
theorem d_In_decode_18 : decode prog_5_method_4_code 18 = .ok (.aload_n 0, 1) := by decide +kernel
theorem d_In_decode_19 : decode prog_5_method_4_code 19 = .ok (.getfield 35, 3) := by decide +kernel
theorem d_In_decode_22 : decode prog_5_method_4_code 22 = .ok (.iconst 4, 1) := by decide +kernel
theorem d_In_decode_23 : decode prog_5_method_4_code 23 = .ok (.if_icmp .ne 15, 3) := by decide +kernel
theorem d_In_decode_26 : decode prog_5_method_4_code 26 = .ok (.iload_n 2, 1) := by decide +kernel
theorem d_In_decode_27 : decode prog_5_method_4_code 27 = .ok (.ifCond .ne 11, 3) := by decide +kernel
theorem d_In_decode_30 : decode prog_5_method_4_code 30 = .ok (.new 38, 3) := by decide +kernel
theorem d_In_decode_33 : decode prog_5_method_4_code 33 = .ok (.dup, 1) := by decide +kernel
theorem d_In_decode_34 : decode prog_5_method_4_code 34 = .ok (.invokespecial 40, 3) := by decide +kernel
theorem d_In_decode_37 : decode prog_5_method_4_code 37 = .ok (.athrow, 1) := by decide +kernel
theorem d_In_decode_38 : decode prog_5_method_4_code 38 = .ok (.aload_n 0, 1) := by decide +kernel
theorem d_In_decode_39 : decode prog_5_method_4_code 39 = .ok (.iload_n 3, 1) := by decide +kernel
theorem d_In_decode_40 : decode prog_5_method_4_code 40 = .ok (.invokevirtual 41, 3) := by decide +kernel
theorem d_In_decode_43 : decode prog_5_method_4_code 43 = .ok (.aload_n 0, 1) := by decide +kernel
theorem d_In_decode_44 : decode prog_5_method_4_code 44 = .ok (.aload_n 0, 1) := by decide +kernel
theorem d_In_decode_45 : decode prog_5_method_4_code 45 = .ok (.invokevirtual 45, 3) := by decide +kernel
theorem d_In_decode_48 : decode prog_5_method_4_code 48 = .ok (.putfield 21, 3) := by decide +kernel
theorem d_In_decode_51 : decode prog_5_method_4_code 51 = .ok (.aload_n 0, 1) := by decide +kernel
theorem d_In_decode_52 : decode prog_5_method_4_code 52 = .ok (.getfield 21, 3) := by decide +kernel
theorem d_In_decode_55 : decode prog_5_method_4_code 55 = .ok (.ifCond .eq 14, 3) := by decide +kernel
theorem d_In_decode_58 : decode prog_5_method_4_code 58 = .ok (.aload_n 0, 1) := by decide +kernel
theorem d_In_decode_59 : decode prog_5_method_4_code 59 = .ok (.getfield 48, 3) := by decide +kernel
theorem d_In_decode_62 : decode prog_5_method_4_code 62 = .ok (.aload_n 0, 1) := by decide +kernel
theorem d_In_decode_63 : decode prog_5_method_4_code 63 = .ok (.invokevirtual 51, 3) := by decide +kernel
theorem d_In_decode_66 : decode prog_5_method_4_code 66 = .ok (.if_icmp .ge 11, 3) := by decide +kernel
theorem d_In_decode_69 : decode prog_5_method_4_code 69 = .ok (.new 54, 3) := by decide +kernel
theorem d_In_decode_72 : decode prog_5_method_4_code 72 = .ok (.dup, 1) := by decide +kernel
theorem d_In_decode_73 : decode prog_5_method_4_code 73 = .ok (.invokespecial 56, 3) := by decide +kernel
theorem d_In_decode_76 : decode prog_5_method_4_code 76 = .ok (.athrow, 1) := by decide +kernel
theorem d_In_decode_77 : decode prog_5_method_4_code 77 = .ok (.aload_n 0, 1) := by decide +kernel
theorem d_In_decode_78 : decode prog_5_method_4_code 78 = .ok (.invokevirtual 57, 3) := by decide +kernel
theorem d_In_decode_81 : decode prog_5_method_4_code 81 = .ok (.ifCond .eq 11, 3) := by decide +kernel
theorem d_In_decode_84 : decode prog_5_method_4_code 84 = .ok (.aload_n 0, 1) := by decide +kernel
theorem d_In_decode_85 : decode prog_5_method_4_code 85 = .ok (.aload_n 0, 1) := by decide +kernel
theorem d_In_decode_86 : decode prog_5_method_4_code 86 = .ok (.invokevirtual 61, 3) := by decide +kernel
theorem d_In_decode_89 : decode prog_5_method_4_code 89 = .ok (.putfield 64, 3) := by decide +kernel
theorem d_In_decode_92 : decode prog_5_method_4_code 92 = .ok (.aload_n 0, 1) := by decide +kernel
theorem d_In_decode_93 : decode prog_5_method_4_code 93 = .ok (.invokevirtual 67, 3) := by decide +kernel
theorem d_In_decode_96 : decode prog_5_method_4_code 96 = .ok (.ifCond .eq 7, 3) := by decide +kernel
theorem d_In_decode_99 : decode prog_5_method_4_code 99 = .ok (.aload_n 0, 1) := by decide +kernel
theorem d_In_decode_100 : decode prog_5_method_4_code 100 = .ok (.invokevirtual 70, 3) := by decide +kernel
theorem d_In_decode_103 : decode prog_5_method_4_code 103 = .ok (.return_, 1) := by decide +kernel
theorem d_In_decodeHead_0 : decode prog_5_method_5_code 0 = .ok (.aload_n 0, 1) := by decide +kernel
theorem d_In_decodeHead_1 : decode prog_5_method_5_code 1 = .ok (.invokevirtual 61, 3) := by decide +kernel
theorem d_In_decodeHead_4 : decode prog_5_method_5_code 4 = .ok (.istore_n 1, 1) := by decide +kernel
theorem d_In_decodeHead_5 : decode prog_5_method_5_code 5 = .ok (.iload_n 1, 1) := by decide +kernel
theorem d_In_decodeHead_6 : decode prog_5_method_5_code 6 = .ok (.sipush 128, 3) := by decide +kernel
theorem d_In_decodeHead_9 : decode prog_5_method_5_code 9 = .ok (.if_icmp .ge 54, 3) := by decide +kernel
theorem d_In_decodeHead_12 : decode prog_5_method_5_code 12 = .ok (.aload_n 0, 1) := by decide +kernel
theorem d_In_decodeHead_13 : decode prog_5_method_5_code 13 = .ok (.iconst 2, 1) := by decide +kernel
theorem d_In_decodeHead_14 : decode prog_5_method_5_code 14 = .ok (.putfield 32, 3) := by decide +kernel
theorem d_In_decodeHead_17 : decode prog_5_method_5_code 17 = .ok (.aload_n 0, 1) := by decide +kernel
theorem d_In_decodeHead_18 : decode prog_5_method_5_code 18 = .ok (.iload_n 1, 1) := by decide +kernel
theorem d_In_decodeHead_19 : decode prog_5_method_5_code 19 = .ok (.bipush 32, 2) := by decide +kernel
theorem d_In_decodeHead_21 : decode prog_5_method_5_code 21 = .ok (.irem, 1) := by decide +kernel
theorem d_In_decodeHead_22 : decode prog_5_method_5_code 22 = .ok (.putfield 35, 3) := by decide +kernel
theorem d_In_decodeHead_25 : decode prog_5_method_5_code 25 = .ok (.iload_n 1, 1) := by decide +kernel
theorem d_In_decodeHead_26 : decode prog_5_method_5_code 26 = .ok (.bipush 64, 2) := by decide +kernel
theorem d_In_decodeHead_28 : decode prog_5_method_5_code 28 = .ok (.iand, 1) := by decide +kernel
theorem d_In_decodeHead_29 : decode prog_5_method_5_code 29 = .ok (.ifCond .eq 7, 3) := by decide +kernel
theorem d_In_decodeHead_32 : decode prog_5_method_5_code 32 = .ok (.iconst 2, 1) := by decide +kernel
theorem d_In_decodeHead_33 : decode prog_5_method_5_code 33 = .ok (.goto 4, 3) := by decide +kernel
theorem d_In_decodeHead_36 : decode prog_5_method_5_code 36 = .ok (.iconst 1, 1) := by decide +kernel
theorem d_In_decodeHead_37 : decode prog_5_method_5_code 37 = .ok (.istore_n 2, 1) := by decide +kernel
theorem d_In_decodeHead_38 : decode prog_5_method_5_code 38 = .ok (.iload_n 1, 1) := by decide +kernel
theorem d_In_decodeHead_39 : decode prog_5_method_5_code 39 = .ok (.bipush 32, 2) := by decide +kernel
theorem d_In_decodeHead_41 : decode prog_5_method_5_code 41 = .ok (.iand, 1) := by decide +kernel
theorem d_In_decodeHead_42 : decode prog_5_method_5_code 42 = .ok (.ifCond .eq 7, 3) := by decide +kernel
theorem d_In_decodeHead_45 : decode prog_5_method_5_code 45 = .ok (.iconst 2, 1) := by decide +kernel
theorem d_In_decodeHead_46 : decode prog_5_method_5_code 46 = .ok (.goto 4, 3) := by decide +kernel
theorem d_In_decodeHead_49 : decode prog_5_method_5_code 49 = .ok (.iconst 1, 1) := by decide +kernel
theorem d_In_decodeHead_50 : decode prog_5_method_5_code 50 = .ok (.istore_n 3, 1) := by decide +kernel
theorem d_In_decodeHead_51 : decode prog_5_method_5_code 51 = .ok (.iload_n 2, 1) := by decide +kernel
theorem d_In_decodeHead_52 : decode prog_5_method_5_code 52 = .ok (.bipush 6, 2) := by decide +kernel
theorem d_In_decodeHead_54 : decode prog_5_method_5_code 54 = .ok (.ishl, 1) := by decide +kernel
theorem d_In_decodeHead_55 : decode prog_5_method_5_code 55 = .ok (.iload_n 3, 1) := by decide +kernel
theorem d_In_decodeHead_56 : decode prog_5_method_5_code 56 = .ok (.iconst 4, 1) := by decide +kernel
theorem d_In_decodeHead_57 : decode prog_5_method_5_code 57 = .ok (.ishl, 1) := by decide +kernel
theorem d_In_decodeHead_58 : decode prog_5_method_5_code 58 = .ok (.ior, 1) := by decide +kernel
theorem d_In_decodeHead_59 : decode prog_5_method_5_code 59 = .ok (.bipush 15, 2) := by decide +kernel
theorem d_In_decodeHead_61 : decode prog_5_method_5_code 61 = .ok (.ior, 1) := by decide +kernel
theorem d_In_decodeHead_62 : decode prog_5_method_5_code 62 = .ok (.ireturn, 1) := by decide +kernel
theorem d_In_decodeHead_63 : decode prog_5_method_5_code 63 = .ok (.iload_n 1, 1) := by decide +kernel
theorem d_In_decodeHead_64 : decode prog_5_method_5_code 64 = .ok (.sipush 192, 3) := by decide +kernel
theorem d_In_decodeHead_67 : decode prog_5_method_5_code 67 = .ok (.if_icmp .ge 39, 3) := by decide +kernel
theorem d_In_decodeHead_70 : decode prog_5_method_5_code 70 = .ok (.iload_n 1, 1) := by decide +kernel
theorem d_In_decodeHead_71 : decode prog_5_method_5_code 71 = .ok (.iconst 4, 1) := by decide +kernel
theorem d_In_decodeHead_72 : decode prog_5_method_5_code 72 = .ok (.ishr, 1) := by decide +kernel
theorem d_In_decodeHead_73 : decode prog_5_method_5_code 73 = .ok (.iconst 3, 1) := by decide +kernel
theorem d_In_decodeHead_74 : decode prog_5_method_5_code 74 = .ok (.iand, 1) := by decide +kernel
theorem d_In_decodeHead_75 : decode prog_5_method_5_code 75 = .ok (.istore_n 2, 1) := by decide +kernel
theorem d_In_decodeHead_76 : decode prog_5_method_5_code 76 = .ok (.aload_n 0, 1) := by decide +kernel
theorem d_In_decodeHead_77 : decode prog_5_method_5_code 77 = .ok (.iload_n 2, 1) := by decide +kernel
theorem d_In_decodeHead_78 : decode prog_5_method_5_code 78 = .ok (.iconst 3, 1) := by decide +kernel
theorem d_In_decodeHead_79 : decode prog_5_method_5_code 79 = .ok (.if_icmp .ne 7, 3) := by decide +kernel
theorem d_In_decodeHead_82 : decode prog_5_method_5_code 82 = .ok (.iconst 0, 1) := by decide +kernel
theorem d_In_decodeHead_83 : decode prog_5_method_5_code 83 = .ok (.goto 4, 3) := by decide +kernel
theorem d_In_decodeHead_86 : decode prog_5_method_5_code 86 = .ok (.iconst 1, 1) := by decide +kernel
theorem d_In_decodeHead_87 : decode prog_5_method_5_code 87 = .ok (.putfield 32, 3) := by decide +kernel
theorem d_In_decodeHead_90 : decode prog_5_method_5_code 90 = .ok (.aload_n 0, 1) := by decide +kernel
theorem d_In_decodeHead_91 : decode prog_5_method_5_code 91 = .ok (.iload_n 1, 1) := by decide +kernel
theorem d_In_decodeHead_92 : decode prog_5_method_5_code 92 = .ok (.bipush 16, 2) := by decide +kernel
theorem d_In_decodeHead_94 : decode prog_5_method_5_code 94 = .ok (.irem, 1) := by decide +kernel
theorem d_In_decodeHead_95 : decode prog_5_method_5_code 95 = .ok (.putfield 35, 3) := by decide +kernel
theorem d_In_decodeHead_98 : decode prog_5_method_5_code 98 = .ok (.iload_n 2, 1) := by decide +kernel
theorem d_In_decodeHead_99 : decode prog_5_method_5_code 99 = .ok (.bipush 6, 2) := by decide +kernel
theorem d_In_decodeHead_101 : decode prog_5_method_5_code 101 = .ok (.ishl, 1) := by decide +kernel
theorem d_In_decodeHead_102 : decode prog_5_method_5_code 102 = .ok (.bipush 63, 2) := by decide +kernel
theorem d_In_decodeHead_104 : decode prog_5_method_5_code 104 = .ok (.ior, 1) := by decide +kernel
theorem d_In_decodeHead_105 : decode prog_5_method_5_code 105 = .ok (.ireturn, 1) := by decide +kernel
theorem d_In_decodeHead_106 : decode prog_5_method_5_code 106 = .ok (.aload_n 0, 1) := by decide +kernel
theorem d_In_decodeHead_107 : decode prog_5_method_5_code 107 = .ok (.iload_n 1, 1) := by decide +kernel
theorem d_In_decodeHead_108 : decode prog_5_method_5_code 108 = .ok (.sipush 224, 3) := by decide +kernel
theorem d_In_decodeHead_111 : decode prog_5_method_5_code 111 = .ok (.if_icmp .ge 7, 3) := by decide +kernel
theorem d_In_decodeHead_114 : decode prog_5_method_5_code 114 = .ok (.iconst 2, 1) := by decide +kernel
theorem d_In_decodeHead_115 : decode prog_5_method_5_code 115 = .ok (.goto 4, 3) := by decide +kernel
theorem d_In_decodeHead_118 : decode prog_5_method_5_code 118 = .ok (.iconst 3, 1) := by decide +kernel
theorem d_In_decodeHead_119 : decode prog_5_method_5_code 119 = .ok (.putfield 32, 3) := by decide +kernel
theorem d_In_decodeHead_122 : decode prog_5_method_5_code 122 = .ok (.aload_n 0, 1) := by decide +kernel
theorem d_In_decodeHead_123 : decode prog_5_method_5_code 123 = .ok (.iload_n 1, 1) := by decide +kernel
theorem d_In_decodeHead_124 : decode prog_5_method_5_code 124 = .ok (.bipush 32, 2) := by decide +kernel
theorem d_In_decodeHead_126 : decode prog_5_method_5_code 126 = .ok (.irem, 1) := by decide +kernel
theorem d_In_decodeHead_127 : decode prog_5_method_5_code 127 = .ok (.putfield 35, 3) := by decide +kernel
theorem d_In_decodeHead_130 : decode prog_5_method_5_code 130 = .ok (.aload_n 0, 1) := by decide +kernel
theorem d_In_decodeHead_131 : decode prog_5_method_5_code 131 = .ok (.invokevirtual 61, 3) := by decide +kernel
theorem d_In_decodeHead_134 : decode prog_5_method_5_code 134 = .ok (.ireturn, 1) := by decide +kernel
theorem d_In_nextByte_0 : decode prog_5_method_11_code 0 = .ok (.aload_n 0, 1) := by decide +kernel
theorem d_In_nextByte_1 : decode prog_5_method_11_code 1 = .ok (.getfield 13, 3) := by decide +kernel
theorem d_In_nextByte_4 : decode prog_5_method_11_code 4 = .ok (.aload_n 0, 1) := by decide +kernel
theorem d_In_nextByte_5 : decode prog_5_method_11_code 5 = .ok (.getfield 25, 3) := by decide +kernel
theorem d_In_nextByte_8 : decode prog_5_method_11_code 8 = .ok (.invokevirtual 110, 3) := by decide +kernel
theorem d_In_nextByte_11 : decode prog_5_method_11_code 11 = .ok (.istore_n 1, 1) := by decide +kernel
theorem d_In_nextByte_12 : decode prog_5_method_11_code 12 = .ok (.aload_n 0, 1) := by decide +kernel
theorem d_In_nextByte_13 : decode prog_5_method_11_code 13 = .ok (.dup, 1) := by decide +kernel
theorem d_In_nextByte_14 : decode prog_5_method_11_code 14 = .ok (.getfield 25, 3) := by decide +kernel
theorem d_In_nextByte_17 : decode prog_5_method_11_code 17 = .ok (.iconst 1, 1) := by decide +kernel
theorem d_In_nextByte_18 : decode prog_5_method_11_code 18 = .ok (.iadd, 1) := by decide +kernel
theorem d_In_nextByte_19 : decode prog_5_method_11_code 19 = .ok (.putfield 25, 3) := by decide +kernel
theorem d_In_nextByte_22 : decode prog_5_method_11_code 22 = .ok (.iload_n 1, 1) := by decide +kernel
theorem d_In_nextByte_23 : decode prog_5_method_11_code 23 = .ok (.ireturn, 1) := by decide +kernel
theorem d_In_readNumbers_0 : decode prog_5_method_6_code 0 = .ok (.aload_n 0, 1) := by decide +kernel
theorem d_In_readNumbers_1 : decode prog_5_method_6_code 1 = .ok (.iconst 0, 1) := by decide +kernel
theorem d_In_readNumbers_2 : decode prog_5_method_6_code 2 = .ok (.putfield 48, 3) := by decide +kernel
theorem d_In_readNumbers_5 : decode prog_5_method_6_code 5 = .ok (.iconst 0, 1) := by decide +kernel
theorem d_In_readNumbers_6 : decode prog_5_method_6_code 6 = .ok (.istore_n 2, 1) := by decide +kernel
theorem d_In_readNumbers_7 : decode prog_5_method_6_code 7 = .ok (.iload_n 2, 1) := by decide +kernel
theorem d_In_readNumbers_8 : decode prog_5_method_6_code 8 = .ok (.aload_n 0, 1) := by decide +kernel
theorem d_In_readNumbers_9 : decode prog_5_method_6_code 9 = .ok (.getfield 7, 3) := by decide +kernel
theorem d_In_readNumbers_12 : decode prog_5_method_6_code 12 = .ok (.arraylength, 1) := by decide +kernel
theorem d_In_readNumbers_13 : decode prog_5_method_6_code 13 = .ok (.if_icmp .ge 47, 3) := by decide +kernel
theorem d_In_readNumbers_16 : decode prog_5_method_6_code 16 = .ok (.iload_n 1, 1) := by decide +kernel
theorem d_In_readNumbers_17 : decode prog_5_method_6_code 17 = .ok (.bipush 6, 2) := by decide +kernel
theorem d_In_readNumbers_19 : decode prog_5_method_6_code 19 = .ok (.iconst 2, 1) := by decide +kernel
theorem d_In_readNumbers_20 : decode prog_5_method_6_code 20 = .ok (.iload_n 2, 1) := by decide +kernel
theorem d_In_readNumbers_21 : decode prog_5_method_6_code 21 = .ok (.imul, 1) := by decide +kernel
theorem d_In_readNumbers_22 : decode prog_5_method_6_code 22 = .ok (.isub, 1) := by decide +kernel
theorem d_In_readNumbers_23 : decode prog_5_method_6_code 23 = .ok (.ishr, 1) := by decide +kernel
theorem d_In_readNumbers_24 : decode prog_5_method_6_code 24 = .ok (.iconst 3, 1) := by decide +kernel
theorem d_In_readNumbers_25 : decode prog_5_method_6_code 25 = .ok (.iand, 1) := by decide +kernel
theorem d_In_readNumbers_26 : decode prog_5_method_6_code 26 = .ok (.istore_n 3, 1) := by decide +kernel
theorem d_In_readNumbers_27 : decode prog_5_method_6_code 27 = .ok (.iload_n 3, 1) := by decide +kernel
theorem d_In_readNumbers_28 : decode prog_5_method_6_code 28 = .ok (.iconst 3, 1) := by decide +kernel
theorem d_In_readNumbers_29 : decode prog_5_method_6_code 29 = .ok (.if_icmp .ne 4, 3) := by decide +kernel
theorem d_In_readNumbers_32 : decode prog_5_method_6_code 32 = .ok (.return_, 1) := by decide +kernel
theorem d_In_readNumbers_33 : decode prog_5_method_6_code 33 = .ok (.aload_n 0, 1) := by decide +kernel
theorem d_In_readNumbers_34 : decode prog_5_method_6_code 34 = .ok (.getfield 7, 3) := by decide +kernel
theorem d_In_readNumbers_37 : decode prog_5_method_6_code 37 = .ok (.iload_n 2, 1) := by decide +kernel
theorem d_In_readNumbers_38 : decode prog_5_method_6_code 38 = .ok (.aload_n 0, 1) := by decide +kernel
theorem d_In_readNumbers_39 : decode prog_5_method_6_code 39 = .ok (.iload_n 3, 1) := by decide +kernel
theorem d_In_readNumbers_40 : decode prog_5_method_6_code 40 = .ok (.invokevirtual 73, 3) := by decide +kernel
theorem d_In_readNumbers_43 : decode prog_5_method_6_code 43 = .ok (.iastore, 1) := by decide +kernel
theorem d_In_readNumbers_44 : decode prog_5_method_6_code 44 = .ok (.aload_n 0, 1) := by decide +kernel
theorem d_In_readNumbers_45 : decode prog_5_method_6_code 45 = .ok (.dup, 1) := by decide +kernel
theorem d_In_readNumbers_46 : decode prog_5_method_6_code 46 = .ok (.getfield 48, 3) := by decide +kernel
theorem d_In_readNumbers_49 : decode prog_5_method_6_code 49 = .ok (.iconst 1, 1) := by decide +kernel
theorem d_In_readNumbers_50 : decode prog_5_method_6_code 50 = .ok (.iadd, 1) := by decide +kernel
theorem d_In_readNumbers_51 : decode prog_5_method_6_code 51 = .ok (.putfield 48, 3) := by decide +kernel
theorem d_In_readNumbers_54 : decode prog_5_method_6_code 54 = .ok (.iinc 2 1, 3) := by decide +kernel
theorem d_In_readNumbers_57 : decode prog_5_method_6_code 57 = .ok (.goto (-50), 3) := by decide +kernel
theorem d_In_readNumbers_60 : decode prog_5_method_6_code 60 = .ok (.return_, 1) := by decide +kernel
theorem d_In_readNumber_0 : decode prog_5_method_7_code 0 = .ok (.iload_n 1, 1) := by decide +kernel
theorem d_In_readNumber_1 : decode prog_5_method_7_code 1 = .ok (.iconst 2, 1) := by decide +kernel
theorem d_In_readNumber_2 : decode prog_5_method_7_code 2 = .ok (.if_icmp .ne 16, 3) := by decide +kernel
theorem d_In_readNumber_5 : decode prog_5_method_7_code 5 = .ok (.aload_n 0, 1) := by decide +kernel
theorem d_In_readNumber_6 : decode prog_5_method_7_code 6 = .ok (.getfield 17, 3) := by decide +kernel
theorem d_In_readNumber_9 : decode prog_5_method_7_code 9 = .ok (.aload_n 0, 1) := by decide +kernel
theorem d_In_readNumber_10 : decode prog_5_method_7_code 10 = .ok (.invokevirtual 61, 3) := by decide +kernel
theorem d_In_readNumber_13 : decode prog_5_method_7_code 13 = .ok (.iconst 0, 1) := by decide +kernel
theorem d_In_readNumber_14 : decode prog_5_method_7_code 14 = .ok (.invokevirtual 77, 3) := by decide +kernel
theorem d_In_readNumber_17 : decode prog_5_method_7_code 17 = .ok (.ireturn, 1) := by decide +kernel
theorem d_In_readNumber_18 : decode prog_5_method_7_code 18 = .ok (.iload_n 1, 1) := by decide +kernel
theorem d_In_readNumber_19 : decode prog_5_method_7_code 19 = .ok (.iconst 1, 1) := by decide +kernel
theorem d_In_readNumber_20 : decode prog_5_method_7_code 20 = .ok (.if_icmp .ne 8, 3) := by decide +kernel
theorem d_In_readNumber_23 : decode prog_5_method_7_code 23 = .ok (.aload_n 0, 1) := by decide +kernel
theorem d_In_readNumber_24 : decode prog_5_method_7_code 24 = .ok (.invokevirtual 61, 3) := by decide +kernel
theorem d_In_readNumber_27 : decode prog_5_method_7_code 27 = .ok (.ireturn, 1) := by decide +kernel
theorem d_In_readNumber_28 : decode prog_5_method_7_code 28 = .ok (.aload_n 0, 1) := by decide +kernel
theorem d_In_readNumber_29 : decode prog_5_method_7_code 29 = .ok (.getfield 13, 3) := by decide +kernel
theorem d_In_readNumber_32 : decode prog_5_method_7_code 32 = .ok (.aload_n 0, 1) := by decide +kernel
theorem d_In_readNumber_33 : decode prog_5_method_7_code 33 = .ok (.getfield 25, 3) := by decide +kernel
theorem d_In_readNumber_36 : decode prog_5_method_7_code 36 = .ok (.invokevirtual 83, 3) := by decide +kernel
theorem d_In_readNumber_39 : decode prog_5_method_7_code 39 = .ok (.istore_n 2, 1) := by decide +kernel
theorem d_In_readNumber_40 : decode prog_5_method_7_code 40 = .ok (.aload_n 0, 1) := by decide +kernel
theorem d_In_readNumber_41 : decode prog_5_method_7_code 41 = .ok (.dup, 1) := by decide +kernel
theorem d_In_readNumber_42 : decode prog_5_method_7_code 42 = .ok (.getfield 25, 3) := by decide +kernel
theorem d_In_readNumber_45 : decode prog_5_method_7_code 45 = .ok (.iconst 2, 1) := by decide +kernel
theorem d_In_readNumber_46 : decode prog_5_method_7_code 46 = .ok (.iadd, 1) := by decide +kernel
theorem d_In_readNumber_47 : decode prog_5_method_7_code 47 = .ok (.putfield 25, 3) := by decide +kernel
theorem d_In_readNumber_50 : decode prog_5_method_7_code 50 = .ok (.iload_n 2, 1) := by decide +kernel
theorem d_In_readNumber_51 : decode prog_5_method_7_code 51 = .ok (.ireturn, 1) := by decide +kernel
theorem d_In_formOf_0 : decode prog_5_method_8_code 0 = .ok (.aload_n 0, 1) := by decide +kernel
theorem d_In_formOf_1 : decode prog_5_method_8_code 1 = .ok (.getfield 32, 3) := by decide +kernel
theorem d_In_formOf_4 : decode prog_5_method_8_code 4 = .ok (.ifCond .ne 12, 3) := by decide +kernel
theorem d_In_formOf_7 : decode prog_5_method_8_code 7 = .ok (.getstatic 88, 3) := by decide +kernel
theorem d_In_formOf_10 : decode prog_5_method_8_code 10 = .ok (.aload_n 0, 1) := by decide +kernel
theorem d_In_formOf_11 : decode prog_5_method_8_code 11 = .ok (.getfield 35, 3) := by decide +kernel
theorem d_In_formOf_14 : decode prog_5_method_8_code 14 = .ok (.iaload, 1) := by decide +kernel
theorem d_In_formOf_15 : decode prog_5_method_8_code 15 = .ok (.ireturn, 1) := by decide +kernel
theorem d_In_formOf_16 : decode prog_5_method_8_code 16 = .ok (.aload_n 0, 1) := by decide +kernel
theorem d_In_formOf_17 : decode prog_5_method_8_code 17 = .ok (.getfield 32, 3) := by decide +kernel
theorem d_In_formOf_20 : decode prog_5_method_8_code 20 = .ok (.iconst 1, 1) := by decide +kernel
theorem d_In_formOf_21 : decode prog_5_method_8_code 21 = .ok (.if_icmp .ne 12, 3) := by decide +kernel
theorem d_In_formOf_24 : decode prog_5_method_8_code 24 = .ok (.getstatic 91, 3) := by decide +kernel
theorem d_In_formOf_27 : decode prog_5_method_8_code 27 = .ok (.aload_n 0, 1) := by decide +kernel
theorem d_In_formOf_28 : decode prog_5_method_8_code 28 = .ok (.getfield 35, 3) := by decide +kernel
theorem d_In_formOf_31 : decode prog_5_method_8_code 31 = .ok (.iaload, 1) := by decide +kernel
theorem d_In_formOf_32 : decode prog_5_method_8_code 32 = .ok (.ireturn, 1) := by decide +kernel
theorem d_In_formOf_33 : decode prog_5_method_8_code 33 = .ok (.aload_n 0, 1) := by decide +kernel
theorem d_In_formOf_34 : decode prog_5_method_8_code 34 = .ok (.getfield 32, 3) := by decide +kernel
theorem d_In_formOf_37 : decode prog_5_method_8_code 37 = .ok (.iconst 2, 1) := by decide +kernel
theorem d_In_formOf_38 : decode prog_5_method_8_code 38 = .ok (.if_icmp .ne 12, 3) := by decide +kernel
theorem d_In_formOf_41 : decode prog_5_method_8_code 41 = .ok (.getstatic 94, 3) := by decide +kernel
theorem d_In_formOf_44 : decode prog_5_method_8_code 44 = .ok (.aload_n 0, 1) := by decide +kernel
theorem d_In_formOf_45 : decode prog_5_method_8_code 45 = .ok (.getfield 35, 3) := by decide +kernel
theorem d_In_formOf_48 : decode prog_5_method_8_code 48 = .ok (.iaload, 1) := by decide +kernel
theorem d_In_formOf_49 : decode prog_5_method_8_code 49 = .ok (.ireturn, 1) := by decide +kernel
theorem d_In_formOf_50 : decode prog_5_method_8_code 50 = .ok (.aload_n 0, 1) := by decide +kernel
theorem d_In_formOf_51 : decode prog_5_method_8_code 51 = .ok (.getfield 35, 3) := by decide +kernel
theorem d_In_formOf_54 : decode prog_5_method_8_code 54 = .ok (.getstatic 97, 3) := by decide +kernel
theorem d_In_formOf_57 : decode prog_5_method_8_code 57 = .ok (.arraylength, 1) := by decide +kernel
theorem d_In_formOf_58 : decode prog_5_method_8_code 58 = .ok (.if_icmp .ge 14, 3) := by decide +kernel
theorem d_In_formOf_61 : decode prog_5_method_8_code 61 = .ok (.getstatic 97, 3) := by decide +kernel
theorem d_In_formOf_64 : decode prog_5_method_8_code 64 = .ok (.aload_n 0, 1) := by decide +kernel
theorem d_In_formOf_65 : decode prog_5_method_8_code 65 = .ok (.getfield 35, 3) := by decide +kernel
theorem d_In_formOf_68 : decode prog_5_method_8_code 68 = .ok (.iaload, 1) := by decide +kernel
theorem d_In_formOf_69 : decode prog_5_method_8_code 69 = .ok (.goto 4, 3) := by decide +kernel
theorem d_In_formOf_72 : decode prog_5_method_8_code 72 = .ok (.iconst 0, 1) := by decide +kernel
theorem d_In_formOf_73 : decode prog_5_method_8_code 73 = .ok (.ireturn, 1) := by decide +kernel
theorem d_In_needed_0 : decode prog_5_method_9_code 0 = .ok (.aload_n 0, 1) := by decide +kernel
theorem d_In_needed_1 : decode prog_5_method_9_code 1 = .ok (.getfield 32, 3) := by decide +kernel
theorem d_In_needed_4 : decode prog_5_method_9_code 4 = .ok (.iconst 3, 1) := by decide +kernel
theorem d_In_needed_5 : decode prog_5_method_9_code 5 = .ok (.if_icmp .ne 14, 3) := by decide +kernel
theorem d_In_needed_8 : decode prog_5_method_9_code 8 = .ok (.getstatic 100, 3) := by decide +kernel
theorem d_In_needed_11 : decode prog_5_method_9_code 11 = .ok (.aload_n 0, 1) := by decide +kernel
theorem d_In_needed_12 : decode prog_5_method_9_code 12 = .ok (.getfield 35, 3) := by decide +kernel
theorem d_In_needed_15 : decode prog_5_method_9_code 15 = .ok (.iaload, 1) := by decide +kernel
theorem d_In_needed_16 : decode prog_5_method_9_code 16 = .ok (.goto 7, 3) := by decide +kernel
theorem d_In_needed_19 : decode prog_5_method_9_code 19 = .ok (.aload_n 0, 1) := by decide +kernel
theorem d_In_needed_20 : decode prog_5_method_9_code 20 = .ok (.getfield 32, 3) := by decide +kernel
theorem d_In_needed_23 : decode prog_5_method_9_code 23 = .ok (.ireturn, 1) := by decide +kernel
theorem d_In_gives_0 : decode prog_5_method_2_code 0 = .ok (.aload_n 0, 1) := by decide +kernel
theorem d_In_gives_1 : decode prog_5_method_2_code 1 = .ok (.getfield 21, 3) := by decide +kernel
theorem d_In_gives_4 : decode prog_5_method_2_code 4 = .ok (.iconst 2, 1) := by decide +kernel
theorem d_In_gives_5 : decode prog_5_method_2_code 5 = .ok (.iand, 1) := by decide +kernel
theorem d_In_gives_6 : decode prog_5_method_2_code 6 = .ok (.ifCond .eq 7, 3) := by decide +kernel
theorem d_In_gives_9 : decode prog_5_method_2_code 9 = .ok (.iconst 1, 1) := by decide +kernel
theorem d_In_gives_10 : decode prog_5_method_2_code 10 = .ok (.goto 4, 3) := by decide +kernel
theorem d_In_gives_13 : decode prog_5_method_2_code 13 = .ok (.iconst 0, 1) := by decide +kernel
theorem d_In_gives_14 : decode prog_5_method_2_code 14 = .ok (.ireturn, 1) := by decide +kernel
theorem d_In_branches_0 : decode prog_5_method_3_code 0 = .ok (.aload_n 0, 1) := by decide +kernel
theorem d_In_branches_1 : decode prog_5_method_3_code 1 = .ok (.getfield 21, 3) := by decide +kernel
theorem d_In_branches_4 : decode prog_5_method_3_code 4 = .ok (.iconst 4, 1) := by decide +kernel
theorem d_In_branches_5 : decode prog_5_method_3_code 5 = .ok (.iand, 1) := by decide +kernel
theorem d_In_branches_6 : decode prog_5_method_3_code 6 = .ok (.ifCond .eq 7, 3) := by decide +kernel
theorem d_In_branches_9 : decode prog_5_method_3_code 9 = .ok (.iconst 1, 1) := by decide +kernel
theorem d_In_branches_10 : decode prog_5_method_3_code 10 = .ok (.goto 4, 3) := by decide +kernel
theorem d_In_branches_13 : decode prog_5_method_3_code 13 = .ok (.iconst 0, 1) := by decide +kernel
theorem d_In_branches_14 : decode prog_5_method_3_code 14 = .ok (.ireturn, 1) := by decide +kernel
theorem d_In_readBranch_0 : decode prog_5_method_10_code 0 = .ok (.aload_n 0, 1) := by decide +kernel
theorem d_In_readBranch_1 : decode prog_5_method_10_code 1 = .ok (.invokevirtual 61, 3) := by decide +kernel
theorem d_In_readBranch_4 : decode prog_5_method_10_code 4 = .ok (.istore_n 1, 1) := by decide +kernel
theorem d_In_readBranch_5 : decode prog_5_method_10_code 5 = .ok (.aload_n 0, 1) := by decide +kernel
theorem d_In_readBranch_6 : decode prog_5_method_10_code 6 = .ok (.iload_n 1, 1) := by decide +kernel
theorem d_In_readBranch_7 : decode prog_5_method_10_code 7 = .ok (.sipush 128, 3) := by decide +kernel
theorem d_In_readBranch_10 : decode prog_5_method_10_code 10 = .ok (.iand, 1) := by decide +kernel
theorem d_In_readBranch_11 : decode prog_5_method_10_code 11 = .ok (.ifCond .eq 7, 3) := by decide +kernel
theorem d_In_readBranch_14 : decode prog_5_method_10_code 14 = .ok (.iconst 1, 1) := by decide +kernel
theorem d_In_readBranch_15 : decode prog_5_method_10_code 15 = .ok (.goto 4, 3) := by decide +kernel
theorem d_In_readBranch_18 : decode prog_5_method_10_code 18 = .ok (.iconst 0, 1) := by decide +kernel
theorem d_In_readBranch_19 : decode prog_5_method_10_code 19 = .ok (.putfield 103, 3) := by decide +kernel
theorem d_In_readBranch_22 : decode prog_5_method_10_code 22 = .ok (.aload_n 0, 1) := by decide +kernel
theorem d_In_readBranch_23 : decode prog_5_method_10_code 23 = .ok (.iload_n 1, 1) := by decide +kernel
theorem d_In_readBranch_24 : decode prog_5_method_10_code 24 = .ok (.bipush 63, 2) := by decide +kernel
theorem d_In_readBranch_26 : decode prog_5_method_10_code 26 = .ok (.iand, 1) := by decide +kernel
theorem d_In_readBranch_27 : decode prog_5_method_10_code 27 = .ok (.putfield 107, 3) := by decide +kernel
theorem d_In_readBranch_30 : decode prog_5_method_10_code 30 = .ok (.iload_n 1, 1) := by decide +kernel
theorem d_In_readBranch_31 : decode prog_5_method_10_code 31 = .ok (.bipush 64, 2) := by decide +kernel
theorem d_In_readBranch_33 : decode prog_5_method_10_code 33 = .ok (.iand, 1) := by decide +kernel
theorem d_In_readBranch_34 : decode prog_5_method_10_code 34 = .ok (.ifCond .ne 41, 3) := by decide +kernel
theorem d_In_readBranch_37 : decode prog_5_method_10_code 37 = .ok (.aload_n 0, 1) := by decide +kernel
theorem d_In_readBranch_38 : decode prog_5_method_10_code 38 = .ok (.aload_n 0, 1) := by decide +kernel
theorem d_In_readBranch_39 : decode prog_5_method_10_code 39 = .ok (.getfield 107, 3) := by decide +kernel
theorem d_In_readBranch_42 : decode prog_5_method_10_code 42 = .ok (.bipush 8, 2) := by decide +kernel
theorem d_In_readBranch_44 : decode prog_5_method_10_code 44 = .ok (.ishl, 1) := by decide +kernel
theorem d_In_readBranch_45 : decode prog_5_method_10_code 45 = .ok (.aload_n 0, 1) := by decide +kernel
theorem d_In_readBranch_46 : decode prog_5_method_10_code 46 = .ok (.invokevirtual 61, 3) := by decide +kernel
theorem d_In_readBranch_49 : decode prog_5_method_10_code 49 = .ok (.ior, 1) := by decide +kernel
theorem d_In_readBranch_50 : decode prog_5_method_10_code 50 = .ok (.putfield 107, 3) := by decide +kernel
theorem d_In_readBranch_53 : decode prog_5_method_10_code 53 = .ok (.aload_n 0, 1) := by decide +kernel
theorem d_In_readBranch_54 : decode prog_5_method_10_code 54 = .ok (.getfield 107, 3) := by decide +kernel
theorem d_In_readBranch_57 : decode prog_5_method_10_code 57 = .ok (.sipush 8192, 3) := by decide +kernel
theorem d_In_readBranch_60 : decode prog_5_method_10_code 60 = .ok (.if_icmp .lt 15, 3) := by decide +kernel
theorem d_In_readBranch_63 : decode prog_5_method_10_code 63 = .ok (.aload_n 0, 1) := by decide +kernel
theorem d_In_readBranch_64 : decode prog_5_method_10_code 64 = .ok (.dup, 1) := by decide +kernel
theorem d_In_readBranch_65 : decode prog_5_method_10_code 65 = .ok (.getfield 107, 3) := by decide +kernel
theorem d_In_readBranch_68 : decode prog_5_method_10_code 68 = .ok (.sipush 16384, 3) := by decide +kernel
theorem d_In_readBranch_71 : decode prog_5_method_10_code 71 = .ok (.isub, 1) := by decide +kernel
theorem d_In_readBranch_72 : decode prog_5_method_10_code 72 = .ok (.putfield 107, 3) := by decide +kernel
theorem d_In_readBranch_75 : decode prog_5_method_10_code 75 = .ok (.return_, 1) := by decide +kernel
theorem d_En_startAt_0 : decode prog_4_method_2_code 0 = .ok (.aload_n 0, 1) := by decide +kernel
theorem d_En_startAt_1 : decode prog_4_method_2_code 1 = .ok (.iload_n 1, 1) := by decide +kernel
theorem d_En_startAt_2 : decode prog_4_method_2_code 2 = .ok (.putfield 22, 3) := by decide +kernel
theorem d_En_startAt_5 : decode prog_4_method_2_code 5 = .ok (.aload_n 0, 1) := by decide +kernel
theorem d_En_startAt_6 : decode prog_4_method_2_code 6 = .ok (.iconst 1, 1) := by decide +kernel
theorem d_En_startAt_7 : decode prog_4_method_2_code 7 = .ok (.putfield 76, 3) := by decide +kernel
theorem d_En_startAt_10 : decode prog_4_method_2_code 10 = .ok (.aload_n 0, 1) := by decide +kernel
theorem d_En_startAt_11 : decode prog_4_method_2_code 11 = .ok (.iconst 0, 1) := by decide +kernel
theorem d_En_startAt_12 : decode prog_4_method_2_code 12 = .ok (.putfield 80, 3) := by decide +kernel
theorem d_En_startAt_15 : decode prog_4_method_2_code 15 = .ok (.aload_n 0, 1) := by decide +kernel
theorem d_En_startAt_16 : decode prog_4_method_2_code 16 = .ok (.iconst 0, 1) := by decide +kernel
theorem d_En_startAt_17 : decode prog_4_method_2_code 17 = .ok (.putfield 83, 3) := by decide +kernel
theorem d_En_startAt_20 : decode prog_4_method_2_code 20 = .ok (.aload_n 0, 1) := by decide +kernel
theorem d_En_startAt_21 : decode prog_4_method_2_code 21 = .ok (.getfield 43, 3) := by decide +kernel
theorem d_En_startAt_24 : decode prog_4_method_2_code 24 = .ok (.iconst 0, 1) := by decide +kernel
theorem d_En_startAt_25 : decode prog_4_method_2_code 25 = .ok (.putfield 86, 3) := by decide +kernel
theorem d_En_startAt_28 : decode prog_4_method_2_code 28 = .ok (.aload_n 0, 1) := by decide +kernel
theorem d_En_startAt_29 : decode prog_4_method_2_code 29 = .ok (.getfield 10, 3) := by decide +kernel
theorem d_En_startAt_32 : decode prog_4_method_2_code 32 = .ok (.iconst 0, 1) := by decide +kernel
theorem d_En_startAt_33 : decode prog_4_method_2_code 33 = .ok (.putfield 91, 3) := by decide +kernel
theorem d_En_startAt_36 : decode prog_4_method_2_code 36 = .ok (.aload_n 0, 1) := by decide +kernel
theorem d_En_startAt_37 : decode prog_4_method_2_code 37 = .ok (.getfield 39, 3) := by decide +kernel
theorem d_En_startAt_40 : decode prog_4_method_2_code 40 = .ok (.invokevirtual 94, 3) := by decide +kernel
theorem d_En_startAt_43 : decode prog_4_method_2_code 43 = .ok (.aload_n 0, 1) := by decide +kernel
theorem d_En_startAt_44 : decode prog_4_method_2_code 44 = .ok (.getfield 35, 3) := by decide +kernel
theorem d_En_startAt_47 : decode prog_4_method_2_code 47 = .ok (.invokevirtual 97, 3) := by decide +kernel
theorem d_En_startAt_50 : decode prog_4_method_2_code 50 = .ok (.return_, 1) := by decide +kernel
theorem d_En_tryStep_0 : decode prog_4_method_3_code 0 = .ok (.aload_n 0, 1) := by decide +kernel
theorem d_En_tryStep_1 : decode prog_4_method_3_code 1 = .ok (.getfield 72, 3) := by decide +kernel
theorem d_En_tryStep_4 : decode prog_4_method_3_code 4 = .ok (.getfield 100, 3) := by decide +kernel
theorem d_En_tryStep_7 : decode prog_4_method_3_code 7 = .ok (.astore_n 1, 1) := by decide +kernel
theorem d_En_tryStep_8 : decode prog_4_method_3_code 8 = .ok (.aload_n 0, 1) := by decide +kernel
theorem d_En_tryStep_9 : decode prog_4_method_3_code 9 = .ok (.getfield 72, 3) := by decide +kernel
theorem d_En_tryStep_12 : decode prog_4_method_3_code 12 = .ok (.aload_n 0, 1) := by decide +kernel
theorem d_En_tryStep_13 : decode prog_4_method_3_code 13 = .ok (.getfield 22, 3) := by decide +kernel
theorem d_En_tryStep_16 : decode prog_4_method_3_code 16 = .ok (.aload_n 0, 1) := by decide +kernel
theorem d_En_tryStep_17 : decode prog_4_method_3_code 17 = .ok (.getfield 35, 3) := by decide +kernel
theorem d_En_tryStep_20 : decode prog_4_method_3_code 20 = .ok (.getfield 103, 3) := by decide +kernel
theorem d_En_tryStep_23 : decode prog_4_method_3_code 23 = .ok (.invokevirtual 106, 3) := by decide +kernel
theorem d_En_tryStep_26 : decode prog_4_method_3_code 26 = .ok (.aload_n 0, 1) := by decide +kernel
theorem d_En_tryStep_27 : decode prog_4_method_3_code 27 = .ok (.aload_n 0, 1) := by decide +kernel
theorem d_En_tryStep_28 : decode prog_4_method_3_code 28 = .ok (.getfield 72, 3) := by decide +kernel
theorem d_En_tryStep_31 : decode prog_4_method_3_code 31 = .ok (.getfield 110, 3) := by decide +kernel
theorem d_En_tryStep_34 : decode prog_4_method_3_code 34 = .ok (.putfield 113, 3) := by decide +kernel
theorem d_En_tryStep_37 : decode prog_4_method_3_code 37 = .ok (.aload_n 0, 1) := by decide +kernel
theorem d_En_tryStep_38 : decode prog_4_method_3_code 38 = .ok (.getfield 72, 3) := by decide +kernel
theorem d_En_tryStep_41 : decode prog_4_method_3_code 41 = .ok (.getfield 116, 3) := by decide +kernel
theorem d_En_tryStep_44 : decode prog_4_method_3_code 44 = .ok (.tableswitch 58 0 2 #[28, 35, 45], 28) := by decide +kernel
theorem d_En_tryStep_72 : decode prog_4_method_3_code 72 = .ok (.aload_n 0, 1) := by decide +kernel
theorem d_En_tryStep_73 : decode prog_4_method_3_code 73 = .ok (.invokevirtual 119, 3) := by decide +kernel
theorem d_En_tryStep_76 : decode prog_4_method_3_code 76 = .ok (.goto 39, 3) := by decide +kernel
theorem d_En_tryStep_79 : decode prog_4_method_3_code 79 = .ok (.aload_n 0, 1) := by decide +kernel
theorem d_En_tryStep_80 : decode prog_4_method_3_code 80 = .ok (.aload_n 1, 1) := by decide +kernel
theorem d_En_tryStep_81 : decode prog_4_method_3_code 81 = .ok (.iconst 0, 1) := by decide +kernel
theorem d_En_tryStep_82 : decode prog_4_method_3_code 82 = .ok (.iaload, 1) := by decide +kernel
theorem d_En_tryStep_83 : decode prog_4_method_3_code 83 = .ok (.invokevirtual 122, 3) := by decide +kernel
theorem d_En_tryStep_86 : decode prog_4_method_3_code 86 = .ok (.goto 29, 3) := by decide +kernel
theorem d_En_tryStep_89 : decode prog_4_method_3_code 89 = .ok (.aload_n 0, 1) := by decide +kernel
theorem d_En_tryStep_90 : decode prog_4_method_3_code 90 = .ok (.aload_n 1, 1) := by decide +kernel
theorem d_En_tryStep_91 : decode prog_4_method_3_code 91 = .ok (.iconst 0, 1) := by decide +kernel
theorem d_En_tryStep_92 : decode prog_4_method_3_code 92 = .ok (.iaload, 1) := by decide +kernel
theorem d_En_tryStep_93 : decode prog_4_method_3_code 93 = .ok (.aload_n 1, 1) := by decide +kernel
theorem d_En_tryStep_94 : decode prog_4_method_3_code 94 = .ok (.iconst 1, 1) := by decide +kernel
theorem d_En_tryStep_95 : decode prog_4_method_3_code 95 = .ok (.iaload, 1) := by decide +kernel
theorem d_En_tryStep_96 : decode prog_4_method_3_code 96 = .ok (.invokevirtual 126, 3) := by decide +kernel
theorem d_En_tryStep_99 : decode prog_4_method_3_code 99 = .ok (.goto 16, 3) := by decide +kernel
theorem d_En_tryStep_102 : decode prog_4_method_3_code 102 = .ok (.aload_n 0, 1) := by decide +kernel
theorem d_En_tryStep_103 : decode prog_4_method_3_code 103 = .ok (.aload_n 1, 1) := by decide +kernel
theorem d_En_tryStep_104 : decode prog_4_method_3_code 104 = .ok (.iconst 0, 1) := by decide +kernel
theorem d_En_tryStep_105 : decode prog_4_method_3_code 105 = .ok (.iaload, 1) := by decide +kernel
theorem d_En_tryStep_106 : decode prog_4_method_3_code 106 = .ok (.aload_n 1, 1) := by decide +kernel
theorem d_En_tryStep_107 : decode prog_4_method_3_code 107 = .ok (.iconst 1, 1) := by decide +kernel
theorem d_En_tryStep_108 : decode prog_4_method_3_code 108 = .ok (.iaload, 1) := by decide +kernel
theorem d_En_tryStep_109 : decode prog_4_method_3_code 109 = .ok (.aload_n 1, 1) := by decide +kernel
theorem d_En_tryStep_110 : decode prog_4_method_3_code 110 = .ok (.iconst 2, 1) := by decide +kernel
theorem d_En_tryStep_111 : decode prog_4_method_3_code 111 = .ok (.iaload, 1) := by decide +kernel
theorem d_En_tryStep_112 : decode prog_4_method_3_code 112 = .ok (.invokevirtual 130, 3) := by decide +kernel
theorem d_En_tryStep_115 : decode prog_4_method_3_code 115 = .ok (.goto 30, 3) := by decide +kernel
theorem d_En_tryStep_118 : decode prog_4_method_3_code 118 = .ok (.astore_n 2, 1) := by decide +kernel
theorem d_En_tryStep_119 : decode prog_4_method_3_code 119 = .ok (.aload_n 0, 1) := by decide +kernel
theorem d_En_tryStep_120 : decode prog_4_method_3_code 120 = .ok (.iconst 0, 1) := by decide +kernel
theorem d_En_tryStep_121 : decode prog_4_method_3_code 121 = .ok (.putfield 76, 3) := by decide +kernel
theorem d_En_tryStep_124 : decode prog_4_method_3_code 124 = .ok (.iconst 1, 1) := by decide +kernel
theorem d_En_tryStep_125 : decode prog_4_method_3_code 125 = .ok (.ireturn, 1) := by decide +kernel
theorem d_En_tryStep_126 : decode prog_4_method_3_code 126 = .ok (.astore_n 2, 1) := by decide +kernel
theorem d_En_tryStep_127 : decode prog_4_method_3_code 127 = .ok (.aload_n 0, 1) := by decide +kernel
theorem d_En_tryStep_128 : decode prog_4_method_3_code 128 = .ok (.iconst 0, 1) := by decide +kernel
theorem d_En_tryStep_129 : decode prog_4_method_3_code 129 = .ok (.putfield 76, 3) := by decide +kernel
theorem d_En_tryStep_132 : decode prog_4_method_3_code 132 = .ok (.iconst 2, 1) := by decide +kernel
theorem d_En_tryStep_133 : decode prog_4_method_3_code 133 = .ok (.ireturn, 1) := by decide +kernel
theorem d_En_tryStep_134 : decode prog_4_method_3_code 134 = .ok (.astore_n 2, 1) := by decide +kernel
theorem d_En_tryStep_135 : decode prog_4_method_3_code 135 = .ok (.aload_n 0, 1) := by decide +kernel
theorem d_En_tryStep_136 : decode prog_4_method_3_code 136 = .ok (.iconst 0, 1) := by decide +kernel
theorem d_En_tryStep_137 : decode prog_4_method_3_code 137 = .ok (.putfield 76, 3) := by decide +kernel
theorem d_En_tryStep_140 : decode prog_4_method_3_code 140 = .ok (.iconst 3, 1) := by decide +kernel
theorem d_En_tryStep_141 : decode prog_4_method_3_code 141 = .ok (.ireturn, 1) := by decide +kernel
theorem d_En_tryStep_142 : decode prog_4_method_3_code 142 = .ok (.astore_n 2, 1) := by decide +kernel
theorem d_En_tryStep_143 : decode prog_4_method_3_code 143 = .ok (.iconst 4, 1) := by decide +kernel
theorem d_En_tryStep_144 : decode prog_4_method_3_code 144 = .ok (.ireturn, 1) := by decide +kernel
theorem d_En_tryStep_145 : decode prog_4_method_3_code 145 = .ok (.aload_n 0, 1) := by decide +kernel
theorem d_En_tryStep_146 : decode prog_4_method_3_code 146 = .ok (.aload_n 0, 1) := by decide +kernel
theorem d_En_tryStep_147 : decode prog_4_method_3_code 147 = .ok (.getfield 113, 3) := by decide +kernel
theorem d_En_tryStep_150 : decode prog_4_method_3_code 150 = .ok (.putfield 22, 3) := by decide +kernel
theorem d_En_tryStep_153 : decode prog_4_method_3_code 153 = .ok (.aload_n 0, 1) := by decide +kernel
theorem d_En_tryStep_154 : decode prog_4_method_3_code 154 = .ok (.dup, 1) := by decide +kernel
theorem d_En_tryStep_155 : decode prog_4_method_3_code 155 = .ok (.getfield 80, 3) := by decide +kernel
theorem d_En_tryStep_158 : decode prog_4_method_3_code 158 = .ok (.iconst 1, 1) := by decide +kernel
theorem d_En_tryStep_159 : decode prog_4_method_3_code 159 = .ok (.iadd, 1) := by decide +kernel
theorem d_En_tryStep_160 : decode prog_4_method_3_code 160 = .ok (.putfield 80, 3) := by decide +kernel
theorem d_En_tryStep_163 : decode prog_4_method_3_code 163 = .ok (.aload_n 0, 1) := by decide +kernel
theorem d_En_tryStep_164 : decode prog_4_method_3_code 164 = .ok (.getfield 76, 3) := by decide +kernel
theorem d_En_tryStep_167 : decode prog_4_method_3_code 167 = .ok (.ifCond .eq 7, 3) := by decide +kernel
theorem d_En_tryStep_170 : decode prog_4_method_3_code 170 = .ok (.iconst 0, 1) := by decide +kernel
theorem d_En_tryStep_171 : decode prog_4_method_3_code 171 = .ok (.goto 4, 3) := by decide +kernel
theorem d_En_tryStep_174 : decode prog_4_method_3_code 174 = .ok (.iconst 5, 1) := by decide +kernel
theorem d_En_tryStep_175 : decode prog_4_method_3_code 175 = .ok (.ireturn, 1) := by decide +kernel
theorem d_En_doMany_0 : decode prog_4_method_13_code 0 = .ok (.aload_n 0, 1) := by decide +kernel
theorem d_En_doMany_1 : decode prog_4_method_13_code 1 = .ok (.getfield 72, 3) := by decide +kernel
theorem d_En_doMany_4 : decode prog_4_method_13_code 4 = .ok (.getfield 142, 3) := by decide +kernel
theorem d_En_doMany_7 : decode prog_4_method_13_code 7 = .ok (.tableswitch 201 0 9 #[53, 61, 77, 91, 111, 120, 135, 147, 171, 182], 53) := by decide +kernel
theorem d_En_doMany_60 : decode prog_4_method_13_code 60 = .ok (.aload_n 0, 1) := by decide +kernel
theorem d_En_doMany_61 : decode prog_4_method_13_code 61 = .ok (.iload_n 1, 1) := by decide +kernel
theorem d_En_doMany_62 : decode prog_4_method_13_code 62 = .ok (.invokevirtual 259, 3) := by decide +kernel
theorem d_En_doMany_65 : decode prog_4_method_13_code 65 = .ok (.goto 143, 3) := by decide +kernel
theorem d_En_doMany_68 : decode prog_4_method_13_code 68 = .ok (.aload_n 0, 1) := by decide +kernel
theorem d_En_doMany_69 : decode prog_4_method_13_code 69 = .ok (.getfield 31, 3) := by decide +kernel
theorem d_En_doMany_72 : decode prog_4_method_13_code 72 = .ok (.iload_n 1, 1) := by decide +kernel
theorem d_En_doMany_73 : decode prog_4_method_13_code 73 = .ok (.iconst 2, 1) := by decide +kernel
theorem d_En_doMany_74 : decode prog_4_method_13_code 74 = .ok (.iload_n 2, 1) := by decide +kernel
theorem d_En_doMany_75 : decode prog_4_method_13_code 75 = .ok (.imul, 1) := by decide +kernel
theorem d_En_doMany_76 : decode prog_4_method_13_code 76 = .ok (.iadd, 1) := by decide +kernel
theorem d_En_doMany_77 : decode prog_4_method_13_code 77 = .ok (.iload_n 3, 1) := by decide +kernel
theorem d_En_doMany_78 : decode prog_4_method_13_code 78 = .ok (.invokevirtual 262, 3) := by decide +kernel
theorem d_En_doMany_81 : decode prog_4_method_13_code 81 = .ok (.goto 127, 3) := by decide +kernel
theorem d_En_doMany_84 : decode prog_4_method_13_code 84 = .ok (.aload_n 0, 1) := by decide +kernel
theorem d_En_doMany_85 : decode prog_4_method_13_code 85 = .ok (.getfield 31, 3) := by decide +kernel
theorem d_En_doMany_88 : decode prog_4_method_13_code 88 = .ok (.iload_n 1, 1) := by decide +kernel
theorem d_En_doMany_89 : decode prog_4_method_13_code 89 = .ok (.iload_n 2, 1) := by decide +kernel
theorem d_En_doMany_90 : decode prog_4_method_13_code 90 = .ok (.iadd, 1) := by decide +kernel
theorem d_En_doMany_91 : decode prog_4_method_13_code 91 = .ok (.iload_n 3, 1) := by decide +kernel
theorem d_En_doMany_92 : decode prog_4_method_13_code 92 = .ok (.invokevirtual 265, 3) := by decide +kernel
theorem d_En_doMany_95 : decode prog_4_method_13_code 95 = .ok (.goto 113, 3) := by decide +kernel
theorem d_En_doMany_98 : decode prog_4_method_13_code 98 = .ok (.aload_n 0, 1) := by decide +kernel
theorem d_En_doMany_99 : decode prog_4_method_13_code 99 = .ok (.getfield 56, 3) := by decide +kernel
theorem d_En_doMany_102 : decode prog_4_method_13_code 102 = .ok (.aload_n 0, 1) := by decide +kernel
theorem d_En_doMany_103 : decode prog_4_method_13_code 103 = .ok (.getfield 56, 3) := by decide +kernel
theorem d_En_doMany_106 : decode prog_4_method_13_code 106 = .ok (.iload_n 1, 1) := by decide +kernel
theorem d_En_doMany_107 : decode prog_4_method_13_code 107 = .ok (.invokevirtual 243, 3) := by decide +kernel
theorem d_En_doMany_110 : decode prog_4_method_13_code 110 = .ok (.iload_n 2, 1) := by decide +kernel
theorem d_En_doMany_111 : decode prog_4_method_13_code 111 = .ok (.iload_n 3, 1) := by decide +kernel
theorem d_En_doMany_112 : decode prog_4_method_13_code 112 = .ok (.invokevirtual 268, 3) := by decide +kernel
theorem d_En_doMany_115 : decode prog_4_method_13_code 115 = .ok (.goto 93, 3) := by decide +kernel
theorem d_En_doMany_118 : decode prog_4_method_13_code 118 = .ok (.aload_n 0, 1) := by decide +kernel
theorem d_En_doMany_119 : decode prog_4_method_13_code 119 = .ok (.iload_n 1, 1) := by decide +kernel
theorem d_En_doMany_120 : decode prog_4_method_13_code 120 = .ok (.iload_n 2, 1) := by decide +kernel
theorem d_En_doMany_121 : decode prog_4_method_13_code 121 = .ok (.invokevirtual 271, 3) := by decide +kernel
theorem d_En_doMany_124 : decode prog_4_method_13_code 124 = .ok (.goto 84, 3) := by decide +kernel
theorem d_En_doMany_127 : decode prog_4_method_13_code 127 = .ok (.aload_n 0, 1) := by decide +kernel
theorem d_En_doMany_128 : decode prog_4_method_13_code 128 = .ok (.getfield 43, 3) := by decide +kernel
theorem d_En_doMany_131 : decode prog_4_method_13_code 131 = .ok (.iload_n 1, 1) := by decide +kernel
theorem d_En_doMany_132 : decode prog_4_method_13_code 132 = .ok (.sipush 255, 3) := by decide +kernel
theorem d_En_doMany_135 : decode prog_4_method_13_code 135 = .ok (.iand, 1) := by decide +kernel
theorem d_En_doMany_136 : decode prog_4_method_13_code 136 = .ok (.invokevirtual 152, 3) := by decide +kernel
theorem d_En_doMany_139 : decode prog_4_method_13_code 139 = .ok (.goto 69, 3) := by decide +kernel
theorem d_En_doMany_142 : decode prog_4_method_13_code 142 = .ok (.aload_n 0, 1) := by decide +kernel
theorem d_En_doMany_143 : decode prog_4_method_13_code 143 = .ok (.getfield 43, 3) := by decide +kernel
theorem d_En_doMany_146 : decode prog_4_method_13_code 146 = .ok (.iload_n 1, 1) := by decide +kernel
theorem d_En_doMany_147 : decode prog_4_method_13_code 147 = .ok (.i2s, 1) := by decide +kernel
theorem d_En_doMany_148 : decode prog_4_method_13_code 148 = .ok (.invokevirtual 274, 3) := by decide +kernel
theorem d_En_doMany_151 : decode prog_4_method_13_code 151 = .ok (.goto 57, 3) := by decide +kernel
theorem d_En_doMany_154 : decode prog_4_method_13_code 154 = .ok (.aload_n 0, 1) := by decide +kernel
theorem d_En_doMany_155 : decode prog_4_method_13_code 155 = .ok (.getfield 47, 3) := by decide +kernel
theorem d_En_doMany_158 : decode prog_4_method_13_code 158 = .ok (.aload_n 0, 1) := by decide +kernel
theorem d_En_doMany_159 : decode prog_4_method_13_code 159 = .ok (.getfield 72, 3) := by decide +kernel
theorem d_En_doMany_162 : decode prog_4_method_13_code 162 = .ok (.getfield 178, 3) := by decide +kernel
theorem d_En_doMany_165 : decode prog_4_method_13_code 165 = .ok (.aload_n 0, 1) := by decide +kernel
theorem d_En_doMany_166 : decode prog_4_method_13_code 166 = .ok (.iload_n 1, 1) := by decide +kernel
theorem d_En_doMany_167 : decode prog_4_method_13_code 167 = .ok (.i2s, 1) := by decide +kernel
theorem d_En_doMany_168 : decode prog_4_method_13_code 168 = .ok (.invokevirtual 277, 3) := by decide +kernel
theorem d_En_doMany_171 : decode prog_4_method_13_code 171 = .ok (.iconst 0, 1) := by decide +kernel
theorem d_En_doMany_172 : decode prog_4_method_13_code 172 = .ok (.invokevirtual 181, 3) := by decide +kernel
theorem d_En_doMany_175 : decode prog_4_method_13_code 175 = .ok (.goto 33, 3) := by decide +kernel
theorem d_En_doMany_178 : decode prog_4_method_13_code 178 = .ok (.aload_n 0, 1) := by decide +kernel
theorem d_En_doMany_179 : decode prog_4_method_13_code 179 = .ok (.getfield 39, 3) := by decide +kernel
theorem d_En_doMany_182 : decode prog_4_method_13_code 182 = .ok (.iload_n 1, 1) := by decide +kernel
theorem d_En_doMany_183 : decode prog_4_method_13_code 183 = .ok (.invokevirtual 280, 3) := by decide +kernel
theorem d_En_doMany_186 : decode prog_4_method_13_code 186 = .ok (.goto 22, 3) := by decide +kernel
theorem d_En_doMany_189 : decode prog_4_method_13_code 189 = .ok (.aload_n 0, 1) := by decide +kernel
theorem d_En_doMany_190 : decode prog_4_method_13_code 190 = .ok (.getfield 47, 3) := by decide +kernel
theorem d_En_doMany_193 : decode prog_4_method_13_code 193 = .ok (.iload_n 1, 1) := by decide +kernel
theorem d_En_doMany_194 : decode prog_4_method_13_code 194 = .ok (.aload_n 0, 1) := by decide +kernel
theorem d_En_doMany_195 : decode prog_4_method_13_code 195 = .ok (.getfield 39, 3) := by decide +kernel
theorem d_En_doMany_198 : decode prog_4_method_13_code 198 = .ok (.invokevirtual 167, 3) := by decide +kernel
theorem d_En_doMany_201 : decode prog_4_method_13_code 201 = .ok (.iconst 1, 1) := by decide +kernel
theorem d_En_doMany_202 : decode prog_4_method_13_code 202 = .ok (.invokevirtual 181, 3) := by decide +kernel
theorem d_En_doMany_205 : decode prog_4_method_13_code 205 = .ok (.goto 3, 3) := by decide +kernel
theorem d_En_doMany_208 : decode prog_4_method_13_code 208 = .ok (.return_, 1) := by decide +kernel
theorem d_En_call_0 : decode prog_4_method_15_code 0 = .ok (.iload_n 1, 1) := by decide +kernel
theorem d_En_call_1 : decode prog_4_method_15_code 1 = .ok (.ifCond .ne 20, 3) := by decide +kernel
theorem d_En_call_4 : decode prog_4_method_15_code 4 = .ok (.aload_n 0, 1) := by decide +kernel
theorem d_En_call_5 : decode prog_4_method_15_code 5 = .ok (.getfield 47, 3) := by decide +kernel
theorem d_En_call_8 : decode prog_4_method_15_code 8 = .ok (.aload_n 0, 1) := by decide +kernel
theorem d_En_call_9 : decode prog_4_method_15_code 9 = .ok (.getfield 72, 3) := by decide +kernel
theorem d_En_call_12 : decode prog_4_method_15_code 12 = .ok (.getfield 178, 3) := by decide +kernel
theorem d_En_call_15 : decode prog_4_method_15_code 15 = .ok (.iconst 0, 1) := by decide +kernel
theorem d_En_call_16 : decode prog_4_method_15_code 16 = .ok (.iconst 0, 1) := by decide +kernel
theorem d_En_call_17 : decode prog_4_method_15_code 17 = .ok (.invokevirtual 181, 3) := by decide +kernel
theorem d_En_call_20 : decode prog_4_method_15_code 20 = .ok (.return_, 1) := by decide +kernel
theorem d_En_call_21 : decode prog_4_method_15_code 21 = .ok (.aload_n 0, 1) := by decide +kernel
theorem d_En_call_22 : decode prog_4_method_15_code 22 = .ok (.getfield 39, 3) := by decide +kernel
theorem d_En_call_25 : decode prog_4_method_15_code 25 = .ok (.invokevirtual 289, 3) := by decide +kernel
theorem d_En_call_28 : decode prog_4_method_15_code 28 = .ok (.iconst 2, 1) := by decide +kernel
theorem d_En_call_29 : decode prog_4_method_15_code 29 = .ok (.iload_n 1, 1) := by decide +kernel
theorem d_En_call_30 : decode prog_4_method_15_code 30 = .ok (.imul, 1) := by decide +kernel
theorem d_En_call_31 : decode prog_4_method_15_code 31 = .ok (.istore_n 2, 1) := by decide +kernel
theorem d_En_call_32 : decode prog_4_method_15_code 32 = .ok (.aload_n 0, 1) := by decide +kernel
theorem d_En_call_33 : decode prog_4_method_15_code 33 = .ok (.getfield 31, 3) := by decide +kernel
theorem d_En_call_36 : decode prog_4_method_15_code 36 = .ok (.iload_n 2, 1) := by decide +kernel
theorem d_En_call_37 : decode prog_4_method_15_code 37 = .ok (.invokevirtual 240, 3) := by decide +kernel
theorem d_En_call_40 : decode prog_4_method_15_code 40 = .ok (.istore_n 3, 1) := by decide +kernel
theorem d_En_call_41 : decode prog_4_method_15_code 41 = .ok (.iload_n 3, 1) := by decide +kernel
theorem d_En_call_42 : decode prog_4_method_15_code 42 = .ok (.bipush 15, 2) := by decide +kernel
theorem d_En_call_44 : decode prog_4_method_15_code 44 = .ok (.if_icmp .le 11, 3) := by decide +kernel
theorem d_En_call_47 : decode prog_4_method_15_code 47 = .ok (.new 134, 3) := by decide +kernel
theorem d_En_call_50 : decode prog_4_method_15_code 50 = .ok (.dup, 1) := by decide +kernel
theorem d_En_call_51 : decode prog_4_method_15_code 51 = .ok (.invokespecial 292, 3) := by decide +kernel
theorem d_En_call_54 : decode prog_4_method_15_code 54 = .ok (.athrow, 1) := by decide +kernel
theorem d_En_call_55 : decode prog_4_method_15_code 55 = .ok (.iinc 2 1, 3) := by decide +kernel
theorem d_En_call_58 : decode prog_4_method_15_code 58 = .ok (.iconst 0, 1) := by decide +kernel
theorem d_En_call_59 : decode prog_4_method_15_code 59 = .ok (.istore 4, 2) := by decide +kernel
theorem d_En_call_61 : decode prog_4_method_15_code 61 = .ok (.iload 4, 2) := by decide +kernel
theorem d_En_call_63 : decode prog_4_method_15_code 63 = .ok (.iload_n 3, 1) := by decide +kernel
theorem d_En_call_64 : decode prog_4_method_15_code 64 = .ok (.if_icmp .ge 60, 3) := by decide +kernel
theorem d_En_call_67 : decode prog_4_method_15_code 67 = .ok (.aload_n 0, 1) := by decide +kernel
theorem d_En_call_68 : decode prog_4_method_15_code 68 = .ok (.getfield 31, 3) := by decide +kernel
theorem d_En_call_71 : decode prog_4_method_15_code 71 = .ok (.iload_n 2, 1) := by decide +kernel
theorem d_En_call_72 : decode prog_4_method_15_code 72 = .ok (.invokevirtual 235, 3) := by decide +kernel
theorem d_En_call_75 : decode prog_4_method_15_code 75 = .ok (.istore 5, 2) := by decide +kernel
theorem d_En_call_77 : decode prog_4_method_15_code 77 = .ok (.aload_n 0, 1) := by decide +kernel
theorem d_En_call_78 : decode prog_4_method_15_code 78 = .ok (.getfield 18, 3) := by decide +kernel
theorem d_En_call_81 : decode prog_4_method_15_code 81 = .ok (.iload 4, 2) := by decide +kernel
theorem d_En_call_83 : decode prog_4_method_15_code 83 = .ok (.iload 4, 2) := by decide +kernel
theorem d_En_call_85 : decode prog_4_method_15_code 85 = .ok (.iconst 1, 1) := by decide +kernel
theorem d_En_call_86 : decode prog_4_method_15_code 86 = .ok (.iadd, 1) := by decide +kernel
theorem d_En_call_87 : decode prog_4_method_15_code 87 = .ok (.aload_n 0, 1) := by decide +kernel
theorem d_En_call_88 : decode prog_4_method_15_code 88 = .ok (.getfield 72, 3) := by decide +kernel
theorem d_En_call_91 : decode prog_4_method_15_code 91 = .ok (.getfield 234, 3) := by decide +kernel
theorem d_En_call_94 : decode prog_4_method_15_code 94 = .ok (.if_icmp .ge 18, 3) := by decide +kernel
theorem d_En_call_97 : decode prog_4_method_15_code 97 = .ok (.aload_n 0, 1) := by decide +kernel
theorem d_En_call_98 : decode prog_4_method_15_code 98 = .ok (.getfield 72, 3) := by decide +kernel
theorem d_En_call_101 : decode prog_4_method_15_code 101 = .ok (.getfield 100, 3) := by decide +kernel
theorem d_En_call_104 : decode prog_4_method_15_code 104 = .ok (.iload 4, 2) := by decide +kernel
theorem d_En_call_106 : decode prog_4_method_15_code 106 = .ok (.iconst 1, 1) := by decide +kernel
theorem d_En_call_107 : decode prog_4_method_15_code 107 = .ok (.iadd, 1) := by decide +kernel
theorem d_En_call_108 : decode prog_4_method_15_code 108 = .ok (.iaload, 1) := by decide +kernel
theorem d_En_call_109 : decode prog_4_method_15_code 109 = .ok (.goto 5, 3) := by decide +kernel
theorem d_En_call_112 : decode prog_4_method_15_code 112 = .ok (.iload 5, 2) := by decide +kernel
theorem d_En_call_114 : decode prog_4_method_15_code 114 = .ok (.iastore, 1) := by decide +kernel
theorem d_En_call_115 : decode prog_4_method_15_code 115 = .ok (.iinc 2 2, 3) := by decide +kernel
theorem d_En_call_118 : decode prog_4_method_15_code 118 = .ok (.iinc 4 1, 3) := by decide +kernel
theorem d_En_call_121 : decode prog_4_method_15_code 121 = .ok (.goto (-60), 3) := by decide +kernel
theorem d_En_call_124 : decode prog_4_method_15_code 124 = .ok (.aload_n 0, 1) := by decide +kernel
theorem d_En_call_125 : decode prog_4_method_15_code 125 = .ok (.getfield 39, 3) := by decide +kernel
theorem d_En_call_128 : decode prog_4_method_15_code 128 = .ok (.aload_n 0, 1) := by decide +kernel
theorem d_En_call_129 : decode prog_4_method_15_code 129 = .ok (.getfield 18, 3) := by decide +kernel
theorem d_En_call_132 : decode prog_4_method_15_code 132 = .ok (.iload_n 3, 1) := by decide +kernel
theorem d_En_call_133 : decode prog_4_method_15_code 133 = .ok (.aload_n 0, 1) := by decide +kernel
theorem d_En_call_134 : decode prog_4_method_15_code 134 = .ok (.getfield 113, 3) := by decide +kernel
theorem d_En_call_137 : decode prog_4_method_15_code 137 = .ok (.aload_n 0, 1) := by decide +kernel
theorem d_En_call_138 : decode prog_4_method_15_code 138 = .ok (.getfield 72, 3) := by decide +kernel
theorem d_En_call_141 : decode prog_4_method_15_code 141 = .ok (.getfield 178, 3) := by decide +kernel
theorem d_En_call_144 : decode prog_4_method_15_code 144 = .ok (.invokevirtual 293, 3) := by decide +kernel
theorem d_En_call_147 : decode prog_4_method_15_code 147 = .ok (.aload_n 0, 1) := by decide +kernel
theorem d_En_call_148 : decode prog_4_method_15_code 148 = .ok (.iload_n 2, 1) := by decide +kernel
theorem d_En_call_149 : decode prog_4_method_15_code 149 = .ok (.putfield 113, 3) := by decide +kernel
theorem d_En_call_152 : decode prog_4_method_15_code 152 = .ok (.return_, 1) := by decide +kernel
theorem d_En_readLine_0 : decode prog_4_method_19_code 0 = .ok (.aload_n 0, 1) := by decide +kernel
theorem d_En_readLine_1 : decode prog_4_method_19_code 1 = .ok (.getfield 31, 3) := by decide +kernel
theorem d_En_readLine_4 : decode prog_4_method_19_code 4 = .ok (.iload_n 1, 1) := by decide +kernel
theorem d_En_readLine_5 : decode prog_4_method_19_code 5 = .ok (.invokevirtual 240, 3) := by decide +kernel
theorem d_En_readLine_8 : decode prog_4_method_19_code 8 = .ok (.aload_n 0, 1) := by decide +kernel
theorem d_En_readLine_9 : decode prog_4_method_19_code 9 = .ok (.getfield 35, 3) := by decide +kernel
theorem d_En_readLine_12 : decode prog_4_method_19_code 12 = .ok (.getfield 307, 3) := by decide +kernel
theorem d_En_readLine_15 : decode prog_4_method_19_code 15 = .ok (.invokestatic 310, 3) := by decide +kernel
theorem d_En_readLine_18 : decode prog_4_method_19_code 18 = .ok (.istore_n 3, 1) := by decide +kernel
theorem d_En_readLine_19 : decode prog_4_method_19_code 19 = .ok (.iconst 0, 1) := by decide +kernel
theorem d_En_readLine_20 : decode prog_4_method_19_code 20 = .ok (.istore 4, 2) := by decide +kernel
theorem d_En_readLine_22 : decode prog_4_method_19_code 22 = .ok (.iload 4, 2) := by decide +kernel
theorem d_En_readLine_24 : decode prog_4_method_19_code 24 = .ok (.iload_n 3, 1) := by decide +kernel
theorem d_En_readLine_25 : decode prog_4_method_19_code 25 = .ok (.if_icmp .ge 32, 3) := by decide +kernel
theorem d_En_readLine_28 : decode prog_4_method_19_code 28 = .ok (.aload_n 0, 1) := by decide +kernel
theorem d_En_readLine_29 : decode prog_4_method_19_code 29 = .ok (.getfield 31, 3) := by decide +kernel
theorem d_En_readLine_32 : decode prog_4_method_19_code 32 = .ok (.iload_n 1, 1) := by decide +kernel
theorem d_En_readLine_33 : decode prog_4_method_19_code 33 = .ok (.iconst 1, 1) := by decide +kernel
theorem d_En_readLine_34 : decode prog_4_method_19_code 34 = .ok (.iadd, 1) := by decide +kernel
theorem d_En_readLine_35 : decode prog_4_method_19_code 35 = .ok (.iload 4, 2) := by decide +kernel
theorem d_En_readLine_37 : decode prog_4_method_19_code 37 = .ok (.iadd, 1) := by decide +kernel
theorem d_En_readLine_38 : decode prog_4_method_19_code 38 = .ok (.aload_n 0, 1) := by decide +kernel
theorem d_En_readLine_39 : decode prog_4_method_19_code 39 = .ok (.getfield 35, 3) := by decide +kernel
theorem d_En_readLine_42 : decode prog_4_method_19_code 42 = .ok (.getfield 315, 3) := by decide +kernel
theorem d_En_readLine_45 : decode prog_4_method_19_code 45 = .ok (.iload 4, 2) := by decide +kernel
theorem d_En_readLine_47 : decode prog_4_method_19_code 47 = .ok (.iaload, 1) := by decide +kernel
theorem d_En_readLine_48 : decode prog_4_method_19_code 48 = .ok (.invokevirtual 265, 3) := by decide +kernel
theorem d_En_readLine_51 : decode prog_4_method_19_code 51 = .ok (.iinc 4 1, 3) := by decide +kernel
theorem d_En_readLine_54 : decode prog_4_method_19_code 54 = .ok (.goto (-32), 3) := by decide +kernel
theorem d_En_readLine_57 : decode prog_4_method_19_code 57 = .ok (.aload_n 0, 1) := by decide +kernel
theorem d_En_readLine_58 : decode prog_4_method_19_code 58 = .ok (.getfield 31, 3) := by decide +kernel
theorem d_En_readLine_61 : decode prog_4_method_19_code 61 = .ok (.iload_n 1, 1) := by decide +kernel
theorem d_En_readLine_62 : decode prog_4_method_19_code 62 = .ok (.iconst 1, 1) := by decide +kernel
theorem d_En_readLine_63 : decode prog_4_method_19_code 63 = .ok (.iadd, 1) := by decide +kernel
theorem d_En_readLine_64 : decode prog_4_method_19_code 64 = .ok (.iload_n 3, 1) := by decide +kernel
theorem d_En_readLine_65 : decode prog_4_method_19_code 65 = .ok (.iadd, 1) := by decide +kernel
theorem d_En_readLine_66 : decode prog_4_method_19_code 66 = .ok (.iconst 0, 1) := by decide +kernel
theorem d_En_readLine_67 : decode prog_4_method_19_code 67 = .ok (.invokevirtual 265, 3) := by decide +kernel
theorem d_En_readLine_70 : decode prog_4_method_19_code 70 = .ok (.aload_n 0, 1) := by decide +kernel
theorem d_En_readLine_71 : decode prog_4_method_19_code 71 = .ok (.getfield 35, 3) := by decide +kernel
theorem d_En_readLine_74 : decode prog_4_method_19_code 74 = .ok (.iconst 0, 1) := by decide +kernel
theorem d_En_readLine_75 : decode prog_4_method_19_code 75 = .ok (.putfield 103, 3) := by decide +kernel
theorem d_En_readLine_78 : decode prog_4_method_19_code 78 = .ok (.aload_n 0, 1) := by decide +kernel
theorem d_En_readLine_79 : decode prog_4_method_19_code 79 = .ok (.getfield 31, 3) := by decide +kernel
theorem d_En_readLine_82 : decode prog_4_method_19_code 82 = .ok (.iload_n 2, 1) := by decide +kernel
theorem d_En_readLine_83 : decode prog_4_method_19_code 83 = .ok (.invokevirtual 240, 3) := by decide +kernel
theorem d_En_readLine_86 : decode prog_4_method_19_code 86 = .ok (.istore 4, 2) := by decide +kernel
theorem d_En_readLine_88 : decode prog_4_method_19_code 88 = .ok (.aload_n 0, 1) := by decide +kernel
theorem d_En_readLine_89 : decode prog_4_method_19_code 89 = .ok (.getfield 63, 3) := by decide +kernel
theorem d_En_readLine_92 : decode prog_4_method_19_code 92 = .ok (.aload_n 0, 1) := by decide +kernel
theorem d_En_readLine_93 : decode prog_4_method_19_code 93 = .ok (.getfield 35, 3) := by decide +kernel
theorem d_En_readLine_96 : decode prog_4_method_19_code 96 = .ok (.getfield 315, 3) := by decide +kernel
theorem d_En_readLine_99 : decode prog_4_method_19_code 99 = .ok (.iload_n 3, 1) := by decide +kernel
theorem d_En_readLine_100 : decode prog_4_method_19_code 100 = .ok (.invokevirtual 318, 3) := by decide +kernel
theorem d_En_readLine_103 : decode prog_4_method_19_code 103 = .ok (.iload 4, 2) := by decide +kernel
theorem d_En_readLine_105 : decode prog_4_method_19_code 105 = .ok (.aload_n 0, 1) := by decide +kernel
theorem d_En_readLine_106 : decode prog_4_method_19_code 106 = .ok (.getfield 63, 3) := by decide +kernel
theorem d_En_readLine_109 : decode prog_4_method_19_code 109 = .ok (.getfield 322, 3) := by decide +kernel
theorem d_En_readLine_112 : decode prog_4_method_19_code 112 = .ok (.invokestatic 310, 3) := by decide +kernel
theorem d_En_readLine_115 : decode prog_4_method_19_code 115 = .ok (.istore 5, 2) := by decide +kernel
theorem d_En_readLine_117 : decode prog_4_method_19_code 117 = .ok (.aload_n 0, 1) := by decide +kernel
theorem d_En_readLine_118 : decode prog_4_method_19_code 118 = .ok (.getfield 31, 3) := by decide +kernel
theorem d_En_readLine_121 : decode prog_4_method_19_code 121 = .ok (.iload_n 2, 1) := by decide +kernel
theorem d_En_readLine_122 : decode prog_4_method_19_code 122 = .ok (.iconst 1, 1) := by decide +kernel
theorem d_En_readLine_123 : decode prog_4_method_19_code 123 = .ok (.iadd, 1) := by decide +kernel
theorem d_En_readLine_124 : decode prog_4_method_19_code 124 = .ok (.iload 5, 2) := by decide +kernel
theorem d_En_readLine_126 : decode prog_4_method_19_code 126 = .ok (.invokevirtual 265, 3) := by decide +kernel
theorem d_En_readLine_129 : decode prog_4_method_19_code 129 = .ok (.iconst 0, 1) := by decide +kernel
theorem d_En_readLine_130 : decode prog_4_method_19_code 130 = .ok (.istore 6, 2) := by decide +kernel
theorem d_En_readLine_132 : decode prog_4_method_19_code 132 = .ok (.iload 6, 2) := by decide +kernel
theorem d_En_readLine_134 : decode prog_4_method_19_code 134 = .ok (.iload 5, 2) := by decide +kernel
theorem d_En_readLine_136 : decode prog_4_method_19_code 136 = .ok (.if_icmp .ge 88, 3) := by decide +kernel
theorem d_En_readLine_139 : decode prog_4_method_19_code 139 = .ok (.iload_n 2, 1) := by decide +kernel
theorem d_En_readLine_140 : decode prog_4_method_19_code 140 = .ok (.iconst 2, 1) := by decide +kernel
theorem d_En_readLine_141 : decode prog_4_method_19_code 141 = .ok (.iadd, 1) := by decide +kernel
theorem d_En_readLine_142 : decode prog_4_method_19_code 142 = .ok (.iconst 4, 1) := by decide +kernel
theorem d_En_readLine_143 : decode prog_4_method_19_code 143 = .ok (.iload 6, 2) := by decide +kernel
theorem d_En_readLine_145 : decode prog_4_method_19_code 145 = .ok (.imul, 1) := by decide +kernel
theorem d_En_readLine_146 : decode prog_4_method_19_code 146 = .ok (.iadd, 1) := by decide +kernel
theorem d_En_readLine_147 : decode prog_4_method_19_code 147 = .ok (.istore 7, 2) := by decide +kernel
theorem d_En_readLine_149 : decode prog_4_method_19_code 149 = .ok (.aload_n 0, 1) := by decide +kernel
theorem d_En_readLine_150 : decode prog_4_method_19_code 150 = .ok (.getfield 31, 3) := by decide +kernel
theorem d_En_readLine_153 : decode prog_4_method_19_code 153 = .ok (.iload 7, 2) := by decide +kernel
theorem d_En_readLine_155 : decode prog_4_method_19_code 155 = .ok (.aload_n 0, 1) := by decide +kernel
theorem d_En_readLine_156 : decode prog_4_method_19_code 156 = .ok (.getfield 63, 3) := by decide +kernel
theorem d_En_readLine_159 : decode prog_4_method_19_code 159 = .ok (.aload_n 0, 1) := by decide +kernel
theorem d_En_readLine_160 : decode prog_4_method_19_code 160 = .ok (.getfield 35, 3) := by decide +kernel
theorem d_En_readLine_163 : decode prog_4_method_19_code 163 = .ok (.getfield 315, 3) := by decide +kernel
theorem d_En_readLine_166 : decode prog_4_method_19_code 166 = .ok (.iload 6, 2) := by decide +kernel
theorem d_En_readLine_168 : decode prog_4_method_19_code 168 = .ok (.invokevirtual 325, 3) := by decide +kernel
theorem d_En_readLine_171 : decode prog_4_method_19_code 171 = .ok (.invokevirtual 262, 3) := by decide +kernel
theorem d_En_readLine_174 : decode prog_4_method_19_code 174 = .ok (.aload_n 0, 1) := by decide +kernel
theorem d_En_readLine_175 : decode prog_4_method_19_code 175 = .ok (.getfield 31, 3) := by decide +kernel
theorem d_En_readLine_178 : decode prog_4_method_19_code 178 = .ok (.iload 7, 2) := by decide +kernel
theorem d_En_readLine_180 : decode prog_4_method_19_code 180 = .ok (.iconst 2, 1) := by decide +kernel
theorem d_En_readLine_181 : decode prog_4_method_19_code 181 = .ok (.iadd, 1) := by decide +kernel
theorem d_En_readLine_182 : decode prog_4_method_19_code 182 = .ok (.aload_n 0, 1) := by decide +kernel
theorem d_En_readLine_183 : decode prog_4_method_19_code 183 = .ok (.getfield 63, 3) := by decide +kernel
theorem d_En_readLine_186 : decode prog_4_method_19_code 186 = .ok (.getfield 329, 3) := by decide +kernel
theorem d_En_readLine_189 : decode prog_4_method_19_code 189 = .ok (.iload 6, 2) := by decide +kernel
theorem d_En_readLine_191 : decode prog_4_method_19_code 191 = .ok (.iaload, 1) := by decide +kernel
theorem d_En_readLine_192 : decode prog_4_method_19_code 192 = .ok (.invokevirtual 265, 3) := by decide +kernel
theorem d_En_readLine_195 : decode prog_4_method_19_code 195 = .ok (.aload_n 0, 1) := by decide +kernel
theorem d_En_readLine_196 : decode prog_4_method_19_code 196 = .ok (.getfield 31, 3) := by decide +kernel
theorem d_En_readLine_199 : decode prog_4_method_19_code 199 = .ok (.iload 7, 2) := by decide +kernel
theorem d_En_readLine_201 : decode prog_4_method_19_code 201 = .ok (.iconst 3, 1) := by decide +kernel
theorem d_En_readLine_202 : decode prog_4_method_19_code 202 = .ok (.iadd, 1) := by decide +kernel
theorem d_En_readLine_203 : decode prog_4_method_19_code 203 = .ok (.aload_n 0, 1) := by decide +kernel
theorem d_En_readLine_204 : decode prog_4_method_19_code 204 = .ok (.getfield 63, 3) := by decide +kernel
theorem d_En_readLine_207 : decode prog_4_method_19_code 207 = .ok (.getfield 332, 3) := by decide +kernel
theorem d_En_readLine_210 : decode prog_4_method_19_code 210 = .ok (.iload 6, 2) := by decide +kernel
theorem d_En_readLine_212 : decode prog_4_method_19_code 212 = .ok (.iaload, 1) := by decide +kernel
theorem d_En_readLine_213 : decode prog_4_method_19_code 213 = .ok (.iconst 1, 1) := by decide +kernel
theorem d_En_readLine_214 : decode prog_4_method_19_code 214 = .ok (.iadd, 1) := by decide +kernel
theorem d_En_readLine_215 : decode prog_4_method_19_code 215 = .ok (.invokevirtual 265, 3) := by decide +kernel
theorem d_En_readLine_218 : decode prog_4_method_19_code 218 = .ok (.iinc 6 1, 3) := by decide +kernel
theorem d_En_readLine_221 : decode prog_4_method_19_code 221 = .ok (.goto (-89), 3) := by decide +kernel
theorem d_En_readLine_224 : decode prog_4_method_19_code 224 = .ok (.return_, 1) := by decide +kernel
theorem d_En_randomNumber_0 : decode prog_4_method_18_code 0 = .ok (.iload_n 1, 1) := by decide +kernel
theorem d_En_randomNumber_1 : decode prog_4_method_18_code 1 = .ok (.ifCond .le 30, 3) := by decide +kernel
theorem d_En_randomNumber_4 : decode prog_4_method_18_code 4 = .ok (.aload_n 0, 1) := by decide +kernel
theorem d_En_randomNumber_5 : decode prog_4_method_18_code 5 = .ok (.bipush 13, 2) := by decide +kernel
theorem d_En_randomNumber_7 : decode prog_4_method_18_code 7 = .ok (.aload_n 0, 1) := by decide +kernel
theorem d_En_randomNumber_8 : decode prog_4_method_18_code 8 = .ok (.getfield 83, 3) := by decide +kernel
theorem d_En_randomNumber_11 : decode prog_4_method_18_code 11 = .ok (.imul, 1) := by decide +kernel
theorem d_En_randomNumber_12 : decode prog_4_method_18_code 12 = .ok (.bipush 7, 2) := by decide +kernel
theorem d_En_randomNumber_14 : decode prog_4_method_18_code 14 = .ok (.iadd, 1) := by decide +kernel
theorem d_En_randomNumber_15 : decode prog_4_method_18_code 15 = .ok (.sipush 1024, 3) := by decide +kernel
theorem d_En_randomNumber_18 : decode prog_4_method_18_code 18 = .ok (.irem, 1) := by decide +kernel
theorem d_En_randomNumber_19 : decode prog_4_method_18_code 19 = .ok (.putfield 83, 3) := by decide +kernel
theorem d_En_randomNumber_22 : decode prog_4_method_18_code 22 = .ok (.iconst 1, 1) := by decide +kernel
theorem d_En_randomNumber_23 : decode prog_4_method_18_code 23 = .ok (.aload_n 0, 1) := by decide +kernel
theorem d_En_randomNumber_24 : decode prog_4_method_18_code 24 = .ok (.getfield 83, 3) := by decide +kernel
theorem d_En_randomNumber_27 : decode prog_4_method_18_code 27 = .ok (.iload_n 1, 1) := by decide +kernel
theorem d_En_randomNumber_28 : decode prog_4_method_18_code 28 = .ok (.irem, 1) := by decide +kernel
theorem d_En_randomNumber_29 : decode prog_4_method_18_code 29 = .ok (.iadd, 1) := by decide +kernel
theorem d_En_randomNumber_30 : decode prog_4_method_18_code 30 = .ok (.ireturn, 1) := by decide +kernel
theorem d_En_randomNumber_31 : decode prog_4_method_18_code 31 = .ok (.aload_n 0, 1) := by decide +kernel
theorem d_En_randomNumber_32 : decode prog_4_method_18_code 32 = .ok (.iload_n 1, 1) := by decide +kernel
theorem d_En_randomNumber_33 : decode prog_4_method_18_code 33 = .ok (.ineg, 1) := by decide +kernel
theorem d_En_randomNumber_34 : decode prog_4_method_18_code 34 = .ok (.sipush 1024, 3) := by decide +kernel
theorem d_En_randomNumber_37 : decode prog_4_method_18_code 37 = .ok (.irem, 1) := by decide +kernel
theorem d_En_randomNumber_38 : decode prog_4_method_18_code 38 = .ok (.putfield 83, 3) := by decide +kernel
theorem d_En_randomNumber_41 : decode prog_4_method_18_code 41 = .ok (.iconst 0, 1) := by decide +kernel
theorem d_En_randomNumber_42 : decode prog_4_method_18_code 42 = .ok (.ireturn, 1) := by decide +kernel
theorem d_En_doNone_0 : decode prog_4_method_4_code 0 = .ok (.aload_n 0, 1) := by decide +kernel
theorem d_En_doNone_1 : decode prog_4_method_4_code 1 = .ok (.getfield 72, 3) := by decide +kernel
theorem d_En_doNone_4 : decode prog_4_method_4_code 4 = .ok (.getfield 142, 3) := by decide +kernel
theorem d_En_doNone_7 : decode prog_4_method_4_code 7 = .ok (.tableswitch 236 0 11 #[61, 69, 77, 95, 236, 124, 151, 236, 191, 205, 216, 224], 61) := by decide +kernel
theorem d_En_doNone_68 : decode prog_4_method_4_code 68 = .ok (.aload_n 0, 1) := by decide +kernel
theorem d_En_doNone_69 : decode prog_4_method_4_code 69 = .ok (.iconst 1, 1) := by decide +kernel
theorem d_En_doNone_70 : decode prog_4_method_4_code 70 = .ok (.invokevirtual 145, 3) := by decide +kernel
theorem d_En_doNone_73 : decode prog_4_method_4_code 73 = .ok (.goto 170, 3) := by decide +kernel
theorem d_En_doNone_76 : decode prog_4_method_4_code 76 = .ok (.aload_n 0, 1) := by decide +kernel
theorem d_En_doNone_77 : decode prog_4_method_4_code 77 = .ok (.iconst 0, 1) := by decide +kernel
theorem d_En_doNone_78 : decode prog_4_method_4_code 78 = .ok (.invokevirtual 145, 3) := by decide +kernel
theorem d_En_doNone_81 : decode prog_4_method_4_code 81 = .ok (.goto 162, 3) := by decide +kernel
theorem d_En_doNone_84 : decode prog_4_method_4_code 84 = .ok (.aload_n 0, 1) := by decide +kernel
theorem d_En_doNone_85 : decode prog_4_method_4_code 85 = .ok (.aload_n 0, 1) := by decide +kernel
theorem d_En_doNone_86 : decode prog_4_method_4_code 86 = .ok (.getfield 43, 3) := by decide +kernel
theorem d_En_doNone_89 : decode prog_4_method_4_code 89 = .ok (.aload_n 0, 1) := by decide +kernel
theorem d_En_doNone_90 : decode prog_4_method_4_code 90 = .ok (.getfield 113, 3) := by decide +kernel
theorem d_En_doNone_93 : decode prog_4_method_4_code 93 = .ok (.invokevirtual 148, 3) := by decide +kernel
theorem d_En_doNone_96 : decode prog_4_method_4_code 96 = .ok (.putfield 113, 3) := by decide +kernel
theorem d_En_doNone_99 : decode prog_4_method_4_code 99 = .ok (.goto 144, 3) := by decide +kernel
theorem d_En_doNone_102 : decode prog_4_method_4_code 102 = .ok (.aload_n 0, 1) := by decide +kernel
theorem d_En_doNone_103 : decode prog_4_method_4_code 103 = .ok (.getfield 43, 3) := by decide +kernel
theorem d_En_doNone_106 : decode prog_4_method_4_code 106 = .ok (.aload_n 0, 1) := by decide +kernel
theorem d_En_doNone_107 : decode prog_4_method_4_code 107 = .ok (.getfield 113, 3) := by decide +kernel
theorem d_En_doNone_110 : decode prog_4_method_4_code 110 = .ok (.invokevirtual 148, 3) := by decide +kernel
theorem d_En_doNone_113 : decode prog_4_method_4_code 113 = .ok (.pop, 1) := by decide +kernel
theorem d_En_doNone_114 : decode prog_4_method_4_code 114 = .ok (.aload_n 0, 1) := by decide +kernel
theorem d_En_doNone_115 : decode prog_4_method_4_code 115 = .ok (.getfield 43, 3) := by decide +kernel
theorem d_En_doNone_118 : decode prog_4_method_4_code 118 = .ok (.bipush 13, 2) := by decide +kernel
theorem d_En_doNone_120 : decode prog_4_method_4_code 120 = .ok (.invokevirtual 152, 3) := by decide +kernel
theorem d_En_doNone_123 : decode prog_4_method_4_code 123 = .ok (.aload_n 0, 1) := by decide +kernel
theorem d_En_doNone_124 : decode prog_4_method_4_code 124 = .ok (.iconst 1, 1) := by decide +kernel
theorem d_En_doNone_125 : decode prog_4_method_4_code 125 = .ok (.invokevirtual 145, 3) := by decide +kernel
theorem d_En_doNone_128 : decode prog_4_method_4_code 128 = .ok (.goto 115, 3) := by decide +kernel
theorem d_En_doNone_131 : decode prog_4_method_4_code 131 = .ok (.aload_n 0, 1) := by decide +kernel
theorem d_En_doNone_132 : decode prog_4_method_4_code 132 = .ok (.iconst 1, 1) := by decide +kernel
theorem d_En_doNone_133 : decode prog_4_method_4_code 133 = .ok (.invokevirtual 155, 3) := by decide +kernel
theorem d_En_doNone_136 : decode prog_4_method_4_code 136 = .ok (.aload_n 0, 1) := by decide +kernel
theorem d_En_doNone_137 : decode prog_4_method_4_code 137 = .ok (.getfield 10, 3) := by decide +kernel
theorem d_En_doNone_140 : decode prog_4_method_4_code 140 = .ok (.aload_n 0, 1) := by decide +kernel
theorem d_En_doNone_141 : decode prog_4_method_4_code 141 = .ok (.getfield 31, 3) := by decide +kernel
theorem d_En_doNone_144 : decode prog_4_method_4_code 144 = .ok (.aload_n 0, 1) := by decide +kernel
theorem d_En_doNone_145 : decode prog_4_method_4_code 145 = .ok (.getfield 39, 3) := by decide +kernel
theorem d_En_doNone_148 : decode prog_4_method_4_code 148 = .ok (.aload_n 0, 1) := by decide +kernel
theorem d_En_doNone_149 : decode prog_4_method_4_code 149 = .ok (.getfield 113, 3) := by decide +kernel
theorem d_En_doNone_152 : decode prog_4_method_4_code 152 = .ok (.invokevirtual 159, 3) := by decide +kernel
theorem d_En_doNone_155 : decode prog_4_method_4_code 155 = .ok (.goto 88, 3) := by decide +kernel
theorem d_En_doNone_158 : decode prog_4_method_4_code 158 = .ok (.aload_n 0, 1) := by decide +kernel
theorem d_En_doNone_159 : decode prog_4_method_4_code 159 = .ok (.getfield 10, 3) := by decide +kernel
theorem d_En_doNone_162 : decode prog_4_method_4_code 162 = .ok (.getfield 91, 3) := by decide +kernel
theorem d_En_doNone_165 : decode prog_4_method_4_code 165 = .ok (.ifCond .eq 25, 3) := by decide +kernel
theorem d_En_doNone_168 : decode prog_4_method_4_code 168 = .ok (.aload_n 0, 1) := by decide +kernel
theorem d_En_doNone_169 : decode prog_4_method_4_code 169 = .ok (.aload_n 0, 1) := by decide +kernel
theorem d_En_doNone_170 : decode prog_4_method_4_code 170 = .ok (.getfield 10, 3) := by decide +kernel
theorem d_En_doNone_173 : decode prog_4_method_4_code 173 = .ok (.aload_n 0, 1) := by decide +kernel
theorem d_En_doNone_174 : decode prog_4_method_4_code 174 = .ok (.getfield 31, 3) := by decide +kernel
theorem d_En_doNone_177 : decode prog_4_method_4_code 177 = .ok (.aload_n 0, 1) := by decide +kernel
theorem d_En_doNone_178 : decode prog_4_method_4_code 178 = .ok (.getfield 39, 3) := by decide +kernel
theorem d_En_doNone_181 : decode prog_4_method_4_code 181 = .ok (.invokevirtual 163, 3) := by decide +kernel
theorem d_En_doNone_184 : decode prog_4_method_4_code 184 = .ok (.putfield 113, 3) := by decide +kernel
theorem d_En_doNone_187 : decode prog_4_method_4_code 187 = .ok (.goto 56, 3) := by decide +kernel
theorem d_En_doNone_190 : decode prog_4_method_4_code 190 = .ok (.aload_n 0, 1) := by decide +kernel
theorem d_En_doNone_191 : decode prog_4_method_4_code 191 = .ok (.iconst 0, 1) := by decide +kernel
theorem d_En_doNone_192 : decode prog_4_method_4_code 192 = .ok (.invokevirtual 155, 3) := by decide +kernel
theorem d_En_doNone_195 : decode prog_4_method_4_code 195 = .ok (.goto 48, 3) := by decide +kernel
theorem d_En_doNone_198 : decode prog_4_method_4_code 198 = .ok (.aload_n 0, 1) := by decide +kernel
theorem d_En_doNone_199 : decode prog_4_method_4_code 199 = .ok (.aload_n 0, 1) := by decide +kernel
theorem d_En_doNone_200 : decode prog_4_method_4_code 200 = .ok (.getfield 39, 3) := by decide +kernel
theorem d_En_doNone_203 : decode prog_4_method_4_code 203 = .ok (.invokevirtual 167, 3) := by decide +kernel
theorem d_En_doNone_206 : decode prog_4_method_4_code 206 = .ok (.invokevirtual 145, 3) := by decide +kernel
theorem d_En_doNone_209 : decode prog_4_method_4_code 209 = .ok (.goto 34, 3) := by decide +kernel
theorem d_En_doNone_212 : decode prog_4_method_4_code 212 = .ok (.aload_n 0, 1) := by decide +kernel
theorem d_En_doNone_213 : decode prog_4_method_4_code 213 = .ok (.getfield 39, 3) := by decide +kernel
theorem d_En_doNone_216 : decode prog_4_method_4_code 216 = .ok (.invokevirtual 167, 3) := by decide +kernel
theorem d_En_doNone_219 : decode prog_4_method_4_code 219 = .ok (.pop, 1) := by decide +kernel
theorem d_En_doNone_220 : decode prog_4_method_4_code 220 = .ok (.goto 23, 3) := by decide +kernel
theorem d_En_doNone_223 : decode prog_4_method_4_code 223 = .ok (.aload_n 0, 1) := by decide +kernel
theorem d_En_doNone_224 : decode prog_4_method_4_code 224 = .ok (.iconst 0, 1) := by decide +kernel
theorem d_En_doNone_225 : decode prog_4_method_4_code 225 = .ok (.putfield 76, 3) := by decide +kernel
theorem d_En_doNone_228 : decode prog_4_method_4_code 228 = .ok (.goto 15, 3) := by decide +kernel
theorem d_En_doNone_231 : decode prog_4_method_4_code 231 = .ok (.aload_n 0, 1) := by decide +kernel
theorem d_En_doNone_232 : decode prog_4_method_4_code 232 = .ok (.getfield 43, 3) := by decide +kernel
theorem d_En_doNone_235 : decode prog_4_method_4_code 235 = .ok (.bipush 13, 2) := by decide +kernel
theorem d_En_doNone_237 : decode prog_4_method_4_code 237 = .ok (.invokevirtual 152, 3) := by decide +kernel
theorem d_En_doNone_240 : decode prog_4_method_4_code 240 = .ok (.goto 3, 3) := by decide +kernel
theorem d_En_doNone_243 : decode prog_4_method_4_code 243 = .ok (.return_, 1) := by decide +kernel
theorem d_En_returnWith_0 : decode prog_4_method_16_code 0 = .ok (.aload_n 0, 1) := by decide +kernel
theorem d_En_returnWith_1 : decode prog_4_method_16_code 1 = .ok (.getfield 39, 3) := by decide +kernel
theorem d_En_returnWith_4 : decode prog_4_method_16_code 4 = .ok (.invokevirtual 297, 3) := by decide +kernel
theorem d_En_returnWith_7 : decode prog_4_method_16_code 7 = .ok (.istore_n 2, 1) := by decide +kernel
theorem d_En_returnWith_8 : decode prog_4_method_16_code 8 = .ok (.aload_n 0, 1) := by decide +kernel
theorem d_En_returnWith_9 : decode prog_4_method_16_code 9 = .ok (.aload_n 0, 1) := by decide +kernel
theorem d_En_returnWith_10 : decode prog_4_method_16_code 10 = .ok (.getfield 39, 3) := by decide +kernel
theorem d_En_returnWith_13 : decode prog_4_method_16_code 13 = .ok (.invokevirtual 299, 3) := by decide +kernel
theorem d_En_returnWith_16 : decode prog_4_method_16_code 16 = .ok (.putfield 113, 3) := by decide +kernel
theorem d_En_returnWith_19 : decode prog_4_method_16_code 19 = .ok (.aload_n 0, 1) := by decide +kernel
theorem d_En_returnWith_20 : decode prog_4_method_16_code 20 = .ok (.getfield 39, 3) := by decide +kernel
theorem d_En_returnWith_23 : decode prog_4_method_16_code 23 = .ok (.invokevirtual 301, 3) := by decide +kernel
theorem d_En_returnWith_26 : decode prog_4_method_16_code 26 = .ok (.aload_n 0, 1) := by decide +kernel
theorem d_En_returnWith_27 : decode prog_4_method_16_code 27 = .ok (.getfield 47, 3) := by decide +kernel
theorem d_En_returnWith_30 : decode prog_4_method_16_code 30 = .ok (.iload_n 2, 1) := by decide +kernel
theorem d_En_returnWith_31 : decode prog_4_method_16_code 31 = .ok (.iload_n 1, 1) := by decide +kernel
theorem d_En_returnWith_32 : decode prog_4_method_16_code 32 = .ok (.iconst 0, 1) := by decide +kernel
theorem d_En_returnWith_33 : decode prog_4_method_16_code 33 = .ok (.invokevirtual 181, 3) := by decide +kernel
theorem d_En_returnWith_36 : decode prog_4_method_16_code 36 = .ok (.return_, 1) := by decide +kernel
theorem d_En_branch_0 : decode prog_4_method_14_code 0 = .ok (.iload_n 1, 1) := by decide +kernel
theorem d_En_branch_1 : decode prog_4_method_14_code 1 = .ok (.aload_n 0, 1) := by decide +kernel
theorem d_En_branch_2 : decode prog_4_method_14_code 2 = .ok (.getfield 72, 3) := by decide +kernel
theorem d_En_branch_5 : decode prog_4_method_14_code 5 = .ok (.getfield 283, 3) := by decide +kernel
theorem d_En_branch_8 : decode prog_4_method_14_code 8 = .ok (.if_icmp .eq 4, 3) := by decide +kernel
theorem d_En_branch_11 : decode prog_4_method_14_code 11 = .ok (.return_, 1) := by decide +kernel
theorem d_En_branch_12 : decode prog_4_method_14_code 12 = .ok (.aload_n 0, 1) := by decide +kernel
theorem d_En_branch_13 : decode prog_4_method_14_code 13 = .ok (.getfield 72, 3) := by decide +kernel
theorem d_En_branch_16 : decode prog_4_method_14_code 16 = .ok (.getfield 286, 3) := by decide +kernel
theorem d_En_branch_19 : decode prog_4_method_14_code 19 = .ok (.istore_n 2, 1) := by decide +kernel
theorem d_En_branch_20 : decode prog_4_method_14_code 20 = .ok (.iload_n 2, 1) := by decide +kernel
theorem d_En_branch_21 : decode prog_4_method_14_code 21 = .ok (.ifCond .eq 8, 3) := by decide +kernel
theorem d_En_branch_24 : decode prog_4_method_14_code 24 = .ok (.iload_n 2, 1) := by decide +kernel
theorem d_En_branch_25 : decode prog_4_method_14_code 25 = .ok (.iconst 1, 1) := by decide +kernel
theorem d_En_branch_26 : decode prog_4_method_14_code 26 = .ok (.if_icmp .ne 11, 3) := by decide +kernel
theorem d_En_branch_29 : decode prog_4_method_14_code 29 = .ok (.aload_n 0, 1) := by decide +kernel
theorem d_En_branch_30 : decode prog_4_method_14_code 30 = .ok (.iload_n 2, 1) := by decide +kernel
theorem d_En_branch_31 : decode prog_4_method_14_code 31 = .ok (.invokevirtual 145, 3) := by decide +kernel
theorem d_En_branch_34 : decode prog_4_method_14_code 34 = .ok (.goto 15, 3) := by decide +kernel
theorem d_En_branch_37 : decode prog_4_method_14_code 37 = .ok (.aload_n 0, 1) := by decide +kernel
theorem d_En_branch_38 : decode prog_4_method_14_code 38 = .ok (.dup, 1) := by decide +kernel
theorem d_En_branch_39 : decode prog_4_method_14_code 39 = .ok (.getfield 113, 3) := by decide +kernel
theorem d_En_branch_42 : decode prog_4_method_14_code 42 = .ok (.iload_n 2, 1) := by decide +kernel
theorem d_En_branch_43 : decode prog_4_method_14_code 43 = .ok (.iconst 2, 1) := by decide +kernel
theorem d_En_branch_44 : decode prog_4_method_14_code 44 = .ok (.isub, 1) := by decide +kernel
theorem d_En_branch_45 : decode prog_4_method_14_code 45 = .ok (.iadd, 1) := by decide +kernel
theorem d_En_branch_46 : decode prog_4_method_14_code 46 = .ok (.putfield 113, 3) := by decide +kernel
theorem d_En_branch_49 : decode prog_4_method_14_code 49 = .ok (.return_, 1) := by decide +kernel
theorem d_En_doFirst_0 : decode prog_4_method_5_code 0 = .ok (.aload_n 0, 1) := by decide +kernel
theorem d_En_doFirst_1 : decode prog_4_method_5_code 1 = .ok (.getfield 72, 3) := by decide +kernel
theorem d_En_doFirst_4 : decode prog_4_method_5_code 4 = .ok (.invokevirtual 171, 3) := by decide +kernel
theorem d_En_doFirst_7 : decode prog_4_method_5_code 7 = .ok (.ifCond .eq 49, 3) := by decide +kernel
theorem d_En_doFirst_10 : decode prog_4_method_5_code 10 = .ok (.aload_n 0, 1) := by decide +kernel
theorem d_En_doFirst_11 : decode prog_4_method_5_code 11 = .ok (.iload_n 1, 1) := by decide +kernel
theorem d_En_doFirst_12 : decode prog_4_method_5_code 12 = .ok (.invokevirtual 175, 3) := by decide +kernel
theorem d_En_doFirst_15 : decode prog_4_method_5_code 15 = .ok (.istore_n 2, 1) := by decide +kernel
theorem d_En_doFirst_16 : decode prog_4_method_5_code 16 = .ok (.aload_n 0, 1) := by decide +kernel
theorem d_En_doFirst_17 : decode prog_4_method_5_code 17 = .ok (.getfield 47, 3) := by decide +kernel
theorem d_En_doFirst_20 : decode prog_4_method_5_code 20 = .ok (.aload_n 0, 1) := by decide +kernel
theorem d_En_doFirst_21 : decode prog_4_method_5_code 21 = .ok (.getfield 72, 3) := by decide +kernel
theorem d_En_doFirst_24 : decode prog_4_method_5_code 24 = .ok (.getfield 178, 3) := by decide +kernel
theorem d_En_doFirst_27 : decode prog_4_method_5_code 27 = .ok (.iload_n 2, 1) := by decide +kernel
theorem d_En_doFirst_28 : decode prog_4_method_5_code 28 = .ok (.iconst 0, 1) := by decide +kernel
theorem d_En_doFirst_29 : decode prog_4_method_5_code 29 = .ok (.invokevirtual 181, 3) := by decide +kernel
theorem d_En_doFirst_32 : decode prog_4_method_5_code 32 = .ok (.aload_n 0, 1) := by decide +kernel
theorem d_En_doFirst_33 : decode prog_4_method_5_code 33 = .ok (.getfield 72, 3) := by decide +kernel
theorem d_En_doFirst_36 : decode prog_4_method_5_code 36 = .ok (.invokevirtual 185, 3) := by decide +kernel
theorem d_En_doFirst_39 : decode prog_4_method_5_code 39 = .ok (.ifCond .eq 16, 3) := by decide +kernel
theorem d_En_doFirst_42 : decode prog_4_method_5_code 42 = .ok (.aload_n 0, 1) := by decide +kernel
theorem d_En_doFirst_43 : decode prog_4_method_5_code 43 = .ok (.iload_n 2, 1) := by decide +kernel
theorem d_En_doFirst_44 : decode prog_4_method_5_code 44 = .ok (.ifCond .eq 7, 3) := by decide +kernel
theorem d_En_doFirst_47 : decode prog_4_method_5_code 47 = .ok (.iconst 1, 1) := by decide +kernel
theorem d_En_doFirst_48 : decode prog_4_method_5_code 48 = .ok (.goto 4, 3) := by decide +kernel
theorem d_En_doFirst_51 : decode prog_4_method_5_code 51 = .ok (.iconst 0, 1) := by decide +kernel
theorem d_En_doFirst_52 : decode prog_4_method_5_code 52 = .ok (.invokevirtual 155, 3) := by decide +kernel
theorem d_En_doFirst_55 : decode prog_4_method_5_code 55 = .ok (.return_, 1) := by decide +kernel
theorem d_En_doFirst_56 : decode prog_4_method_5_code 56 = .ok (.aload_n 0, 1) := by decide +kernel
theorem d_En_doFirst_57 : decode prog_4_method_5_code 57 = .ok (.getfield 72, 3) := by decide +kernel
theorem d_En_doFirst_60 : decode prog_4_method_5_code 60 = .ok (.getfield 142, 3) := by decide +kernel
theorem d_En_doFirst_63 : decode prog_4_method_5_code 63 = .ok (.tableswitch 174 0 13 #[69, 174, 174, 174, 174, 85, 95, 105, 174, 117, 128, 136, 144, 160], 69) := by decide +kernel
theorem d_En_doFirst_132 : decode prog_4_method_5_code 132 = .ok (.aload_n 0, 1) := by decide +kernel
theorem d_En_doFirst_133 : decode prog_4_method_5_code 133 = .ok (.iload_n 1, 1) := by decide +kernel
theorem d_En_doFirst_134 : decode prog_4_method_5_code 134 = .ok (.ifCond .ne 7, 3) := by decide +kernel
theorem d_En_doFirst_137 : decode prog_4_method_5_code 137 = .ok (.iconst 1, 1) := by decide +kernel
theorem d_En_doFirst_138 : decode prog_4_method_5_code 138 = .ok (.goto 4, 3) := by decide +kernel
theorem d_En_doFirst_141 : decode prog_4_method_5_code 141 = .ok (.iconst 0, 1) := by decide +kernel
theorem d_En_doFirst_142 : decode prog_4_method_5_code 142 = .ok (.invokevirtual 155, 3) := by decide +kernel
theorem d_En_doFirst_145 : decode prog_4_method_5_code 145 = .ok (.goto 92, 3) := by decide +kernel
theorem d_En_doFirst_148 : decode prog_4_method_5_code 148 = .ok (.aload_n 0, 1) := by decide +kernel
theorem d_En_doFirst_149 : decode prog_4_method_5_code 149 = .ok (.iload_n 1, 1) := by decide +kernel
theorem d_En_doFirst_150 : decode prog_4_method_5_code 150 = .ok (.iconst 1, 1) := by decide +kernel
theorem d_En_doFirst_151 : decode prog_4_method_5_code 151 = .ok (.invokevirtual 188, 3) := by decide +kernel
theorem d_En_doFirst_154 : decode prog_4_method_5_code 154 = .ok (.pop, 1) := by decide +kernel
theorem d_En_doFirst_155 : decode prog_4_method_5_code 155 = .ok (.goto 82, 3) := by decide +kernel
theorem d_En_doFirst_158 : decode prog_4_method_5_code 158 = .ok (.aload_n 0, 1) := by decide +kernel
theorem d_En_doFirst_159 : decode prog_4_method_5_code 159 = .ok (.iload_n 1, 1) := by decide +kernel
theorem d_En_doFirst_160 : decode prog_4_method_5_code 160 = .ok (.iconst (-1), 1) := by decide +kernel
theorem d_En_doFirst_161 : decode prog_4_method_5_code 161 = .ok (.invokevirtual 188, 3) := by decide +kernel
theorem d_En_doFirst_164 : decode prog_4_method_5_code 164 = .ok (.pop, 1) := by decide +kernel
theorem d_En_doFirst_165 : decode prog_4_method_5_code 165 = .ok (.goto 72, 3) := by decide +kernel
theorem d_En_doFirst_168 : decode prog_4_method_5_code 168 = .ok (.aload_n 0, 1) := by decide +kernel
theorem d_En_doFirst_169 : decode prog_4_method_5_code 169 = .ok (.getfield 43, 3) := by decide +kernel
theorem d_En_doFirst_172 : decode prog_4_method_5_code 172 = .ok (.iload_n 1, 1) := by decide +kernel
theorem d_En_doFirst_173 : decode prog_4_method_5_code 173 = .ok (.invokevirtual 148, 3) := by decide +kernel
theorem d_En_doFirst_176 : decode prog_4_method_5_code 176 = .ok (.pop, 1) := by decide +kernel
theorem d_En_doFirst_177 : decode prog_4_method_5_code 177 = .ok (.goto 60, 3) := by decide +kernel
theorem d_En_doFirst_180 : decode prog_4_method_5_code 180 = .ok (.aload_n 0, 1) := by decide +kernel
theorem d_En_doFirst_181 : decode prog_4_method_5_code 181 = .ok (.getfield 56, 3) := by decide +kernel
theorem d_En_doFirst_184 : decode prog_4_method_5_code 184 = .ok (.iload_n 1, 1) := by decide +kernel
theorem d_En_doFirst_185 : decode prog_4_method_5_code 185 = .ok (.invokevirtual 192, 3) := by decide +kernel
theorem d_En_doFirst_188 : decode prog_4_method_5_code 188 = .ok (.goto 49, 3) := by decide +kernel
theorem d_En_doFirst_191 : decode prog_4_method_5_code 191 = .ok (.aload_n 0, 1) := by decide +kernel
theorem d_En_doFirst_192 : decode prog_4_method_5_code 192 = .ok (.iload_n 1, 1) := by decide +kernel
theorem d_En_doFirst_193 : decode prog_4_method_5_code 193 = .ok (.invokevirtual 195, 3) := by decide +kernel
theorem d_En_doFirst_196 : decode prog_4_method_5_code 196 = .ok (.goto 41, 3) := by decide +kernel
theorem d_En_doFirst_199 : decode prog_4_method_5_code 199 = .ok (.aload_n 0, 1) := by decide +kernel
theorem d_En_doFirst_200 : decode prog_4_method_5_code 200 = .ok (.iload_n 1, 1) := by decide +kernel
theorem d_En_doFirst_201 : decode prog_4_method_5_code 201 = .ok (.invokevirtual 145, 3) := by decide +kernel
theorem d_En_doFirst_204 : decode prog_4_method_5_code 204 = .ok (.goto 33, 3) := by decide +kernel
theorem d_En_doFirst_207 : decode prog_4_method_5_code 207 = .ok (.aload_n 0, 1) := by decide +kernel
theorem d_En_doFirst_208 : decode prog_4_method_5_code 208 = .ok (.dup, 1) := by decide +kernel
theorem d_En_doFirst_209 : decode prog_4_method_5_code 209 = .ok (.getfield 113, 3) := by decide +kernel
theorem d_En_doFirst_212 : decode prog_4_method_5_code 212 = .ok (.iload_n 1, 1) := by decide +kernel
theorem d_En_doFirst_213 : decode prog_4_method_5_code 213 = .ok (.i2s, 1) := by decide +kernel
theorem d_En_doFirst_214 : decode prog_4_method_5_code 214 = .ok (.iconst 2, 1) := by decide +kernel
theorem d_En_doFirst_215 : decode prog_4_method_5_code 215 = .ok (.isub, 1) := by decide +kernel
theorem d_En_doFirst_216 : decode prog_4_method_5_code 216 = .ok (.iadd, 1) := by decide +kernel
theorem d_En_doFirst_217 : decode prog_4_method_5_code 217 = .ok (.putfield 113, 3) := by decide +kernel
theorem d_En_doFirst_220 : decode prog_4_method_5_code 220 = .ok (.goto 17, 3) := by decide +kernel
theorem d_En_doFirst_223 : decode prog_4_method_5_code 223 = .ok (.aload_n 0, 1) := by decide +kernel
theorem d_En_doFirst_224 : decode prog_4_method_5_code 224 = .ok (.getfield 43, 3) := by decide +kernel
theorem d_En_doFirst_227 : decode prog_4_method_5_code 227 = .ok (.iconst 2, 1) := by decide +kernel
theorem d_En_doFirst_228 : decode prog_4_method_5_code 228 = .ok (.iload_n 1, 1) := by decide +kernel
theorem d_En_doFirst_229 : decode prog_4_method_5_code 229 = .ok (.imul, 1) := by decide +kernel
theorem d_En_doFirst_230 : decode prog_4_method_5_code 230 = .ok (.invokevirtual 148, 3) := by decide +kernel
theorem d_En_doFirst_233 : decode prog_4_method_5_code 233 = .ok (.pop, 1) := by decide +kernel
theorem d_En_doFirst_234 : decode prog_4_method_5_code 234 = .ok (.goto 3, 3) := by decide +kernel
theorem d_En_doFirst_237 : decode prog_4_method_5_code 237 = .ok (.return_, 1) := by decide +kernel
theorem d_En_changedBy_0 : decode prog_4_method_10_code 0 = .ok (.aload_n 0, 1) := by decide +kernel
theorem d_En_changedBy_1 : decode prog_4_method_10_code 1 = .ok (.getfield 47, 3) := by decide +kernel
theorem d_En_changedBy_4 : decode prog_4_method_10_code 4 = .ok (.iload_n 1, 1) := by decide +kernel
theorem d_En_changedBy_5 : decode prog_4_method_10_code 5 = .ok (.iconst 1, 1) := by decide +kernel
theorem d_En_changedBy_6 : decode prog_4_method_10_code 6 = .ok (.invokevirtual 210, 3) := by decide +kernel
theorem d_En_changedBy_9 : decode prog_4_method_10_code 9 = .ok (.iload_n 2, 1) := by decide +kernel
theorem d_En_changedBy_10 : decode prog_4_method_10_code 10 = .ok (.iadd, 1) := by decide +kernel
theorem d_En_changedBy_11 : decode prog_4_method_10_code 11 = .ok (.i2s, 1) := by decide +kernel
theorem d_En_changedBy_12 : decode prog_4_method_10_code 12 = .ok (.istore_n 3, 1) := by decide +kernel
theorem d_En_changedBy_13 : decode prog_4_method_10_code 13 = .ok (.aload_n 0, 1) := by decide +kernel
theorem d_En_changedBy_14 : decode prog_4_method_10_code 14 = .ok (.getfield 47, 3) := by decide +kernel
theorem d_En_changedBy_17 : decode prog_4_method_10_code 17 = .ok (.iload_n 1, 1) := by decide +kernel
theorem d_En_changedBy_18 : decode prog_4_method_10_code 18 = .ok (.iload_n 3, 1) := by decide +kernel
theorem d_En_changedBy_19 : decode prog_4_method_10_code 19 = .ok (.iconst 1, 1) := by decide +kernel
theorem d_En_changedBy_20 : decode prog_4_method_10_code 20 = .ok (.invokevirtual 181, 3) := by decide +kernel
theorem d_En_changedBy_23 : decode prog_4_method_10_code 23 = .ok (.iload_n 3, 1) := by decide +kernel
theorem d_En_changedBy_24 : decode prog_4_method_10_code 24 = .ok (.ireturn, 1) := by decide +kernel
theorem d_En_putName_0 : decode prog_4_method_17_code 0 = .ok (.aload_n 0, 1) := by decide +kernel
theorem d_En_putName_1 : decode prog_4_method_17_code 1 = .ok (.getfield 56, 3) := by decide +kernel
theorem d_En_putName_4 : decode prog_4_method_17_code 4 = .ok (.iload_n 1, 1) := by decide +kernel
theorem d_En_putName_5 : decode prog_4_method_17_code 5 = .ok (.invokevirtual 304, 3) := by decide +kernel
theorem d_En_putName_8 : decode prog_4_method_17_code 8 = .ok (.istore_n 2, 1) := by decide +kernel
theorem d_En_putName_9 : decode prog_4_method_17_code 9 = .ok (.aload_n 0, 1) := by decide +kernel
theorem d_En_putName_10 : decode prog_4_method_17_code 10 = .ok (.getfield 31, 3) := by decide +kernel
theorem d_En_putName_13 : decode prog_4_method_17_code 13 = .ok (.iload_n 2, 1) := by decide +kernel
theorem d_En_putName_14 : decode prog_4_method_17_code 14 = .ok (.invokevirtual 240, 3) := by decide +kernel
theorem d_En_putName_17 : decode prog_4_method_17_code 17 = .ok (.ifCond .le 14, 3) := by decide +kernel
theorem d_En_putName_20 : decode prog_4_method_17_code 20 = .ok (.aload_n 0, 1) := by decide +kernel
theorem d_En_putName_21 : decode prog_4_method_17_code 21 = .ok (.getfield 43, 3) := by decide +kernel
theorem d_En_putName_24 : decode prog_4_method_17_code 24 = .ok (.iload_n 2, 1) := by decide +kernel
theorem d_En_putName_25 : decode prog_4_method_17_code 25 = .ok (.iconst 1, 1) := by decide +kernel
theorem d_En_putName_26 : decode prog_4_method_17_code 26 = .ok (.iadd, 1) := by decide +kernel
theorem d_En_putName_27 : decode prog_4_method_17_code 27 = .ok (.invokevirtual 148, 3) := by decide +kernel
theorem d_En_putName_30 : decode prog_4_method_17_code 30 = .ok (.pop, 1) := by decide +kernel
theorem d_En_putName_31 : decode prog_4_method_17_code 31 = .ok (.return_, 1) := by decide +kernel
theorem d_En_firstValue_0 : decode prog_4_method_6_code 0 = .ok (.aload_n 0, 1) := by decide +kernel
theorem d_En_firstValue_1 : decode prog_4_method_6_code 1 = .ok (.getfield 72, 3) := by decide +kernel
theorem d_En_firstValue_4 : decode prog_4_method_6_code 4 = .ok (.getfield 142, 3) := by decide +kernel
theorem d_En_firstValue_7 : decode prog_4_method_6_code 7 = .ok (.tableswitch 115 1 14 #[69, 78, 87, 96, 115, 115, 115, 115, 115, 115, 115, 115, 115, 105], 69) := by decide +kernel
theorem d_En_firstValue_76 : decode prog_4_method_6_code 76 = .ok (.aload_n 0, 1) := by decide +kernel
theorem d_En_firstValue_77 : decode prog_4_method_6_code 77 = .ok (.getfield 56, 3) := by decide +kernel
theorem d_En_firstValue_80 : decode prog_4_method_6_code 80 = .ok (.iload_n 1, 1) := by decide +kernel
theorem d_En_firstValue_81 : decode prog_4_method_6_code 81 = .ok (.invokevirtual 198, 3) := by decide +kernel
theorem d_En_firstValue_84 : decode prog_4_method_6_code 84 = .ok (.ireturn, 1) := by decide +kernel
theorem d_En_firstValue_85 : decode prog_4_method_6_code 85 = .ok (.aload_n 0, 1) := by decide +kernel
theorem d_En_firstValue_86 : decode prog_4_method_6_code 86 = .ok (.getfield 56, 3) := by decide +kernel
theorem d_En_firstValue_89 : decode prog_4_method_6_code 89 = .ok (.iload_n 1, 1) := by decide +kernel
theorem d_En_firstValue_90 : decode prog_4_method_6_code 90 = .ok (.invokevirtual 201, 3) := by decide +kernel
theorem d_En_firstValue_93 : decode prog_4_method_6_code 93 = .ok (.ireturn, 1) := by decide +kernel
theorem d_En_firstValue_94 : decode prog_4_method_6_code 94 = .ok (.aload_n 0, 1) := by decide +kernel
theorem d_En_firstValue_95 : decode prog_4_method_6_code 95 = .ok (.getfield 56, 3) := by decide +kernel
theorem d_En_firstValue_98 : decode prog_4_method_6_code 98 = .ok (.iload_n 1, 1) := by decide +kernel
theorem d_En_firstValue_99 : decode prog_4_method_6_code 99 = .ok (.invokevirtual 204, 3) := by decide +kernel
theorem d_En_firstValue_102 : decode prog_4_method_6_code 102 = .ok (.ireturn, 1) := by decide +kernel
theorem d_En_firstValue_103 : decode prog_4_method_6_code 103 = .ok (.aload_n 0, 1) := by decide +kernel
theorem d_En_firstValue_104 : decode prog_4_method_6_code 104 = .ok (.getfield 56, 3) := by decide +kernel
theorem d_En_firstValue_107 : decode prog_4_method_6_code 107 = .ok (.iload_n 1, 1) := by decide +kernel
theorem d_En_firstValue_108 : decode prog_4_method_6_code 108 = .ok (.invokevirtual 207, 3) := by decide +kernel
theorem d_En_firstValue_111 : decode prog_4_method_6_code 111 = .ok (.ireturn, 1) := by decide +kernel
theorem d_En_firstValue_112 : decode prog_4_method_6_code 112 = .ok (.aload_n 0, 1) := by decide +kernel
theorem d_En_firstValue_113 : decode prog_4_method_6_code 113 = .ok (.getfield 47, 3) := by decide +kernel
theorem d_En_firstValue_116 : decode prog_4_method_6_code 116 = .ok (.iload_n 1, 1) := by decide +kernel
theorem d_En_firstValue_117 : decode prog_4_method_6_code 117 = .ok (.iconst 1, 1) := by decide +kernel
theorem d_En_firstValue_118 : decode prog_4_method_6_code 118 = .ok (.invokevirtual 210, 3) := by decide +kernel
theorem d_En_firstValue_121 : decode prog_4_method_6_code 121 = .ok (.ireturn, 1) := by decide +kernel
theorem d_En_firstValue_122 : decode prog_4_method_6_code 122 = .ok (.iload_n 1, 1) := by decide +kernel
theorem d_En_firstValue_123 : decode prog_4_method_6_code 123 = .ok (.iconst (-1), 1) := by decide +kernel
theorem d_En_firstValue_124 : decode prog_4_method_6_code 124 = .ok (.ixor, 1) := by decide +kernel
theorem d_En_firstValue_125 : decode prog_4_method_6_code 125 = .ok (.ireturn, 1) := by decide +kernel
theorem d_En_doSecond_0 : decode prog_4_method_7_code 0 = .ok (.aload_n 0, 1) := by decide +kernel
theorem d_En_doSecond_1 : decode prog_4_method_7_code 1 = .ok (.getfield 72, 3) := by decide +kernel
theorem d_En_doSecond_4 : decode prog_4_method_7_code 4 = .ok (.invokevirtual 185, 3) := by decide +kernel
theorem d_En_doSecond_7 : decode prog_4_method_7_code 7 = .ok (.ifCond .eq 14, 3) := by decide +kernel
theorem d_En_doSecond_10 : decode prog_4_method_7_code 10 = .ok (.aload_n 0, 1) := by decide +kernel
theorem d_En_doSecond_11 : decode prog_4_method_7_code 11 = .ok (.aload_n 0, 1) := by decide +kernel
theorem d_En_doSecond_12 : decode prog_4_method_7_code 12 = .ok (.iload_n 1, 1) := by decide +kernel
theorem d_En_doSecond_13 : decode prog_4_method_7_code 13 = .ok (.iload_n 2, 1) := by decide +kernel
theorem d_En_doSecond_14 : decode prog_4_method_7_code 14 = .ok (.invokevirtual 214, 3) := by decide +kernel
theorem d_En_doSecond_17 : decode prog_4_method_7_code 17 = .ok (.invokevirtual 155, 3) := by decide +kernel
theorem d_En_doSecond_20 : decode prog_4_method_7_code 20 = .ok (.return_, 1) := by decide +kernel
theorem d_En_doSecond_21 : decode prog_4_method_7_code 21 = .ok (.aload_n 0, 1) := by decide +kernel
theorem d_En_doSecond_22 : decode prog_4_method_7_code 22 = .ok (.getfield 72, 3) := by decide +kernel
theorem d_En_doSecond_25 : decode prog_4_method_7_code 25 = .ok (.invokevirtual 171, 3) := by decide +kernel
theorem d_En_doSecond_28 : decode prog_4_method_7_code 28 = .ok (.ifCond .eq 25, 3) := by decide +kernel
theorem d_En_doSecond_31 : decode prog_4_method_7_code 31 = .ok (.aload_n 0, 1) := by decide +kernel
theorem d_En_doSecond_32 : decode prog_4_method_7_code 32 = .ok (.getfield 47, 3) := by decide +kernel
theorem d_En_doSecond_35 : decode prog_4_method_7_code 35 = .ok (.aload_n 0, 1) := by decide +kernel
theorem d_En_doSecond_36 : decode prog_4_method_7_code 36 = .ok (.getfield 72, 3) := by decide +kernel
theorem d_En_doSecond_39 : decode prog_4_method_7_code 39 = .ok (.getfield 178, 3) := by decide +kernel
theorem d_En_doSecond_42 : decode prog_4_method_7_code 42 = .ok (.aload_n 0, 1) := by decide +kernel
theorem d_En_doSecond_43 : decode prog_4_method_7_code 43 = .ok (.iload_n 1, 1) := by decide +kernel
theorem d_En_doSecond_44 : decode prog_4_method_7_code 44 = .ok (.iload_n 2, 1) := by decide +kernel
theorem d_En_doSecond_45 : decode prog_4_method_7_code 45 = .ok (.invokevirtual 218, 3) := by decide +kernel
theorem d_En_doSecond_48 : decode prog_4_method_7_code 48 = .ok (.iconst 0, 1) := by decide +kernel
theorem d_En_doSecond_49 : decode prog_4_method_7_code 49 = .ok (.invokevirtual 181, 3) := by decide +kernel
theorem d_En_doSecond_52 : decode prog_4_method_7_code 52 = .ok (.return_, 1) := by decide +kernel
theorem d_En_doSecond_53 : decode prog_4_method_7_code 53 = .ok (.aload_n 0, 1) := by decide +kernel
theorem d_En_doSecond_54 : decode prog_4_method_7_code 54 = .ok (.getfield 72, 3) := by decide +kernel
theorem d_En_doSecond_57 : decode prog_4_method_7_code 57 = .ok (.getfield 142, 3) := by decide +kernel
theorem d_En_doSecond_60 : decode prog_4_method_7_code 60 = .ok (.tableswitch 83 11 14 #[32, 45, 58, 71], 32) := by decide +kernel
theorem d_En_doSecond_92 : decode prog_4_method_7_code 92 = .ok (.aload_n 0, 1) := by decide +kernel
theorem d_En_doSecond_93 : decode prog_4_method_7_code 93 = .ok (.getfield 56, 3) := by decide +kernel
theorem d_En_doSecond_96 : decode prog_4_method_7_code 96 = .ok (.iload_n 1, 1) := by decide +kernel
theorem d_En_doSecond_97 : decode prog_4_method_7_code 97 = .ok (.iload_n 2, 1) := by decide +kernel
theorem d_En_doSecond_98 : decode prog_4_method_7_code 98 = .ok (.iconst 1, 1) := by decide +kernel
theorem d_En_doSecond_99 : decode prog_4_method_7_code 99 = .ok (.invokevirtual 221, 3) := by decide +kernel
theorem d_En_doSecond_102 : decode prog_4_method_7_code 102 = .ok (.goto 41, 3) := by decide +kernel
theorem d_En_doSecond_105 : decode prog_4_method_7_code 105 = .ok (.aload_n 0, 1) := by decide +kernel
theorem d_En_doSecond_106 : decode prog_4_method_7_code 106 = .ok (.getfield 56, 3) := by decide +kernel
theorem d_En_doSecond_109 : decode prog_4_method_7_code 109 = .ok (.iload_n 1, 1) := by decide +kernel
theorem d_En_doSecond_110 : decode prog_4_method_7_code 110 = .ok (.iload_n 2, 1) := by decide +kernel
theorem d_En_doSecond_111 : decode prog_4_method_7_code 111 = .ok (.iconst 0, 1) := by decide +kernel
theorem d_En_doSecond_112 : decode prog_4_method_7_code 112 = .ok (.invokevirtual 221, 3) := by decide +kernel
theorem d_En_doSecond_115 : decode prog_4_method_7_code 115 = .ok (.goto 28, 3) := by decide +kernel
theorem d_En_doSecond_118 : decode prog_4_method_7_code 118 = .ok (.aload_n 0, 1) := by decide +kernel
theorem d_En_doSecond_119 : decode prog_4_method_7_code 119 = .ok (.getfield 47, 3) := by decide +kernel
theorem d_En_doSecond_122 : decode prog_4_method_7_code 122 = .ok (.iload_n 1, 1) := by decide +kernel
theorem d_En_doSecond_123 : decode prog_4_method_7_code 123 = .ok (.iload_n 2, 1) := by decide +kernel
theorem d_En_doSecond_124 : decode prog_4_method_7_code 124 = .ok (.iconst 1, 1) := by decide +kernel
theorem d_En_doSecond_125 : decode prog_4_method_7_code 125 = .ok (.invokevirtual 181, 3) := by decide +kernel
theorem d_En_doSecond_128 : decode prog_4_method_7_code 128 = .ok (.goto 15, 3) := by decide +kernel
theorem d_En_doSecond_131 : decode prog_4_method_7_code 131 = .ok (.aload_n 0, 1) := by decide +kernel
theorem d_En_doSecond_132 : decode prog_4_method_7_code 132 = .ok (.getfield 56, 3) := by decide +kernel
theorem d_En_doSecond_135 : decode prog_4_method_7_code 135 = .ok (.iload_n 1, 1) := by decide +kernel
theorem d_En_doSecond_136 : decode prog_4_method_7_code 136 = .ok (.iload_n 2, 1) := by decide +kernel
theorem d_En_doSecond_137 : decode prog_4_method_7_code 137 = .ok (.invokevirtual 224, 3) := by decide +kernel
theorem d_En_doSecond_140 : decode prog_4_method_7_code 140 = .ok (.goto 3, 3) := by decide +kernel
theorem d_En_doSecond_143 : decode prog_4_method_7_code 143 = .ok (.return_, 1) := by decide +kernel
theorem d_En_secondValue_0 : decode prog_4_method_11_code 0 = .ok (.aload_n 0, 1) := by decide +kernel
theorem d_En_secondValue_1 : decode prog_4_method_11_code 1 = .ok (.getfield 72, 3) := by decide +kernel
theorem d_En_secondValue_4 : decode prog_4_method_11_code 4 = .ok (.getfield 142, 3) := by decide +kernel
theorem d_En_secondValue_7 : decode prog_4_method_11_code 7 = .ok (.tableswitch 182 8 23 #[77, 81, 182, 182, 182, 182, 182, 85, 98, 109, 126, 143, 160, 164, 168, 174], 77) := by decide +kernel
theorem d_En_secondValue_84 : decode prog_4_method_11_code 84 = .ok (.iload_n 1, 1) := by decide +kernel
theorem d_En_secondValue_85 : decode prog_4_method_11_code 85 = .ok (.iload_n 2, 1) := by decide +kernel
theorem d_En_secondValue_86 : decode prog_4_method_11_code 86 = .ok (.ior, 1) := by decide +kernel
theorem d_En_secondValue_87 : decode prog_4_method_11_code 87 = .ok (.ireturn, 1) := by decide +kernel
theorem d_En_secondValue_88 : decode prog_4_method_11_code 88 = .ok (.iload_n 1, 1) := by decide +kernel
theorem d_En_secondValue_89 : decode prog_4_method_11_code 89 = .ok (.iload_n 2, 1) := by decide +kernel
theorem d_En_secondValue_90 : decode prog_4_method_11_code 90 = .ok (.iand, 1) := by decide +kernel
theorem d_En_secondValue_91 : decode prog_4_method_11_code 91 = .ok (.ireturn, 1) := by decide +kernel
theorem d_En_secondValue_92 : decode prog_4_method_11_code 92 = .ok (.aload_n 0, 1) := by decide +kernel
theorem d_En_secondValue_93 : decode prog_4_method_11_code 93 = .ok (.getfield 31, 3) := by decide +kernel
theorem d_En_secondValue_96 : decode prog_4_method_11_code 96 = .ok (.iload_n 1, 1) := by decide +kernel
theorem d_En_secondValue_97 : decode prog_4_method_11_code 97 = .ok (.iconst 2, 1) := by decide +kernel
theorem d_En_secondValue_98 : decode prog_4_method_11_code 98 = .ok (.iload_n 2, 1) := by decide +kernel
theorem d_En_secondValue_99 : decode prog_4_method_11_code 99 = .ok (.imul, 1) := by decide +kernel
theorem d_En_secondValue_100 : decode prog_4_method_11_code 100 = .ok (.iadd, 1) := by decide +kernel
theorem d_En_secondValue_101 : decode prog_4_method_11_code 101 = .ok (.invokevirtual 235, 3) := by decide +kernel
theorem d_En_secondValue_104 : decode prog_4_method_11_code 104 = .ok (.ireturn, 1) := by decide +kernel
theorem d_En_secondValue_105 : decode prog_4_method_11_code 105 = .ok (.aload_n 0, 1) := by decide +kernel
theorem d_En_secondValue_106 : decode prog_4_method_11_code 106 = .ok (.getfield 31, 3) := by decide +kernel
theorem d_En_secondValue_109 : decode prog_4_method_11_code 109 = .ok (.iload_n 1, 1) := by decide +kernel
theorem d_En_secondValue_110 : decode prog_4_method_11_code 110 = .ok (.iload_n 2, 1) := by decide +kernel
theorem d_En_secondValue_111 : decode prog_4_method_11_code 111 = .ok (.iadd, 1) := by decide +kernel
theorem d_En_secondValue_112 : decode prog_4_method_11_code 112 = .ok (.invokevirtual 240, 3) := by decide +kernel
theorem d_En_secondValue_115 : decode prog_4_method_11_code 115 = .ok (.ireturn, 1) := by decide +kernel
theorem d_En_secondValue_116 : decode prog_4_method_11_code 116 = .ok (.aload_n 0, 1) := by decide +kernel
theorem d_En_secondValue_117 : decode prog_4_method_11_code 117 = .ok (.getfield 56, 3) := by decide +kernel
theorem d_En_secondValue_120 : decode prog_4_method_11_code 120 = .ok (.aload_n 0, 1) := by decide +kernel
theorem d_En_secondValue_121 : decode prog_4_method_11_code 121 = .ok (.getfield 56, 3) := by decide +kernel
theorem d_En_secondValue_124 : decode prog_4_method_11_code 124 = .ok (.iload_n 1, 1) := by decide +kernel
theorem d_En_secondValue_125 : decode prog_4_method_11_code 125 = .ok (.invokevirtual 243, 3) := by decide +kernel
theorem d_En_secondValue_128 : decode prog_4_method_11_code 128 = .ok (.iload_n 2, 1) := by decide +kernel
theorem d_En_secondValue_129 : decode prog_4_method_11_code 129 = .ok (.invokevirtual 246, 3) := by decide +kernel
theorem d_En_secondValue_132 : decode prog_4_method_11_code 132 = .ok (.ireturn, 1) := by decide +kernel
theorem d_En_secondValue_133 : decode prog_4_method_11_code 133 = .ok (.aload_n 0, 1) := by decide +kernel
theorem d_En_secondValue_134 : decode prog_4_method_11_code 134 = .ok (.getfield 56, 3) := by decide +kernel
theorem d_En_secondValue_137 : decode prog_4_method_11_code 137 = .ok (.aload_n 0, 1) := by decide +kernel
theorem d_En_secondValue_138 : decode prog_4_method_11_code 138 = .ok (.getfield 56, 3) := by decide +kernel
theorem d_En_secondValue_141 : decode prog_4_method_11_code 141 = .ok (.iload_n 1, 1) := by decide +kernel
theorem d_En_secondValue_142 : decode prog_4_method_11_code 142 = .ok (.invokevirtual 243, 3) := by decide +kernel
theorem d_En_secondValue_145 : decode prog_4_method_11_code 145 = .ok (.iload_n 2, 1) := by decide +kernel
theorem d_En_secondValue_146 : decode prog_4_method_11_code 146 = .ok (.invokevirtual 249, 3) := by decide +kernel
theorem d_En_secondValue_149 : decode prog_4_method_11_code 149 = .ok (.ireturn, 1) := by decide +kernel
theorem d_En_secondValue_150 : decode prog_4_method_11_code 150 = .ok (.aload_n 0, 1) := by decide +kernel
theorem d_En_secondValue_151 : decode prog_4_method_11_code 151 = .ok (.getfield 56, 3) := by decide +kernel
theorem d_En_secondValue_154 : decode prog_4_method_11_code 154 = .ok (.aload_n 0, 1) := by decide +kernel
theorem d_En_secondValue_155 : decode prog_4_method_11_code 155 = .ok (.getfield 56, 3) := by decide +kernel
theorem d_En_secondValue_158 : decode prog_4_method_11_code 158 = .ok (.iload_n 1, 1) := by decide +kernel
theorem d_En_secondValue_159 : decode prog_4_method_11_code 159 = .ok (.invokevirtual 243, 3) := by decide +kernel
theorem d_En_secondValue_162 : decode prog_4_method_11_code 162 = .ok (.iload_n 2, 1) := by decide +kernel
theorem d_En_secondValue_163 : decode prog_4_method_11_code 163 = .ok (.invokevirtual 252, 3) := by decide +kernel
theorem d_En_secondValue_166 : decode prog_4_method_11_code 166 = .ok (.ireturn, 1) := by decide +kernel
theorem d_En_secondValue_167 : decode prog_4_method_11_code 167 = .ok (.iload_n 1, 1) := by decide +kernel
theorem d_En_secondValue_168 : decode prog_4_method_11_code 168 = .ok (.iload_n 2, 1) := by decide +kernel
theorem d_En_secondValue_169 : decode prog_4_method_11_code 169 = .ok (.iadd, 1) := by decide +kernel
theorem d_En_secondValue_170 : decode prog_4_method_11_code 170 = .ok (.ireturn, 1) := by decide +kernel
theorem d_En_secondValue_171 : decode prog_4_method_11_code 171 = .ok (.iload_n 1, 1) := by decide +kernel
theorem d_En_secondValue_172 : decode prog_4_method_11_code 172 = .ok (.iload_n 2, 1) := by decide +kernel
theorem d_En_secondValue_173 : decode prog_4_method_11_code 173 = .ok (.isub, 1) := by decide +kernel
theorem d_En_secondValue_174 : decode prog_4_method_11_code 174 = .ok (.ireturn, 1) := by decide +kernel
theorem d_En_secondValue_175 : decode prog_4_method_11_code 175 = .ok (.iload_n 1, 1) := by decide +kernel
theorem d_En_secondValue_176 : decode prog_4_method_11_code 176 = .ok (.i2s, 1) := by decide +kernel
theorem d_En_secondValue_177 : decode prog_4_method_11_code 177 = .ok (.iload_n 2, 1) := by decide +kernel
theorem d_En_secondValue_178 : decode prog_4_method_11_code 178 = .ok (.i2s, 1) := by decide +kernel
theorem d_En_secondValue_179 : decode prog_4_method_11_code 179 = .ok (.imul, 1) := by decide +kernel
theorem d_En_secondValue_180 : decode prog_4_method_11_code 180 = .ok (.ireturn, 1) := by decide +kernel
theorem d_En_secondValue_181 : decode prog_4_method_11_code 181 = .ok (.iload_n 1, 1) := by decide +kernel
theorem d_En_secondValue_182 : decode prog_4_method_11_code 182 = .ok (.i2s, 1) := by decide +kernel
theorem d_En_secondValue_183 : decode prog_4_method_11_code 183 = .ok (.iload_n 2, 1) := by decide +kernel
theorem d_En_secondValue_184 : decode prog_4_method_11_code 184 = .ok (.invokestatic 255, 3) := by decide +kernel
theorem d_En_secondValue_187 : decode prog_4_method_11_code 187 = .ok (.idiv, 1) := by decide +kernel
theorem d_En_secondValue_188 : decode prog_4_method_11_code 188 = .ok (.ireturn, 1) := by decide +kernel
theorem d_En_secondValue_189 : decode prog_4_method_11_code 189 = .ok (.iload_n 1, 1) := by decide +kernel
theorem d_En_secondValue_190 : decode prog_4_method_11_code 190 = .ok (.i2s, 1) := by decide +kernel
theorem d_En_secondValue_191 : decode prog_4_method_11_code 191 = .ok (.iload_n 2, 1) := by decide +kernel
theorem d_En_secondValue_192 : decode prog_4_method_11_code 192 = .ok (.invokestatic 255, 3) := by decide +kernel
theorem d_En_secondValue_195 : decode prog_4_method_11_code 195 = .ok (.irem, 1) := by decide +kernel
theorem d_En_secondValue_196 : decode prog_4_method_11_code 196 = .ok (.ireturn, 1) := by decide +kernel
theorem d_En_divisor_0 : decode prog_4_method_12_code 0 = .ok (.iload_n 0, 1) := by decide +kernel
theorem d_En_divisor_1 : decode prog_4_method_12_code 1 = .ok (.ifCond .ne 11, 3) := by decide +kernel
theorem d_En_divisor_4 : decode prog_4_method_12_code 4 = .ok (.new 138, 3) := by decide +kernel
theorem d_En_divisor_7 : decode prog_4_method_12_code 7 = .ok (.dup, 1) := by decide +kernel
theorem d_En_divisor_8 : decode prog_4_method_12_code 8 = .ok (.invokespecial 258, 3) := by decide +kernel
theorem d_En_divisor_11 : decode prog_4_method_12_code 11 = .ok (.athrow, 1) := by decide +kernel
theorem d_En_divisor_12 : decode prog_4_method_12_code 12 = .ok (.iload_n 0, 1) := by decide +kernel
theorem d_En_divisor_13 : decode prog_4_method_12_code 13 = .ok (.i2s, 1) := by decide +kernel
theorem d_En_divisor_14 : decode prog_4_method_12_code 14 = .ok (.ireturn, 1) := by decide +kernel
theorem d_En_secondAsks_0 : decode prog_4_method_8_code 0 = .ok (.aload_n 0, 1) := by decide +kernel
theorem d_En_secondAsks_1 : decode prog_4_method_8_code 1 = .ok (.getfield 72, 3) := by decide +kernel
theorem d_En_secondAsks_4 : decode prog_4_method_8_code 4 = .ok (.getfield 142, 3) := by decide +kernel
theorem d_En_secondAsks_7 : decode prog_4_method_8_code 7 = .ok (.tableswitch 138 1 7 #[41, 47, 60, 73, 90, 107, 125], 41) := by decide +kernel
theorem d_En_secondAsks_48 : decode prog_4_method_8_code 48 = .ok (.aload_n 0, 1) := by decide +kernel
theorem d_En_secondAsks_49 : decode prog_4_method_8_code 49 = .ok (.iload_n 1, 1) := by decide +kernel
theorem d_En_secondAsks_50 : decode prog_4_method_8_code 50 = .ok (.invokevirtual 227, 3) := by decide +kernel
theorem d_En_secondAsks_53 : decode prog_4_method_8_code 53 = .ok (.ireturn, 1) := by decide +kernel
theorem d_En_secondAsks_54 : decode prog_4_method_8_code 54 = .ok (.iload_n 1, 1) := by decide +kernel
theorem d_En_secondAsks_55 : decode prog_4_method_8_code 55 = .ok (.i2s, 1) := by decide +kernel
theorem d_En_secondAsks_56 : decode prog_4_method_8_code 56 = .ok (.iload_n 2, 1) := by decide +kernel
theorem d_En_secondAsks_57 : decode prog_4_method_8_code 57 = .ok (.i2s, 1) := by decide +kernel
theorem d_En_secondAsks_58 : decode prog_4_method_8_code 58 = .ok (.if_icmp .ge 7, 3) := by decide +kernel
theorem d_En_secondAsks_61 : decode prog_4_method_8_code 61 = .ok (.iconst 1, 1) := by decide +kernel
theorem d_En_secondAsks_62 : decode prog_4_method_8_code 62 = .ok (.goto 4, 3) := by decide +kernel
theorem d_En_secondAsks_65 : decode prog_4_method_8_code 65 = .ok (.iconst 0, 1) := by decide +kernel
theorem d_En_secondAsks_66 : decode prog_4_method_8_code 66 = .ok (.ireturn, 1) := by decide +kernel
theorem d_En_secondAsks_67 : decode prog_4_method_8_code 67 = .ok (.iload_n 1, 1) := by decide +kernel
theorem d_En_secondAsks_68 : decode prog_4_method_8_code 68 = .ok (.i2s, 1) := by decide +kernel
theorem d_En_secondAsks_69 : decode prog_4_method_8_code 69 = .ok (.iload_n 2, 1) := by decide +kernel
theorem d_En_secondAsks_70 : decode prog_4_method_8_code 70 = .ok (.i2s, 1) := by decide +kernel
theorem d_En_secondAsks_71 : decode prog_4_method_8_code 71 = .ok (.if_icmp .le 7, 3) := by decide +kernel
theorem d_En_secondAsks_74 : decode prog_4_method_8_code 74 = .ok (.iconst 1, 1) := by decide +kernel
theorem d_En_secondAsks_75 : decode prog_4_method_8_code 75 = .ok (.goto 4, 3) := by decide +kernel
theorem d_En_secondAsks_78 : decode prog_4_method_8_code 78 = .ok (.iconst 0, 1) := by decide +kernel
theorem d_En_secondAsks_79 : decode prog_4_method_8_code 79 = .ok (.ireturn, 1) := by decide +kernel
theorem d_En_secondAsks_80 : decode prog_4_method_8_code 80 = .ok (.aload_n 0, 1) := by decide +kernel
theorem d_En_secondAsks_81 : decode prog_4_method_8_code 81 = .ok (.iload_n 1, 1) := by decide +kernel
theorem d_En_secondAsks_82 : decode prog_4_method_8_code 82 = .ok (.iconst (-1), 1) := by decide +kernel
theorem d_En_secondAsks_83 : decode prog_4_method_8_code 83 = .ok (.invokevirtual 188, 3) := by decide +kernel
theorem d_En_secondAsks_86 : decode prog_4_method_8_code 86 = .ok (.iload_n 2, 1) := by decide +kernel
theorem d_En_secondAsks_87 : decode prog_4_method_8_code 87 = .ok (.i2s, 1) := by decide +kernel
theorem d_En_secondAsks_88 : decode prog_4_method_8_code 88 = .ok (.if_icmp .ge 7, 3) := by decide +kernel
theorem d_En_secondAsks_91 : decode prog_4_method_8_code 91 = .ok (.iconst 1, 1) := by decide +kernel
theorem d_En_secondAsks_92 : decode prog_4_method_8_code 92 = .ok (.goto 4, 3) := by decide +kernel
theorem d_En_secondAsks_95 : decode prog_4_method_8_code 95 = .ok (.iconst 0, 1) := by decide +kernel
theorem d_En_secondAsks_96 : decode prog_4_method_8_code 96 = .ok (.ireturn, 1) := by decide +kernel
theorem d_En_secondAsks_97 : decode prog_4_method_8_code 97 = .ok (.aload_n 0, 1) := by decide +kernel
theorem d_En_secondAsks_98 : decode prog_4_method_8_code 98 = .ok (.iload_n 1, 1) := by decide +kernel
theorem d_En_secondAsks_99 : decode prog_4_method_8_code 99 = .ok (.iconst 1, 1) := by decide +kernel
theorem d_En_secondAsks_100 : decode prog_4_method_8_code 100 = .ok (.invokevirtual 188, 3) := by decide +kernel
theorem d_En_secondAsks_103 : decode prog_4_method_8_code 103 = .ok (.iload_n 2, 1) := by decide +kernel
theorem d_En_secondAsks_104 : decode prog_4_method_8_code 104 = .ok (.i2s, 1) := by decide +kernel
theorem d_En_secondAsks_105 : decode prog_4_method_8_code 105 = .ok (.if_icmp .le 7, 3) := by decide +kernel
theorem d_En_secondAsks_108 : decode prog_4_method_8_code 108 = .ok (.iconst 1, 1) := by decide +kernel
theorem d_En_secondAsks_109 : decode prog_4_method_8_code 109 = .ok (.goto 4, 3) := by decide +kernel
theorem d_En_secondAsks_112 : decode prog_4_method_8_code 112 = .ok (.iconst 0, 1) := by decide +kernel
theorem d_En_secondAsks_113 : decode prog_4_method_8_code 113 = .ok (.ireturn, 1) := by decide +kernel
theorem d_En_secondAsks_114 : decode prog_4_method_8_code 114 = .ok (.aload_n 0, 1) := by decide +kernel
theorem d_En_secondAsks_115 : decode prog_4_method_8_code 115 = .ok (.getfield 56, 3) := by decide +kernel
theorem d_En_secondAsks_118 : decode prog_4_method_8_code 118 = .ok (.iload_n 1, 1) := by decide +kernel
theorem d_En_secondAsks_119 : decode prog_4_method_8_code 119 = .ok (.invokevirtual 204, 3) := by decide +kernel
theorem d_En_secondAsks_122 : decode prog_4_method_8_code 122 = .ok (.iload_n 2, 1) := by decide +kernel
theorem d_En_secondAsks_123 : decode prog_4_method_8_code 123 = .ok (.if_icmp .ne 7, 3) := by decide +kernel
theorem d_En_secondAsks_126 : decode prog_4_method_8_code 126 = .ok (.iconst 1, 1) := by decide +kernel
theorem d_En_secondAsks_127 : decode prog_4_method_8_code 127 = .ok (.goto 4, 3) := by decide +kernel
theorem d_En_secondAsks_130 : decode prog_4_method_8_code 130 = .ok (.iconst 0, 1) := by decide +kernel
theorem d_En_secondAsks_131 : decode prog_4_method_8_code 131 = .ok (.ireturn, 1) := by decide +kernel
theorem d_En_secondAsks_132 : decode prog_4_method_8_code 132 = .ok (.iload_n 1, 1) := by decide +kernel
theorem d_En_secondAsks_133 : decode prog_4_method_8_code 133 = .ok (.iload_n 2, 1) := by decide +kernel
theorem d_En_secondAsks_134 : decode prog_4_method_8_code 134 = .ok (.iand, 1) := by decide +kernel
theorem d_En_secondAsks_135 : decode prog_4_method_8_code 135 = .ok (.iload_n 2, 1) := by decide +kernel
theorem d_En_secondAsks_136 : decode prog_4_method_8_code 136 = .ok (.if_icmp .ne 7, 3) := by decide +kernel
theorem d_En_secondAsks_139 : decode prog_4_method_8_code 139 = .ok (.iconst 1, 1) := by decide +kernel
theorem d_En_secondAsks_140 : decode prog_4_method_8_code 140 = .ok (.goto 4, 3) := by decide +kernel
theorem d_En_secondAsks_143 : decode prog_4_method_8_code 143 = .ok (.iconst 0, 1) := by decide +kernel
theorem d_En_secondAsks_144 : decode prog_4_method_8_code 144 = .ok (.ireturn, 1) := by decide +kernel
theorem d_En_secondAsks_145 : decode prog_4_method_8_code 145 = .ok (.aload_n 0, 1) := by decide +kernel
theorem d_En_secondAsks_146 : decode prog_4_method_8_code 146 = .ok (.getfield 56, 3) := by decide +kernel
theorem d_En_secondAsks_149 : decode prog_4_method_8_code 149 = .ok (.iload_n 1, 1) := by decide +kernel
theorem d_En_secondAsks_150 : decode prog_4_method_8_code 150 = .ok (.iload_n 2, 1) := by decide +kernel
theorem d_En_secondAsks_151 : decode prog_4_method_8_code 151 = .ok (.invokevirtual 231, 3) := by decide +kernel
theorem d_En_secondAsks_154 : decode prog_4_method_8_code 154 = .ok (.ireturn, 1) := by decide +kernel
theorem d_En_isAmongOthers_0 : decode prog_4_method_9_code 0 = .ok (.iconst 1, 1) := by decide +kernel
theorem d_En_isAmongOthers_1 : decode prog_4_method_9_code 1 = .ok (.istore_n 2, 1) := by decide +kernel
theorem d_En_isAmongOthers_2 : decode prog_4_method_9_code 2 = .ok (.iload_n 2, 1) := by decide +kernel
theorem d_En_isAmongOthers_3 : decode prog_4_method_9_code 3 = .ok (.aload_n 0, 1) := by decide +kernel
theorem d_En_isAmongOthers_4 : decode prog_4_method_9_code 4 = .ok (.getfield 72, 3) := by decide +kernel
theorem d_En_isAmongOthers_7 : decode prog_4_method_9_code 7 = .ok (.getfield 234, 3) := by decide +kernel
theorem d_En_isAmongOthers_10 : decode prog_4_method_9_code 10 = .ok (.if_icmp .ge 24, 3) := by decide +kernel
theorem d_En_isAmongOthers_13 : decode prog_4_method_9_code 13 = .ok (.aload_n 0, 1) := by decide +kernel
theorem d_En_isAmongOthers_14 : decode prog_4_method_9_code 14 = .ok (.getfield 72, 3) := by decide +kernel
theorem d_En_isAmongOthers_17 : decode prog_4_method_9_code 17 = .ok (.getfield 100, 3) := by decide +kernel
theorem d_En_isAmongOthers_20 : decode prog_4_method_9_code 20 = .ok (.iload_n 2, 1) := by decide +kernel
theorem d_En_isAmongOthers_21 : decode prog_4_method_9_code 21 = .ok (.iaload, 1) := by decide +kernel
theorem d_En_isAmongOthers_22 : decode prog_4_method_9_code 22 = .ok (.iload_n 1, 1) := by decide +kernel
theorem d_En_isAmongOthers_23 : decode prog_4_method_9_code 23 = .ok (.if_icmp .ne 5, 3) := by decide +kernel
theorem d_En_isAmongOthers_26 : decode prog_4_method_9_code 26 = .ok (.iconst 1, 1) := by decide +kernel
theorem d_En_isAmongOthers_27 : decode prog_4_method_9_code 27 = .ok (.ireturn, 1) := by decide +kernel
theorem d_En_isAmongOthers_28 : decode prog_4_method_9_code 28 = .ok (.iinc 2 1, 3) := by decide +kernel
theorem d_En_isAmongOthers_31 : decode prog_4_method_9_code 31 = .ok (.goto (-29), 3) := by decide +kernel
theorem d_En_isAmongOthers_34 : decode prog_4_method_9_code 34 = .ok (.iconst 0, 1) := by decide +kernel
theorem d_En_isAmongOthers_35 : decode prog_4_method_9_code 35 = .ok (.ireturn, 1) := by decide +kernel
theorem d_SM_poke_0 : decode prog_1_method_2_code 0 = .ok (.iload 4, 2) := by decide +kernel
theorem d_SM_poke_2 : decode prog_1_method_2_code 2 = .ok (.iconst 1, 1) := by decide +kernel
theorem d_SM_poke_3 : decode prog_1_method_2_code 3 = .ok (.if_icmp .lt 24, 3) := by decide +kernel
theorem d_SM_poke_6 : decode prog_1_method_2_code 6 = .ok (.iload 4, 2) := by decide +kernel
theorem d_SM_poke_8 : decode prog_1_method_2_code 8 = .ok (.bipush 8, 2) := by decide +kernel
theorem d_SM_poke_10 : decode prog_1_method_2_code 10 = .ok (.if_icmp .gt 17, 3) := by decide +kernel
theorem d_SM_poke_13 : decode prog_1_method_2_code 13 = .ok (.iload_n 1, 1) := by decide +kernel
theorem d_SM_poke_14 : decode prog_1_method_2_code 14 = .ok (.ifCond .lt 13, 3) := by decide +kernel
theorem d_SM_poke_17 : decode prog_1_method_2_code 17 = .ok (.iload_n 1, 1) := by decide +kernel
theorem d_SM_poke_18 : decode prog_1_method_2_code 18 = .ok (.sipush 512, 3) := by decide +kernel
theorem d_SM_poke_21 : decode prog_1_method_2_code 21 = .ok (.iload 4, 2) := by decide +kernel
theorem d_SM_poke_23 : decode prog_1_method_2_code 23 = .ok (.isub, 1) := by decide +kernel
theorem d_SM_poke_24 : decode prog_1_method_2_code 24 = .ok (.if_icmp .le 11, 3) := by decide +kernel
theorem d_SM_poke_27 : decode prog_1_method_2_code 27 = .ok (.new 48, 3) := by decide +kernel
theorem d_SM_poke_30 : decode prog_1_method_2_code 30 = .ok (.dup, 1) := by decide +kernel
theorem d_SM_poke_31 : decode prog_1_method_2_code 31 = .ok (.invokespecial 50, 3) := by decide +kernel
theorem d_SM_poke_34 : decode prog_1_method_2_code 34 = .ok (.athrow, 1) := by decide +kernel
theorem d_SM_poke_35 : decode prog_1_method_2_code 35 = .ok (.iconst 0, 1) := by decide +kernel
theorem d_SM_poke_36 : decode prog_1_method_2_code 36 = .ok (.istore 5, 2) := by decide +kernel
theorem d_SM_poke_38 : decode prog_1_method_2_code 38 = .ok (.iload 5, 2) := by decide +kernel
theorem d_SM_poke_40 : decode prog_1_method_2_code 40 = .ok (.iload 4, 2) := by decide +kernel
theorem d_SM_poke_42 : decode prog_1_method_2_code 42 = .ok (.if_icmp .ge 29, 3) := by decide +kernel
theorem d_SM_poke_45 : decode prog_1_method_2_code 45 = .ok (.aload_n 0, 1) := by decide +kernel
theorem d_SM_poke_46 : decode prog_1_method_2_code 46 = .ok (.getfield 21, 3) := by decide +kernel
theorem d_SM_poke_49 : decode prog_1_method_2_code 49 = .ok (.getfield 51, 3) := by decide +kernel
theorem d_SM_poke_52 : decode prog_1_method_2_code 52 = .ok (.iload_n 1, 1) := by decide +kernel
theorem d_SM_poke_53 : decode prog_1_method_2_code 53 = .ok (.iload 5, 2) := by decide +kernel
theorem d_SM_poke_55 : decode prog_1_method_2_code 55 = .ok (.iadd, 1) := by decide +kernel
theorem d_SM_poke_56 : decode prog_1_method_2_code 56 = .ok (.lload_n 2, 1) := by decide +kernel
theorem d_SM_poke_57 : decode prog_1_method_2_code 57 = .ok (.iload 4, 2) := by decide +kernel
theorem d_SM_poke_59 : decode prog_1_method_2_code 59 = .ok (.iload 5, 2) := by decide +kernel
theorem d_SM_poke_61 : decode prog_1_method_2_code 61 = .ok (.invokestatic 55, 3) := by decide +kernel
theorem d_SM_poke_64 : decode prog_1_method_2_code 64 = .ok (.iastore, 1) := by decide +kernel
theorem d_SM_poke_65 : decode prog_1_method_2_code 65 = .ok (.iinc 5 1, 3) := by decide +kernel
theorem d_SM_poke_68 : decode prog_1_method_2_code 68 = .ok (.goto (-30), 3) := by decide +kernel
theorem d_SM_poke_71 : decode prog_1_method_2_code 71 = .ok (.return_, 1) := by decide +kernel
theorem d_SM_packed_0 : decode prog_1_method_14_code 0 = .ok (.lload_n 0, 1) := by decide +kernel
theorem d_SM_packed_1 : decode prog_1_method_14_code 1 = .ok (.bipush 8, 2) := by decide +kernel
theorem d_SM_packed_3 : decode prog_1_method_14_code 3 = .ok (.iload_n 2, 1) := by decide +kernel
theorem d_SM_packed_4 : decode prog_1_method_14_code 4 = .ok (.iconst 1, 1) := by decide +kernel
theorem d_SM_packed_5 : decode prog_1_method_14_code 5 = .ok (.isub, 1) := by decide +kernel
theorem d_SM_packed_6 : decode prog_1_method_14_code 6 = .ok (.iload_n 3, 1) := by decide +kernel
theorem d_SM_packed_7 : decode prog_1_method_14_code 7 = .ok (.isub, 1) := by decide +kernel
theorem d_SM_packed_8 : decode prog_1_method_14_code 8 = .ok (.imul, 1) := by decide +kernel
theorem d_SM_packed_9 : decode prog_1_method_14_code 9 = .ok (.lshr, 1) := by decide +kernel
theorem d_SM_packed_10 : decode prog_1_method_14_code 10 = .ok (.l2i, 1) := by decide +kernel
theorem d_SM_packed_11 : decode prog_1_method_14_code 11 = .ok (.sipush 255, 3) := by decide +kernel
theorem d_SM_packed_14 : decode prog_1_method_14_code 14 = .ok (.iand, 1) := by decide +kernel
theorem d_SM_packed_15 : decode prog_1_method_14_code 15 = .ok (.ireturn, 1) := by decide +kernel
theorem d_SM_peek_0 : decode prog_1_method_3_code 0 = .ok (.iload_n 1, 1) := by decide +kernel
theorem d_SM_peek_1 : decode prog_1_method_3_code 1 = .ok (.ifCond .lt 10, 3) := by decide +kernel
theorem d_SM_peek_4 : decode prog_1_method_3_code 4 = .ok (.iload_n 1, 1) := by decide +kernel
theorem d_SM_peek_5 : decode prog_1_method_3_code 5 = .ok (.sipush 512, 3) := by decide +kernel
theorem d_SM_peek_8 : decode prog_1_method_3_code 8 = .ok (.if_icmp .lt 11, 3) := by decide +kernel
theorem d_SM_peek_11 : decode prog_1_method_3_code 11 = .ok (.new 48, 3) := by decide +kernel
theorem d_SM_peek_14 : decode prog_1_method_3_code 14 = .ok (.dup, 1) := by decide +kernel
theorem d_SM_peek_15 : decode prog_1_method_3_code 15 = .ok (.invokespecial 50, 3) := by decide +kernel
theorem d_SM_peek_18 : decode prog_1_method_3_code 18 = .ok (.athrow, 1) := by decide +kernel
theorem d_SM_peek_19 : decode prog_1_method_3_code 19 = .ok (.aload_n 0, 1) := by decide +kernel
theorem d_SM_peek_20 : decode prog_1_method_3_code 20 = .ok (.getfield 21, 3) := by decide +kernel
theorem d_SM_peek_23 : decode prog_1_method_3_code 23 = .ok (.getfield 51, 3) := by decide +kernel
theorem d_SM_peek_26 : decode prog_1_method_3_code 26 = .ok (.iload_n 1, 1) := by decide +kernel
theorem d_SM_peek_27 : decode prog_1_method_3_code 27 = .ok (.iaload, 1) := by decide +kernel
theorem d_SM_peek_28 : decode prog_1_method_3_code 28 = .ok (.ireturn, 1) := by decide +kernel
theorem d_SM_begin_0 : decode prog_1_method_4_code 0 = .ok (.aload_n 0, 1) := by decide +kernel
theorem d_SM_begin_1 : decode prog_1_method_4_code 1 = .ok (.getfield 21, 3) := by decide +kernel
theorem d_SM_begin_4 : decode prog_1_method_4_code 4 = .ok (.iconst 4, 1) := by decide +kernel
theorem d_SM_begin_5 : decode prog_1_method_4_code 5 = .ok (.invokevirtual 59, 3) := by decide +kernel
theorem d_SM_begin_8 : decode prog_1_method_4_code 8 = .ok (.istore_n 1, 1) := by decide +kernel
theorem d_SM_begin_9 : decode prog_1_method_4_code 9 = .ok (.iload_n 1, 1) := by decide +kernel
theorem d_SM_begin_10 : decode prog_1_method_4_code 10 = .ok (.sipush 512, 3) := by decide +kernel
theorem d_SM_begin_13 : decode prog_1_method_4_code 13 = .ok (.if_icmp .lt 11, 3) := by decide +kernel
theorem d_SM_begin_16 : decode prog_1_method_4_code 16 = .ok (.new 63, 3) := by decide +kernel
theorem d_SM_begin_19 : decode prog_1_method_4_code 19 = .ok (.dup, 1) := by decide +kernel
theorem d_SM_begin_20 : decode prog_1_method_4_code 20 = .ok (.invokespecial 65, 3) := by decide +kernel
theorem d_SM_begin_23 : decode prog_1_method_4_code 23 = .ok (.athrow, 1) := by decide +kernel
theorem d_SM_begin_24 : decode prog_1_method_4_code 24 = .ok (.aload_n 0, 1) := by decide +kernel
theorem d_SM_begin_25 : decode prog_1_method_4_code 25 = .ok (.getfield 44, 3) := by decide +kernel
theorem d_SM_begin_28 : decode prog_1_method_4_code 28 = .ok (.iload_n 1, 1) := by decide +kernel
theorem d_SM_begin_29 : decode prog_1_method_4_code 29 = .ok (.invokevirtual 66, 3) := by decide +kernel
theorem d_SM_begin_32 : decode prog_1_method_4_code 32 = .ok (.return_, 1) := by decide +kernel
theorem d_SM_type_0 : decode prog_1_method_5_code 0 = .ok (.iload_n 3, 1) := by decide +kernel
theorem d_SM_type_1 : decode prog_1_method_5_code 1 = .ok (.iconst 1, 1) := by decide +kernel
theorem d_SM_type_2 : decode prog_1_method_5_code 2 = .ok (.if_icmp .lt 9, 3) := by decide +kernel
theorem d_SM_type_5 : decode prog_1_method_5_code 5 = .ok (.iload_n 3, 1) := by decide +kernel
theorem d_SM_type_6 : decode prog_1_method_5_code 6 = .ok (.bipush 8, 2) := by decide +kernel
theorem d_SM_type_8 : decode prog_1_method_5_code 8 = .ok (.if_icmp .le 11, 3) := by decide +kernel
theorem d_SM_type_11 : decode prog_1_method_5_code 11 = .ok (.new 48, 3) := by decide +kernel
theorem d_SM_type_14 : decode prog_1_method_5_code 14 = .ok (.dup, 1) := by decide +kernel
theorem d_SM_type_15 : decode prog_1_method_5_code 15 = .ok (.invokespecial 50, 3) := by decide +kernel
theorem d_SM_type_18 : decode prog_1_method_5_code 18 = .ok (.athrow, 1) := by decide +kernel
theorem d_SM_type_19 : decode prog_1_method_5_code 19 = .ok (.iconst 0, 1) := by decide +kernel
theorem d_SM_type_20 : decode prog_1_method_5_code 20 = .ok (.istore 4, 2) := by decide +kernel
theorem d_SM_type_22 : decode prog_1_method_5_code 22 = .ok (.iload 4, 2) := by decide +kernel
theorem d_SM_type_24 : decode prog_1_method_5_code 24 = .ok (.iload_n 3, 1) := by decide +kernel
theorem d_SM_type_25 : decode prog_1_method_5_code 25 = .ok (.if_icmp .ge 40, 3) := by decide +kernel
theorem d_SM_type_28 : decode prog_1_method_5_code 28 = .ok (.lload_n 1, 1) := by decide +kernel
theorem d_SM_type_29 : decode prog_1_method_5_code 29 = .ok (.iload_n 3, 1) := by decide +kernel
theorem d_SM_type_30 : decode prog_1_method_5_code 30 = .ok (.iload 4, 2) := by decide +kernel
theorem d_SM_type_32 : decode prog_1_method_5_code 32 = .ok (.invokestatic 55, 3) := by decide +kernel
theorem d_SM_type_35 : decode prog_1_method_5_code 35 = .ok (.istore 5, 2) := by decide +kernel
theorem d_SM_type_37 : decode prog_1_method_5_code 37 = .ok (.iload 5, 2) := by decide +kernel
theorem d_SM_type_39 : decode prog_1_method_5_code 39 = .ok (.bipush 32, 2) := by decide +kernel
theorem d_SM_type_41 : decode prog_1_method_5_code 41 = .ok (.if_icmp .lt 10, 3) := by decide +kernel
theorem d_SM_type_44 : decode prog_1_method_5_code 44 = .ok (.iload 5, 2) := by decide +kernel
theorem d_SM_type_46 : decode prog_1_method_5_code 46 = .ok (.bipush 126, 2) := by decide +kernel
theorem d_SM_type_48 : decode prog_1_method_5_code 48 = .ok (.if_icmp .le 11, 3) := by decide +kernel
theorem d_SM_type_51 : decode prog_1_method_5_code 51 = .ok (.new 48, 3) := by decide +kernel
theorem d_SM_type_54 : decode prog_1_method_5_code 54 = .ok (.dup, 1) := by decide +kernel
theorem d_SM_type_55 : decode prog_1_method_5_code 55 = .ok (.invokespecial 50, 3) := by decide +kernel
theorem d_SM_type_58 : decode prog_1_method_5_code 58 = .ok (.athrow, 1) := by decide +kernel
theorem d_SM_type_59 : decode prog_1_method_5_code 59 = .ok (.iinc 4 1, 3) := by decide +kernel
theorem d_SM_type_62 : decode prog_1_method_5_code 62 = .ok (.goto (-40), 3) := by decide +kernel
theorem d_SM_type_65 : decode prog_1_method_5_code 65 = .ok (.aload_n 0, 1) := by decide +kernel
theorem d_SM_type_66 : decode prog_1_method_5_code 66 = .ok (.getfield 27, 3) := by decide +kernel
theorem d_SM_type_69 : decode prog_1_method_5_code 69 = .ok (.getfield 70, 3) := by decide +kernel
theorem d_SM_type_72 : decode prog_1_method_5_code 72 = .ok (.iload_n 3, 1) := by decide +kernel
theorem d_SM_type_73 : decode prog_1_method_5_code 73 = .ok (.iadd, 1) := by decide +kernel
theorem d_SM_type_74 : decode prog_1_method_5_code 74 = .ok (.bipush 24, 2) := by decide +kernel
theorem d_SM_type_76 : decode prog_1_method_5_code 76 = .ok (.if_icmp .le 11, 3) := by decide +kernel
theorem d_SM_type_79 : decode prog_1_method_5_code 79 = .ok (.new 63, 3) := by decide +kernel
theorem d_SM_type_82 : decode prog_1_method_5_code 82 = .ok (.dup, 1) := by decide +kernel
theorem d_SM_type_83 : decode prog_1_method_5_code 83 = .ok (.invokespecial 65, 3) := by decide +kernel
theorem d_SM_type_86 : decode prog_1_method_5_code 86 = .ok (.athrow, 1) := by decide +kernel
theorem d_SM_type_87 : decode prog_1_method_5_code 87 = .ok (.iconst 0, 1) := by decide +kernel
theorem d_SM_type_88 : decode prog_1_method_5_code 88 = .ok (.istore 4, 2) := by decide +kernel
theorem d_SM_type_90 : decode prog_1_method_5_code 90 = .ok (.iload 4, 2) := by decide +kernel
theorem d_SM_type_92 : decode prog_1_method_5_code 92 = .ok (.iload_n 3, 1) := by decide +kernel
theorem d_SM_type_93 : decode prog_1_method_5_code 93 = .ok (.if_icmp .ge 23, 3) := by decide +kernel
theorem d_SM_type_96 : decode prog_1_method_5_code 96 = .ok (.aload_n 0, 1) := by decide +kernel
theorem d_SM_type_97 : decode prog_1_method_5_code 97 = .ok (.getfield 27, 3) := by decide +kernel
theorem d_SM_type_100 : decode prog_1_method_5_code 100 = .ok (.lload_n 1, 1) := by decide +kernel
theorem d_SM_type_101 : decode prog_1_method_5_code 101 = .ok (.iload_n 3, 1) := by decide +kernel
theorem d_SM_type_102 : decode prog_1_method_5_code 102 = .ok (.iload 4, 2) := by decide +kernel
theorem d_SM_type_104 : decode prog_1_method_5_code 104 = .ok (.invokestatic 55, 3) := by decide +kernel
theorem d_SM_type_107 : decode prog_1_method_5_code 107 = .ok (.invokevirtual 74, 3) := by decide +kernel
theorem d_SM_type_110 : decode prog_1_method_5_code 110 = .ok (.iinc 4 1, 3) := by decide +kernel
theorem d_SM_type_113 : decode prog_1_method_5_code 113 = .ok (.goto (-23), 3) := by decide +kernel
theorem d_SM_type_116 : decode prog_1_method_5_code 116 = .ok (.return_, 1) := by decide +kernel
theorem d_SM_enter_0 : decode prog_1_method_6_code 0 = .ok (.aload_n 0, 1) := by decide +kernel
theorem d_SM_enter_1 : decode prog_1_method_6_code 1 = .ok (.getfield 27, 3) := by decide +kernel
theorem d_SM_enter_4 : decode prog_1_method_6_code 4 = .ok (.invokevirtual 77, 3) := by decide +kernel
theorem d_SM_enter_7 : decode prog_1_method_6_code 7 = .ok (.return_, 1) := by decide +kernel
theorem d_SM_run_0 : decode prog_1_method_7_code 0 = .ok (.iload_n 1, 1) := by decide +kernel
theorem d_SM_run_1 : decode prog_1_method_7_code 1 = .ok (.iconst 1, 1) := by decide +kernel
theorem d_SM_run_2 : decode prog_1_method_7_code 2 = .ok (.if_icmp .lt 10, 3) := by decide +kernel
theorem d_SM_run_5 : decode prog_1_method_7_code 5 = .ok (.iload_n 1, 1) := by decide +kernel
theorem d_SM_run_6 : decode prog_1_method_7_code 6 = .ok (.sipush 300, 3) := by decide +kernel
theorem d_SM_run_9 : decode prog_1_method_7_code 9 = .ok (.if_icmp .le 11, 3) := by decide +kernel
theorem d_SM_run_12 : decode prog_1_method_7_code 12 = .ok (.new 48, 3) := by decide +kernel
theorem d_SM_run_15 : decode prog_1_method_7_code 15 = .ok (.dup, 1) := by decide +kernel
theorem d_SM_run_16 : decode prog_1_method_7_code 16 = .ok (.invokespecial 50, 3) := by decide +kernel
theorem d_SM_run_19 : decode prog_1_method_7_code 19 = .ok (.athrow, 1) := by decide +kernel
theorem d_SM_run_20 : decode prog_1_method_7_code 20 = .ok (.aload_n 0, 1) := by decide +kernel
theorem d_SM_run_21 : decode prog_1_method_7_code 21 = .ok (.getfield 44, 3) := by decide +kernel
theorem d_SM_run_24 : decode prog_1_method_7_code 24 = .ok (.getfield 80, 3) := by decide +kernel
theorem d_SM_run_27 : decode prog_1_method_7_code 27 = .ok (.ifCond .ne 11, 3) := by decide +kernel
theorem d_SM_run_30 : decode prog_1_method_7_code 30 = .ok (.new 63, 3) := by decide +kernel
theorem d_SM_run_33 : decode prog_1_method_7_code 33 = .ok (.dup, 1) := by decide +kernel
theorem d_SM_run_34 : decode prog_1_method_7_code 34 = .ok (.invokespecial 65, 3) := by decide +kernel
theorem d_SM_run_37 : decode prog_1_method_7_code 37 = .ok (.athrow, 1) := by decide +kernel
theorem d_SM_run_38 : decode prog_1_method_7_code 38 = .ok (.iconst 0, 1) := by decide +kernel
theorem d_SM_run_39 : decode prog_1_method_7_code 39 = .ok (.istore_n 2, 1) := by decide +kernel
theorem d_SM_run_40 : decode prog_1_method_7_code 40 = .ok (.iconst 0, 1) := by decide +kernel
theorem d_SM_run_41 : decode prog_1_method_7_code 41 = .ok (.istore_n 3, 1) := by decide +kernel
theorem d_SM_run_42 : decode prog_1_method_7_code 42 = .ok (.iload_n 3, 1) := by decide +kernel
theorem d_SM_run_43 : decode prog_1_method_7_code 43 = .ok (.iload_n 1, 1) := by decide +kernel
theorem d_SM_run_44 : decode prog_1_method_7_code 44 = .ok (.if_icmp .ge 21, 3) := by decide +kernel
theorem d_SM_run_47 : decode prog_1_method_7_code 47 = .ok (.iload_n 2, 1) := by decide +kernel
theorem d_SM_run_48 : decode prog_1_method_7_code 48 = .ok (.ifCond .ne 17, 3) := by decide +kernel
theorem d_SM_run_51 : decode prog_1_method_7_code 51 = .ok (.aload_n 0, 1) := by decide +kernel
theorem d_SM_run_52 : decode prog_1_method_7_code 52 = .ok (.getfield 44, 3) := by decide +kernel
theorem d_SM_run_55 : decode prog_1_method_7_code 55 = .ok (.invokevirtual 84, 3) := by decide +kernel
theorem d_SM_run_58 : decode prog_1_method_7_code 58 = .ok (.istore_n 2, 1) := by decide +kernel
theorem d_SM_run_59 : decode prog_1_method_7_code 59 = .ok (.iinc 3 1, 3) := by decide +kernel
theorem d_SM_run_62 : decode prog_1_method_7_code 62 = .ok (.goto (-20), 3) := by decide +kernel
theorem d_SM_run_65 : decode prog_1_method_7_code 65 = .ok (.iload_n 2, 1) := by decide +kernel
theorem d_SM_run_66 : decode prog_1_method_7_code 66 = .ok (.ireturn, 1) := by decide +kernel
theorem d_SM_steps_0 : decode prog_1_method_8_code 0 = .ok (.aload_n 0, 1) := by decide +kernel
theorem d_SM_steps_1 : decode prog_1_method_8_code 1 = .ok (.getfield 44, 3) := by decide +kernel
theorem d_SM_steps_4 : decode prog_1_method_8_code 4 = .ok (.getfield 88, 3) := by decide +kernel
theorem d_SM_steps_7 : decode prog_1_method_8_code 7 = .ok (.ireturn, 1) := by decide +kernel
theorem d_SM_place_0 : decode prog_1_method_9_code 0 = .ok (.aload_n 0, 1) := by decide +kernel
theorem d_SM_place_1 : decode prog_1_method_9_code 1 = .ok (.getfield 44, 3) := by decide +kernel
theorem d_SM_place_4 : decode prog_1_method_9_code 4 = .ok (.getfield 91, 3) := by decide +kernel
theorem d_SM_place_7 : decode prog_1_method_9_code 7 = .ok (.ireturn, 1) := by decide +kernel
theorem d_SM_output_0 : decode prog_1_method_10_code 0 = .ok (.iload_n 1, 1) := by decide +kernel
theorem d_SM_output_1 : decode prog_1_method_10_code 1 = .ok (.iconst (-1), 1) := by decide +kernel
theorem d_SM_output_2 : decode prog_1_method_10_code 2 = .ok (.if_icmp .lt 20, 3) := by decide +kernel
theorem d_SM_output_5 : decode prog_1_method_10_code 5 = .ok (.iload_n 1, 1) := by decide +kernel
theorem d_SM_output_6 : decode prog_1_method_10_code 6 = .ok (.bipush 64, 2) := by decide +kernel
theorem d_SM_output_8 : decode prog_1_method_10_code 8 = .ok (.if_icmp .ge 14, 3) := by decide +kernel
theorem d_SM_output_11 : decode prog_1_method_10_code 11 = .ok (.iload_n 1, 1) := by decide +kernel
theorem d_SM_output_12 : decode prog_1_method_10_code 12 = .ok (.aload_n 0, 1) := by decide +kernel
theorem d_SM_output_13 : decode prog_1_method_10_code 13 = .ok (.getfield 35, 3) := by decide +kernel
theorem d_SM_output_16 : decode prog_1_method_10_code 16 = .ok (.getfield 94, 3) := by decide +kernel
theorem d_SM_output_19 : decode prog_1_method_10_code 19 = .ok (.if_icmp .lt 11, 3) := by decide +kernel
theorem d_SM_output_22 : decode prog_1_method_10_code 22 = .ok (.new 97, 3) := by decide +kernel
theorem d_SM_output_25 : decode prog_1_method_10_code 25 = .ok (.dup, 1) := by decide +kernel
theorem d_SM_output_26 : decode prog_1_method_10_code 26 = .ok (.invokespecial 99, 3) := by decide +kernel
theorem d_SM_output_29 : decode prog_1_method_10_code 29 = .ok (.athrow, 1) := by decide +kernel
theorem d_SM_output_30 : decode prog_1_method_10_code 30 = .ok (.iload_n 1, 1) := by decide +kernel
theorem d_SM_output_31 : decode prog_1_method_10_code 31 = .ok (.iconst (-1), 1) := by decide +kernel
theorem d_SM_output_32 : decode prog_1_method_10_code 32 = .ok (.if_icmp .ne 13, 3) := by decide +kernel
theorem d_SM_output_35 : decode prog_1_method_10_code 35 = .ok (.aload_n 0, 1) := by decide +kernel
theorem d_SM_output_36 : decode prog_1_method_10_code 36 = .ok (.getfield 35, 3) := by decide +kernel
theorem d_SM_output_39 : decode prog_1_method_10_code 39 = .ok (.getfield 94, 3) := by decide +kernel
theorem d_SM_output_42 : decode prog_1_method_10_code 42 = .ok (.goto 11, 3) := by decide +kernel
theorem d_SM_output_45 : decode prog_1_method_10_code 45 = .ok (.aload_n 0, 1) := by decide +kernel
theorem d_SM_output_46 : decode prog_1_method_10_code 46 = .ok (.getfield 35, 3) := by decide +kernel
theorem d_SM_output_49 : decode prog_1_method_10_code 49 = .ok (.iload_n 1, 1) := by decide +kernel
theorem d_SM_output_50 : decode prog_1_method_10_code 50 = .ok (.invokevirtual 100, 3) := by decide +kernel
theorem d_SM_output_53 : decode prog_1_method_10_code 53 = .ok (.ireturn, 1) := by decide +kernel
theorem d_SM_stack_0 : decode prog_1_method_11_code 0 = .ok (.iload_n 1, 1) := by decide +kernel
theorem d_SM_stack_1 : decode prog_1_method_11_code 1 = .ok (.iconst (-1), 1) := by decide +kernel
theorem d_SM_stack_2 : decode prog_1_method_11_code 2 = .ok (.if_icmp .lt 14, 3) := by decide +kernel
theorem d_SM_stack_5 : decode prog_1_method_11_code 5 = .ok (.iload_n 1, 1) := by decide +kernel
theorem d_SM_stack_6 : decode prog_1_method_11_code 6 = .ok (.aload_n 0, 1) := by decide +kernel
theorem d_SM_stack_7 : decode prog_1_method_11_code 7 = .ok (.getfield 31, 3) := by decide +kernel
theorem d_SM_stack_10 : decode prog_1_method_11_code 10 = .ok (.getfield 103, 3) := by decide +kernel
theorem d_SM_stack_13 : decode prog_1_method_11_code 13 = .ok (.if_icmp .lt 11, 3) := by decide +kernel
theorem d_SM_stack_16 : decode prog_1_method_11_code 16 = .ok (.new 97, 3) := by decide +kernel
theorem d_SM_stack_19 : decode prog_1_method_11_code 19 = .ok (.dup, 1) := by decide +kernel
theorem d_SM_stack_20 : decode prog_1_method_11_code 20 = .ok (.invokespecial 99, 3) := by decide +kernel
theorem d_SM_stack_23 : decode prog_1_method_11_code 23 = .ok (.athrow, 1) := by decide +kernel
theorem d_SM_stack_24 : decode prog_1_method_11_code 24 = .ok (.iload_n 1, 1) := by decide +kernel
theorem d_SM_stack_25 : decode prog_1_method_11_code 25 = .ok (.iconst (-1), 1) := by decide +kernel
theorem d_SM_stack_26 : decode prog_1_method_11_code 26 = .ok (.if_icmp .ne 13, 3) := by decide +kernel
theorem d_SM_stack_29 : decode prog_1_method_11_code 29 = .ok (.aload_n 0, 1) := by decide +kernel
theorem d_SM_stack_30 : decode prog_1_method_11_code 30 = .ok (.getfield 31, 3) := by decide +kernel
theorem d_SM_stack_33 : decode prog_1_method_11_code 33 = .ok (.getfield 103, 3) := by decide +kernel
theorem d_SM_stack_36 : decode prog_1_method_11_code 36 = .ok (.goto 22, 3) := by decide +kernel
theorem d_SM_stack_39 : decode prog_1_method_11_code 39 = .ok (.aload_n 0, 1) := by decide +kernel
theorem d_SM_stack_40 : decode prog_1_method_11_code 40 = .ok (.getfield 31, 3) := by decide +kernel
theorem d_SM_stack_43 : decode prog_1_method_11_code 43 = .ok (.getfield 106, 3) := by decide +kernel
theorem d_SM_stack_46 : decode prog_1_method_11_code 46 = .ok (.aload_n 0, 1) := by decide +kernel
theorem d_SM_stack_47 : decode prog_1_method_11_code 47 = .ok (.getfield 31, 3) := by decide +kernel
theorem d_SM_stack_50 : decode prog_1_method_11_code 50 = .ok (.getfield 103, 3) := by decide +kernel
theorem d_SM_stack_53 : decode prog_1_method_11_code 53 = .ok (.iconst 1, 1) := by decide +kernel
theorem d_SM_stack_54 : decode prog_1_method_11_code 54 = .ok (.isub, 1) := by decide +kernel
theorem d_SM_stack_55 : decode prog_1_method_11_code 55 = .ok (.iload_n 1, 1) := by decide +kernel
theorem d_SM_stack_56 : decode prog_1_method_11_code 56 = .ok (.isub, 1) := by decide +kernel
theorem d_SM_stack_57 : decode prog_1_method_11_code 57 = .ok (.iaload, 1) := by decide +kernel
theorem d_SM_stack_58 : decode prog_1_method_11_code 58 = .ok (.ireturn, 1) := by decide +kernel
theorem d_SM_local_0 : decode prog_1_method_12_code 0 = .ok (.iload_n 1, 1) := by decide +kernel
theorem d_SM_local_1 : decode prog_1_method_12_code 1 = .ok (.ifCond .lt 9, 3) := by decide +kernel
theorem d_SM_local_4 : decode prog_1_method_12_code 4 = .ok (.iload_n 1, 1) := by decide +kernel
theorem d_SM_local_5 : decode prog_1_method_12_code 5 = .ok (.bipush 15, 2) := by decide +kernel
theorem d_SM_local_7 : decode prog_1_method_12_code 7 = .ok (.if_icmp .le 11, 3) := by decide +kernel
theorem d_SM_local_10 : decode prog_1_method_12_code 10 = .ok (.new 97, 3) := by decide +kernel
theorem d_SM_local_13 : decode prog_1_method_12_code 13 = .ok (.dup, 1) := by decide +kernel
theorem d_SM_local_14 : decode prog_1_method_12_code 14 = .ok (.invokespecial 99, 3) := by decide +kernel
theorem d_SM_local_17 : decode prog_1_method_12_code 17 = .ok (.athrow, 1) := by decide +kernel
theorem d_SM_local_18 : decode prog_1_method_12_code 18 = .ok (.iload_n 1, 1) := by decide +kernel
theorem d_SM_local_19 : decode prog_1_method_12_code 19 = .ok (.ifCond .ne 11, 3) := by decide +kernel
theorem d_SM_local_22 : decode prog_1_method_12_code 22 = .ok (.aload_n 0, 1) := by decide +kernel
theorem d_SM_local_23 : decode prog_1_method_12_code 23 = .ok (.getfield 31, 3) := by decide +kernel
theorem d_SM_local_26 : decode prog_1_method_12_code 26 = .ok (.invokevirtual 109, 3) := by decide +kernel
theorem d_SM_local_29 : decode prog_1_method_12_code 29 = .ok (.ireturn, 1) := by decide +kernel
theorem d_SM_local_30 : decode prog_1_method_12_code 30 = .ok (.iload_n 1, 1) := by decide +kernel
theorem d_SM_local_31 : decode prog_1_method_12_code 31 = .ok (.aload_n 0, 1) := by decide +kernel
theorem d_SM_local_32 : decode prog_1_method_12_code 32 = .ok (.getfield 31, 3) := by decide +kernel
theorem d_SM_local_35 : decode prog_1_method_12_code 35 = .ok (.invokevirtual 109, 3) := by decide +kernel
theorem d_SM_local_38 : decode prog_1_method_12_code 38 = .ok (.if_icmp .gt 14, 3) := by decide +kernel
theorem d_SM_local_41 : decode prog_1_method_12_code 41 = .ok (.aload_n 0, 1) := by decide +kernel
theorem d_SM_local_42 : decode prog_1_method_12_code 42 = .ok (.getfield 31, 3) := by decide +kernel
theorem d_SM_local_45 : decode prog_1_method_12_code 45 = .ok (.iload_n 1, 1) := by decide +kernel
theorem d_SM_local_46 : decode prog_1_method_12_code 46 = .ok (.invokevirtual 112, 3) := by decide +kernel
theorem d_SM_local_49 : decode prog_1_method_12_code 49 = .ok (.goto 4, 3) := by decide +kernel
theorem d_SM_local_52 : decode prog_1_method_12_code 52 = .ok (.iconst 0, 1) := by decide +kernel
theorem d_SM_local_53 : decode prog_1_method_12_code 53 = .ok (.ireturn, 1) := by decide +kernel
theorem d_SM_routines_0 : decode prog_1_method_13_code 0 = .ok (.aload_n 0, 1) := by decide +kernel
theorem d_SM_routines_1 : decode prog_1_method_13_code 1 = .ok (.getfield 31, 3) := by decide +kernel
theorem d_SM_routines_4 : decode prog_1_method_13_code 4 = .ok (.getfield 115, 3) := by decide +kernel
theorem d_SM_routines_7 : decode prog_1_method_13_code 7 = .ok (.ireturn, 1) := by decide +kernel
theorem d_Mo_poke_0 : decode prog_13_method_74_code 0 = .ok (.aload_n 0, 1) := by decide +kernel
theorem d_Mo_poke_1 : decode prog_13_method_74_code 1 = .ok (.iload 4, 2) := by decide +kernel
theorem d_Mo_poke_3 : decode prog_13_method_74_code 3 = .ok (.invokestatic 386, 3) := by decide +kernel
theorem d_Mo_poke_6 : decode prog_13_method_74_code 6 = .ok (.ifCond .eq 17, 3) := by decide +kernel
theorem d_Mo_poke_9 : decode prog_13_method_74_code 9 = .ok (.iload_n 1, 1) := by decide +kernel
theorem d_Mo_poke_10 : decode prog_13_method_74_code 10 = .ok (.ifCond .lt 13, 3) := by decide +kernel
theorem d_Mo_poke_13 : decode prog_13_method_74_code 13 = .ok (.iload_n 1, 1) := by decide +kernel
theorem d_Mo_poke_14 : decode prog_13_method_74_code 14 = .ok (.sipush 512, 3) := by decide +kernel
theorem d_Mo_poke_17 : decode prog_13_method_74_code 17 = .ok (.iload 4, 2) := by decide +kernel
theorem d_Mo_poke_19 : decode prog_13_method_74_code 19 = .ok (.isub, 1) := by decide +kernel
theorem d_Mo_poke_20 : decode prog_13_method_74_code 20 = .ok (.if_icmp .le 7, 3) := by decide +kernel
theorem d_Mo_poke_23 : decode prog_13_method_74_code 23 = .ok (.iconst 1, 1) := by decide +kernel
theorem d_Mo_poke_24 : decode prog_13_method_74_code 24 = .ok (.goto 4, 3) := by decide +kernel
theorem d_Mo_poke_27 : decode prog_13_method_74_code 27 = .ok (.iconst 0, 1) := by decide +kernel
theorem d_Mo_poke_28 : decode prog_13_method_74_code 28 = .ok (.putfield 73, 3) := by decide +kernel
theorem d_Mo_poke_31 : decode prog_13_method_74_code 31 = .ok (.iconst 0, 1) := by decide +kernel
theorem d_Mo_poke_32 : decode prog_13_method_74_code 32 = .ok (.istore 5, 2) := by decide +kernel
theorem d_Mo_poke_34 : decode prog_13_method_74_code 34 = .ok (.iload 5, 2) := by decide +kernel
theorem d_Mo_poke_36 : decode prog_13_method_74_code 36 = .ok (.iload 4, 2) := by decide +kernel
theorem d_Mo_poke_38 : decode prog_13_method_74_code 38 = .ok (.if_icmp .ge 42, 3) := by decide +kernel
theorem d_Mo_poke_41 : decode prog_13_method_74_code 41 = .ok (.aload_n 0, 1) := by decide +kernel
theorem d_Mo_poke_42 : decode prog_13_method_74_code 42 = .ok (.getfield 73, 3) := by decide +kernel
theorem d_Mo_poke_45 : decode prog_13_method_74_code 45 = .ok (.ifCond .ne 35, 3) := by decide +kernel
theorem d_Mo_poke_48 : decode prog_13_method_74_code 48 = .ok (.aload_n 0, 1) := by decide +kernel
theorem d_Mo_poke_49 : decode prog_13_method_74_code 49 = .ok (.getfield 7, 3) := by decide +kernel
theorem d_Mo_poke_52 : decode prog_13_method_74_code 52 = .ok (.iload_n 1, 1) := by decide +kernel
theorem d_Mo_poke_53 : decode prog_13_method_74_code 53 = .ok (.iload 5, 2) := by decide +kernel
theorem d_Mo_poke_55 : decode prog_13_method_74_code 55 = .ok (.iadd, 1) := by decide +kernel
theorem d_Mo_poke_56 : decode prog_13_method_74_code 56 = .ok (.lload_n 2, 1) := by decide +kernel
theorem d_Mo_poke_57 : decode prog_13_method_74_code 57 = .ok (.bipush 8, 2) := by decide +kernel
theorem d_Mo_poke_59 : decode prog_13_method_74_code 59 = .ok (.iload 4, 2) := by decide +kernel
theorem d_Mo_poke_61 : decode prog_13_method_74_code 61 = .ok (.iconst 1, 1) := by decide +kernel
theorem d_Mo_poke_62 : decode prog_13_method_74_code 62 = .ok (.isub, 1) := by decide +kernel
theorem d_Mo_poke_63 : decode prog_13_method_74_code 63 = .ok (.iload 5, 2) := by decide +kernel
theorem d_Mo_poke_65 : decode prog_13_method_74_code 65 = .ok (.isub, 1) := by decide +kernel
theorem d_Mo_poke_66 : decode prog_13_method_74_code 66 = .ok (.imul, 1) := by decide +kernel
theorem d_Mo_poke_67 : decode prog_13_method_74_code 67 = .ok (.lshr, 1) := by decide +kernel
theorem d_Mo_poke_68 : decode prog_13_method_74_code 68 = .ok (.ldc2_w 389, 3) := by decide +kernel
theorem d_Mo_poke_71 : decode prog_13_method_74_code 71 = .ok (.land, 1) := by decide +kernel
theorem d_Mo_poke_72 : decode prog_13_method_74_code 72 = .ok (.l2i, 1) := by decide +kernel
theorem d_Mo_poke_73 : decode prog_13_method_74_code 73 = .ok (.iastore, 1) := by decide +kernel
theorem d_Mo_poke_74 : decode prog_13_method_74_code 74 = .ok (.iinc 5 1, 3) := by decide +kernel
theorem d_Mo_poke_77 : decode prog_13_method_74_code 77 = .ok (.goto (-43), 3) := by decide +kernel
theorem d_Mo_poke_80 : decode prog_13_method_74_code 80 = .ok (.return_, 1) := by decide +kernel
theorem d_Mo_isFew_0 : decode prog_13_method_73_code 0 = .ok (.iload_n 0, 1) := by decide +kernel
theorem d_Mo_isFew_1 : decode prog_13_method_73_code 1 = .ok (.iconst 1, 1) := by decide +kernel
theorem d_Mo_isFew_2 : decode prog_13_method_73_code 2 = .ok (.if_icmp .lt 13, 3) := by decide +kernel
theorem d_Mo_isFew_5 : decode prog_13_method_73_code 5 = .ok (.iload_n 0, 1) := by decide +kernel
theorem d_Mo_isFew_6 : decode prog_13_method_73_code 6 = .ok (.bipush 8, 2) := by decide +kernel
theorem d_Mo_isFew_8 : decode prog_13_method_73_code 8 = .ok (.if_icmp .gt 7, 3) := by decide +kernel
theorem d_Mo_isFew_11 : decode prog_13_method_73_code 11 = .ok (.iconst 1, 1) := by decide +kernel
theorem d_Mo_isFew_12 : decode prog_13_method_73_code 12 = .ok (.goto 4, 3) := by decide +kernel
theorem d_Mo_isFew_15 : decode prog_13_method_73_code 15 = .ok (.iconst 0, 1) := by decide +kernel
theorem d_Mo_isFew_16 : decode prog_13_method_73_code 16 = .ok (.ireturn, 1) := by decide +kernel
theorem d_Mo_thrown_0 : decode prog_13_method_2_code 0 = .ok (.aload_n 0, 1) := by decide +kernel
theorem d_Mo_thrown_1 : decode prog_13_method_2_code 1 = .ok (.getfield 73, 3) := by decide +kernel
theorem d_Mo_thrown_4 : decode prog_13_method_2_code 4 = .ok (.ireturn, 1) := by decide +kernel
theorem d_Mo_peek_0 : decode prog_13_method_75_code 0 = .ok (.aload_n 0, 1) := by decide +kernel
theorem d_Mo_peek_1 : decode prog_13_method_75_code 1 = .ok (.iload_n 1, 1) := by decide +kernel
theorem d_Mo_peek_2 : decode prog_13_method_75_code 2 = .ok (.ifCond .lt 10, 3) := by decide +kernel
theorem d_Mo_peek_5 : decode prog_13_method_75_code 5 = .ok (.iload_n 1, 1) := by decide +kernel
theorem d_Mo_peek_6 : decode prog_13_method_75_code 6 = .ok (.sipush 511, 3) := by decide +kernel
theorem d_Mo_peek_9 : decode prog_13_method_75_code 9 = .ok (.if_icmp .le 7, 3) := by decide +kernel
theorem d_Mo_peek_12 : decode prog_13_method_75_code 12 = .ok (.iconst 1, 1) := by decide +kernel
theorem d_Mo_peek_13 : decode prog_13_method_75_code 13 = .ok (.goto 4, 3) := by decide +kernel
theorem d_Mo_peek_16 : decode prog_13_method_75_code 16 = .ok (.iconst 0, 1) := by decide +kernel
theorem d_Mo_peek_17 : decode prog_13_method_75_code 17 = .ok (.putfield 73, 3) := by decide +kernel
theorem d_Mo_peek_20 : decode prog_13_method_75_code 20 = .ok (.aload_n 0, 1) := by decide +kernel
theorem d_Mo_peek_21 : decode prog_13_method_75_code 21 = .ok (.getfield 73, 3) := by decide +kernel
theorem d_Mo_peek_24 : decode prog_13_method_75_code 24 = .ok (.ifCond .le 7, 3) := by decide +kernel
theorem d_Mo_peek_27 : decode prog_13_method_75_code 27 = .ok (.iconst 0, 1) := by decide +kernel
theorem d_Mo_peek_28 : decode prog_13_method_75_code 28 = .ok (.goto 9, 3) := by decide +kernel
theorem d_Mo_peek_31 : decode prog_13_method_75_code 31 = .ok (.aload_n 0, 1) := by decide +kernel
theorem d_Mo_peek_32 : decode prog_13_method_75_code 32 = .ok (.getfield 7, 3) := by decide +kernel
theorem d_Mo_peek_35 : decode prog_13_method_75_code 35 = .ok (.iload_n 1, 1) := by decide +kernel
theorem d_Mo_peek_36 : decode prog_13_method_75_code 36 = .ok (.iaload, 1) := by decide +kernel
theorem d_Mo_peek_37 : decode prog_13_method_75_code 37 = .ok (.ireturn, 1) := by decide +kernel
theorem d_Mo_begin_0 : decode prog_13_method_76_code 0 = .ok (.sipush 256, 3) := by decide +kernel
theorem d_Mo_begin_3 : decode prog_13_method_76_code 3 = .ok (.aload_n 0, 1) := by decide +kernel
theorem d_Mo_begin_4 : decode prog_13_method_76_code 4 = .ok (.getfield 7, 3) := by decide +kernel
theorem d_Mo_begin_7 : decode prog_13_method_76_code 7 = .ok (.iconst 4, 1) := by decide +kernel
theorem d_Mo_begin_8 : decode prog_13_method_76_code 8 = .ok (.iaload, 1) := by decide +kernel
theorem d_Mo_begin_9 : decode prog_13_method_76_code 9 = .ok (.imul, 1) := by decide +kernel
theorem d_Mo_begin_10 : decode prog_13_method_76_code 10 = .ok (.aload_n 0, 1) := by decide +kernel
theorem d_Mo_begin_11 : decode prog_13_method_76_code 11 = .ok (.getfield 7, 3) := by decide +kernel
theorem d_Mo_begin_14 : decode prog_13_method_76_code 14 = .ok (.iconst 5, 1) := by decide +kernel
theorem d_Mo_begin_15 : decode prog_13_method_76_code 15 = .ok (.iaload, 1) := by decide +kernel
theorem d_Mo_begin_16 : decode prog_13_method_76_code 16 = .ok (.iadd, 1) := by decide +kernel
theorem d_Mo_begin_17 : decode prog_13_method_76_code 17 = .ok (.istore_n 1, 1) := by decide +kernel
theorem d_Mo_begin_18 : decode prog_13_method_76_code 18 = .ok (.aload_n 0, 1) := by decide +kernel
theorem d_Mo_begin_19 : decode prog_13_method_76_code 19 = .ok (.iload_n 1, 1) := by decide +kernel
theorem d_Mo_begin_20 : decode prog_13_method_76_code 20 = .ok (.sipush 511, 3) := by decide +kernel
theorem d_Mo_begin_23 : decode prog_13_method_76_code 23 = .ok (.if_icmp .le 7, 3) := by decide +kernel
theorem d_Mo_begin_26 : decode prog_13_method_76_code 26 = .ok (.iconst 1, 1) := by decide +kernel
theorem d_Mo_begin_27 : decode prog_13_method_76_code 27 = .ok (.goto 4, 3) := by decide +kernel
theorem d_Mo_begin_30 : decode prog_13_method_76_code 30 = .ok (.iconst 0, 1) := by decide +kernel
theorem d_Mo_begin_31 : decode prog_13_method_76_code 31 = .ok (.putfield 73, 3) := by decide +kernel
theorem d_Mo_begin_34 : decode prog_13_method_76_code 34 = .ok (.aload_n 0, 1) := by decide +kernel
theorem d_Mo_begin_35 : decode prog_13_method_76_code 35 = .ok (.getfield 73, 3) := by decide +kernel
theorem d_Mo_begin_38 : decode prog_13_method_76_code 38 = .ok (.ifCond .le 4, 3) := by decide +kernel
theorem d_Mo_begin_41 : decode prog_13_method_76_code 41 = .ok (.return_, 1) := by decide +kernel
theorem d_Mo_begin_42 : decode prog_13_method_76_code 42 = .ok (.aload_n 0, 1) := by decide +kernel
theorem d_Mo_begin_43 : decode prog_13_method_76_code 43 = .ok (.iconst 1, 1) := by decide +kernel
theorem d_Mo_begin_44 : decode prog_13_method_76_code 44 = .ok (.putfield 377, 3) := by decide +kernel
theorem d_Mo_begin_47 : decode prog_13_method_76_code 47 = .ok (.aload_n 0, 1) := by decide +kernel
theorem d_Mo_begin_48 : decode prog_13_method_76_code 48 = .ok (.iload_n 1, 1) := by decide +kernel
theorem d_Mo_begin_49 : decode prog_13_method_76_code 49 = .ok (.putfield 346, 3) := by decide +kernel
theorem d_Mo_begin_52 : decode prog_13_method_76_code 52 = .ok (.aload_n 0, 1) := by decide +kernel
theorem d_Mo_begin_53 : decode prog_13_method_76_code 53 = .ok (.iconst 0, 1) := by decide +kernel
theorem d_Mo_begin_54 : decode prog_13_method_76_code 54 = .ok (.putfield 94, 3) := by decide +kernel
theorem d_Mo_begin_57 : decode prog_13_method_76_code 57 = .ok (.aload_n 0, 1) := by decide +kernel
theorem d_Mo_begin_58 : decode prog_13_method_76_code 58 = .ok (.iconst 0, 1) := by decide +kernel
theorem d_Mo_begin_59 : decode prog_13_method_76_code 59 = .ok (.putfield 97, 3) := by decide +kernel
theorem d_Mo_begin_62 : decode prog_13_method_76_code 62 = .ok (.aload_n 0, 1) := by decide +kernel
theorem d_Mo_begin_63 : decode prog_13_method_76_code 63 = .ok (.getfield 16, 3) := by decide +kernel
theorem d_Mo_begin_66 : decode prog_13_method_76_code 66 = .ok (.iconst 0, 1) := by decide +kernel
theorem d_Mo_begin_67 : decode prog_13_method_76_code 67 = .ok (.iconst 0, 1) := by decide +kernel
theorem d_Mo_begin_68 : decode prog_13_method_76_code 68 = .ok (.iastore, 1) := by decide +kernel
theorem d_Mo_begin_69 : decode prog_13_method_76_code 69 = .ok (.aload_n 0, 1) := by decide +kernel
theorem d_Mo_begin_70 : decode prog_13_method_76_code 70 = .ok (.getfield 19, 3) := by decide +kernel
theorem d_Mo_begin_73 : decode prog_13_method_76_code 73 = .ok (.iconst 0, 1) := by decide +kernel
theorem d_Mo_begin_74 : decode prog_13_method_76_code 74 = .ok (.iconst 0, 1) := by decide +kernel
theorem d_Mo_begin_75 : decode prog_13_method_76_code 75 = .ok (.iastore, 1) := by decide +kernel
theorem d_Mo_begin_76 : decode prog_13_method_76_code 76 = .ok (.aload_n 0, 1) := by decide +kernel
theorem d_Mo_begin_77 : decode prog_13_method_76_code 77 = .ok (.iconst 0, 1) := by decide +kernel
theorem d_Mo_begin_78 : decode prog_13_method_76_code 78 = .ok (.putfield 309, 3) := by decide +kernel
theorem d_Mo_begin_81 : decode prog_13_method_76_code 81 = .ok (.aload_n 0, 1) := by decide +kernel
theorem d_Mo_begin_82 : decode prog_13_method_76_code 82 = .ok (.iconst 0, 1) := by decide +kernel
theorem d_Mo_begin_83 : decode prog_13_method_76_code 83 = .ok (.putfield 120, 3) := by decide +kernel
theorem d_Mo_begin_86 : decode prog_13_method_76_code 86 = .ok (.aload_n 0, 1) := by decide +kernel
theorem d_Mo_begin_87 : decode prog_13_method_76_code 87 = .ok (.iconst 0, 1) := by decide +kernel
theorem d_Mo_begin_88 : decode prog_13_method_76_code 88 = .ok (.putfield 391, 3) := by decide +kernel
theorem d_Mo_begin_91 : decode prog_13_method_76_code 91 = .ok (.aload_n 0, 1) := by decide +kernel
theorem d_Mo_begin_92 : decode prog_13_method_76_code 92 = .ok (.iconst 0, 1) := by decide +kernel
theorem d_Mo_begin_93 : decode prog_13_method_76_code 93 = .ok (.putfield 312, 3) := by decide +kernel
theorem d_Mo_begin_96 : decode prog_13_method_76_code 96 = .ok (.aload_n 0, 1) := by decide +kernel
theorem d_Mo_begin_97 : decode prog_13_method_76_code 97 = .ok (.iconst 0, 1) := by decide +kernel
theorem d_Mo_begin_98 : decode prog_13_method_76_code 98 = .ok (.putfield 269, 3) := by decide +kernel
theorem d_Mo_begin_101 : decode prog_13_method_76_code 101 = .ok (.aload_n 0, 1) := by decide +kernel
theorem d_Mo_begin_102 : decode prog_13_method_76_code 102 = .ok (.iconst 0, 1) := by decide +kernel
theorem d_Mo_begin_103 : decode prog_13_method_76_code 103 = .ok (.putfield 380, 3) := by decide +kernel
theorem d_Mo_begin_106 : decode prog_13_method_76_code 106 = .ok (.aload_n 0, 1) := by decide +kernel
theorem d_Mo_begin_107 : decode prog_13_method_76_code 107 = .ok (.iconst 0, 1) := by decide +kernel
theorem d_Mo_begin_108 : decode prog_13_method_76_code 108 = .ok (.putfield 374, 3) := by decide +kernel
theorem d_Mo_begin_111 : decode prog_13_method_76_code 111 = .ok (.return_, 1) := by decide +kernel
theorem d_Mo_type_0 : decode prog_13_method_77_code 0 = .ok (.iload_n 3, 1) := by decide +kernel
theorem d_Mo_type_1 : decode prog_13_method_77_code 1 = .ok (.invokestatic 386, 3) := by decide +kernel
theorem d_Mo_type_4 : decode prog_13_method_77_code 4 = .ok (.istore 4, 2) := by decide +kernel
theorem d_Mo_type_6 : decode prog_13_method_77_code 6 = .ok (.iconst 0, 1) := by decide +kernel
theorem d_Mo_type_7 : decode prog_13_method_77_code 7 = .ok (.istore 5, 2) := by decide +kernel
theorem d_Mo_type_9 : decode prog_13_method_77_code 9 = .ok (.iload 5, 2) := by decide +kernel
theorem d_Mo_type_11 : decode prog_13_method_77_code 11 = .ok (.iload_n 3, 1) := by decide +kernel
theorem d_Mo_type_12 : decode prog_13_method_77_code 12 = .ok (.if_icmp .ge 52, 3) := by decide +kernel
theorem d_Mo_type_15 : decode prog_13_method_77_code 15 = .ok (.iload 4, 2) := by decide +kernel
theorem d_Mo_type_17 : decode prog_13_method_77_code 17 = .ok (.ifCond .eq 47, 3) := by decide +kernel
theorem d_Mo_type_20 : decode prog_13_method_77_code 20 = .ok (.lload_n 1, 1) := by decide +kernel
theorem d_Mo_type_21 : decode prog_13_method_77_code 21 = .ok (.bipush 8, 2) := by decide +kernel
theorem d_Mo_type_23 : decode prog_13_method_77_code 23 = .ok (.iload 5, 2) := by decide +kernel
theorem d_Mo_type_25 : decode prog_13_method_77_code 25 = .ok (.imul, 1) := by decide +kernel
theorem d_Mo_type_26 : decode prog_13_method_77_code 26 = .ok (.lshr, 1) := by decide +kernel
theorem d_Mo_type_27 : decode prog_13_method_77_code 27 = .ok (.ldc2_w 389, 3) := by decide +kernel
theorem d_Mo_type_30 : decode prog_13_method_77_code 30 = .ok (.land, 1) := by decide +kernel
theorem d_Mo_type_31 : decode prog_13_method_77_code 31 = .ok (.lstore 6, 2) := by decide +kernel
theorem d_Mo_type_33 : decode prog_13_method_77_code 33 = .ok (.lload 6, 2) := by decide +kernel
theorem d_Mo_type_35 : decode prog_13_method_77_code 35 = .ok (.ldc2_w 394, 3) := by decide +kernel
theorem d_Mo_type_38 : decode prog_13_method_77_code 38 = .ok (.lcmp, 1) := by decide +kernel
theorem d_Mo_type_39 : decode prog_13_method_77_code 39 = .ok (.ifCond .lt 16, 3) := by decide +kernel
theorem d_Mo_type_42 : decode prog_13_method_77_code 42 = .ok (.lload 6, 2) := by decide +kernel
theorem d_Mo_type_44 : decode prog_13_method_77_code 44 = .ok (.ldc2_w 396, 3) := by decide +kernel
theorem d_Mo_type_47 : decode prog_13_method_77_code 47 = .ok (.lcmp, 1) := by decide +kernel
theorem d_Mo_type_48 : decode prog_13_method_77_code 48 = .ok (.ifCond .gt 7, 3) := by decide +kernel
theorem d_Mo_type_51 : decode prog_13_method_77_code 51 = .ok (.iconst 1, 1) := by decide +kernel
theorem d_Mo_type_52 : decode prog_13_method_77_code 52 = .ok (.goto 4, 3) := by decide +kernel
theorem d_Mo_type_55 : decode prog_13_method_77_code 55 = .ok (.iconst 0, 1) := by decide +kernel
theorem d_Mo_type_56 : decode prog_13_method_77_code 56 = .ok (.istore 4, 2) := by decide +kernel
theorem d_Mo_type_58 : decode prog_13_method_77_code 58 = .ok (.iinc 5 1, 3) := by decide +kernel
theorem d_Mo_type_61 : decode prog_13_method_77_code 61 = .ok (.goto (-52), 3) := by decide +kernel
theorem d_Mo_type_64 : decode prog_13_method_77_code 64 = .ok (.aload_n 0, 1) := by decide +kernel
theorem d_Mo_type_65 : decode prog_13_method_77_code 65 = .ok (.iload 4, 2) := by decide +kernel
theorem d_Mo_type_67 : decode prog_13_method_77_code 67 = .ok (.ifCond .ne 7, 3) := by decide +kernel
theorem d_Mo_type_70 : decode prog_13_method_77_code 70 = .ok (.iconst 1, 1) := by decide +kernel
theorem d_Mo_type_71 : decode prog_13_method_77_code 71 = .ok (.goto 19, 3) := by decide +kernel
theorem d_Mo_type_74 : decode prog_13_method_77_code 74 = .ok (.aload_n 0, 1) := by decide +kernel
theorem d_Mo_type_75 : decode prog_13_method_77_code 75 = .ok (.getfield 391, 3) := by decide +kernel
theorem d_Mo_type_78 : decode prog_13_method_77_code 78 = .ok (.iload_n 3, 1) := by decide +kernel
theorem d_Mo_type_79 : decode prog_13_method_77_code 79 = .ok (.iadd, 1) := by decide +kernel
theorem d_Mo_type_80 : decode prog_13_method_77_code 80 = .ok (.bipush 24, 2) := by decide +kernel
theorem d_Mo_type_82 : decode prog_13_method_77_code 82 = .ok (.if_icmp .le 7, 3) := by decide +kernel
theorem d_Mo_type_85 : decode prog_13_method_77_code 85 = .ok (.iconst 2, 1) := by decide +kernel
theorem d_Mo_type_86 : decode prog_13_method_77_code 86 = .ok (.goto 4, 3) := by decide +kernel
theorem d_Mo_type_89 : decode prog_13_method_77_code 89 = .ok (.iconst 0, 1) := by decide +kernel
theorem d_Mo_type_90 : decode prog_13_method_77_code 90 = .ok (.putfield 73, 3) := by decide +kernel
theorem d_Mo_type_93 : decode prog_13_method_77_code 93 = .ok (.iload_n 3, 1) := by decide +kernel
theorem d_Mo_type_94 : decode prog_13_method_77_code 94 = .ok (.iconst 1, 1) := by decide +kernel
theorem d_Mo_type_95 : decode prog_13_method_77_code 95 = .ok (.isub, 1) := by decide +kernel
theorem d_Mo_type_96 : decode prog_13_method_77_code 96 = .ok (.istore 5, 2) := by decide +kernel
theorem d_Mo_type_98 : decode prog_13_method_77_code 98 = .ok (.iload 5, 2) := by decide +kernel
theorem d_Mo_type_100 : decode prog_13_method_77_code 100 = .ok (.ifCond .lt 47, 3) := by decide +kernel
theorem d_Mo_type_103 : decode prog_13_method_77_code 103 = .ok (.aload_n 0, 1) := by decide +kernel
theorem d_Mo_type_104 : decode prog_13_method_77_code 104 = .ok (.getfield 73, 3) := by decide +kernel
theorem d_Mo_type_107 : decode prog_13_method_77_code 107 = .ok (.ifCond .ne 40, 3) := by decide +kernel
theorem d_Mo_type_110 : decode prog_13_method_77_code 110 = .ok (.aload_n 0, 1) := by decide +kernel
theorem d_Mo_type_111 : decode prog_13_method_77_code 111 = .ok (.getfield 55, 3) := by decide +kernel
theorem d_Mo_type_114 : decode prog_13_method_77_code 114 = .ok (.aload_n 0, 1) := by decide +kernel
theorem d_Mo_type_115 : decode prog_13_method_77_code 115 = .ok (.getfield 391, 3) := by decide +kernel
theorem d_Mo_type_118 : decode prog_13_method_77_code 118 = .ok (.lload_n 1, 1) := by decide +kernel
theorem d_Mo_type_119 : decode prog_13_method_77_code 119 = .ok (.bipush 8, 2) := by decide +kernel
theorem d_Mo_type_121 : decode prog_13_method_77_code 121 = .ok (.iload 5, 2) := by decide +kernel
theorem d_Mo_type_123 : decode prog_13_method_77_code 123 = .ok (.imul, 1) := by decide +kernel
theorem d_Mo_type_124 : decode prog_13_method_77_code 124 = .ok (.lshr, 1) := by decide +kernel
theorem d_Mo_type_125 : decode prog_13_method_77_code 125 = .ok (.ldc2_w 389, 3) := by decide +kernel
theorem d_Mo_type_128 : decode prog_13_method_77_code 128 = .ok (.land, 1) := by decide +kernel
theorem d_Mo_type_129 : decode prog_13_method_77_code 129 = .ok (.l2i, 1) := by decide +kernel
theorem d_Mo_type_130 : decode prog_13_method_77_code 130 = .ok (.iastore, 1) := by decide +kernel
theorem d_Mo_type_131 : decode prog_13_method_77_code 131 = .ok (.aload_n 0, 1) := by decide +kernel
theorem d_Mo_type_132 : decode prog_13_method_77_code 132 = .ok (.dup, 1) := by decide +kernel
theorem d_Mo_type_133 : decode prog_13_method_77_code 133 = .ok (.getfield 391, 3) := by decide +kernel
theorem d_Mo_type_136 : decode prog_13_method_77_code 136 = .ok (.iconst 1, 1) := by decide +kernel
theorem d_Mo_type_137 : decode prog_13_method_77_code 137 = .ok (.iadd, 1) := by decide +kernel
theorem d_Mo_type_138 : decode prog_13_method_77_code 138 = .ok (.putfield 391, 3) := by decide +kernel
theorem d_Mo_type_141 : decode prog_13_method_77_code 141 = .ok (.iinc 5 (-1), 3) := by decide +kernel
theorem d_Mo_type_144 : decode prog_13_method_77_code 144 = .ok (.goto (-46), 3) := by decide +kernel
theorem d_Mo_type_147 : decode prog_13_method_77_code 147 = .ok (.return_, 1) := by decide +kernel
theorem d_Mo_enter_0 : decode prog_13_method_78_code 0 = .ok (.aload_n 0, 1) := by decide +kernel
theorem d_Mo_enter_1 : decode prog_13_method_78_code 1 = .ok (.iconst 0, 1) := by decide +kernel
theorem d_Mo_enter_2 : decode prog_13_method_78_code 2 = .ok (.putfield 73, 3) := by decide +kernel
theorem d_Mo_enter_5 : decode prog_13_method_78_code 5 = .ok (.aload_n 0, 1) := by decide +kernel
theorem d_Mo_enter_6 : decode prog_13_method_78_code 6 = .ok (.aload_n 0, 1) := by decide +kernel
theorem d_Mo_enter_7 : decode prog_13_method_78_code 7 = .ok (.getfield 391, 3) := by decide +kernel
theorem d_Mo_enter_10 : decode prog_13_method_78_code 10 = .ok (.putfield 315, 3) := by decide +kernel
theorem d_Mo_enter_13 : decode prog_13_method_78_code 13 = .ok (.aload_n 0, 1) := by decide +kernel
theorem d_Mo_enter_14 : decode prog_13_method_78_code 14 = .ok (.getfield 55, 3) := by decide +kernel
theorem d_Mo_enter_17 : decode prog_13_method_78_code 17 = .ok (.aload_n 0, 1) := by decide +kernel
theorem d_Mo_enter_18 : decode prog_13_method_78_code 18 = .ok (.getfield 58, 3) := by decide +kernel
theorem d_Mo_enter_21 : decode prog_13_method_78_code 21 = .ok (.aload_n 0, 1) := by decide +kernel
theorem d_Mo_enter_22 : decode prog_13_method_78_code 22 = .ok (.getfield 391, 3) := by decide +kernel
theorem d_Mo_enter_25 : decode prog_13_method_78_code 25 = .ok (.invokestatic 272, 3) := by decide +kernel
theorem d_Mo_enter_28 : decode prog_13_method_78_code 28 = .ok (.aload_n 0, 1) := by decide +kernel
theorem d_Mo_enter_29 : decode prog_13_method_78_code 29 = .ok (.iconst 0, 1) := by decide +kernel
theorem d_Mo_enter_30 : decode prog_13_method_78_code 30 = .ok (.putfield 391, 3) := by decide +kernel
theorem d_Mo_enter_33 : decode prog_13_method_78_code 33 = .ok (.aload_n 0, 1) := by decide +kernel
theorem d_Mo_enter_34 : decode prog_13_method_78_code 34 = .ok (.iconst 1, 1) := by decide +kernel
theorem d_Mo_enter_35 : decode prog_13_method_78_code 35 = .ok (.putfield 312, 3) := by decide +kernel
theorem d_Mo_enter_38 : decode prog_13_method_78_code 38 = .ok (.return_, 1) := by decide +kernel
theorem d_Mo_copy_0 : decode prog_13_method_56_code 0 = .ok (.iconst 0, 1) := by decide +kernel
theorem d_Mo_copy_1 : decode prog_13_method_56_code 1 = .ok (.istore_n 3, 1) := by decide +kernel
theorem d_Mo_copy_2 : decode prog_13_method_56_code 2 = .ok (.iload_n 3, 1) := by decide +kernel
theorem d_Mo_copy_3 : decode prog_13_method_56_code 3 = .ok (.iload_n 2, 1) := by decide +kernel
theorem d_Mo_copy_4 : decode prog_13_method_56_code 4 = .ok (.if_icmp .ge 15, 3) := by decide +kernel
theorem d_Mo_copy_7 : decode prog_13_method_56_code 7 = .ok (.aload_n 1, 1) := by decide +kernel
theorem d_Mo_copy_8 : decode prog_13_method_56_code 8 = .ok (.iload_n 3, 1) := by decide +kernel
theorem d_Mo_copy_9 : decode prog_13_method_56_code 9 = .ok (.aload_n 0, 1) := by decide +kernel
theorem d_Mo_copy_10 : decode prog_13_method_56_code 10 = .ok (.iload_n 3, 1) := by decide +kernel
theorem d_Mo_copy_11 : decode prog_13_method_56_code 11 = .ok (.iaload, 1) := by decide +kernel
theorem d_Mo_copy_12 : decode prog_13_method_56_code 12 = .ok (.iastore, 1) := by decide +kernel
theorem d_Mo_copy_13 : decode prog_13_method_56_code 13 = .ok (.iinc 3 1, 3) := by decide +kernel
theorem d_Mo_copy_16 : decode prog_13_method_56_code 16 = .ok (.goto (-14), 3) := by decide +kernel
theorem d_Mo_copy_19 : decode prog_13_method_56_code 19 = .ok (.return_, 1) := by decide +kernel
theorem d_Mo_run_0 : decode prog_13_method_72_code 0 = .ok (.aload_n 0, 1) := by decide +kernel
theorem d_Mo_run_1 : decode prog_13_method_72_code 1 = .ok (.iload_n 1, 1) := by decide +kernel
theorem d_Mo_run_2 : decode prog_13_method_72_code 2 = .ok (.iconst 1, 1) := by decide +kernel
theorem d_Mo_run_3 : decode prog_13_method_72_code 3 = .ok (.if_icmp .lt 10, 3) := by decide +kernel
theorem d_Mo_run_6 : decode prog_13_method_72_code 6 = .ok (.iload_n 1, 1) := by decide +kernel
theorem d_Mo_run_7 : decode prog_13_method_72_code 7 = .ok (.sipush 300, 3) := by decide +kernel
theorem d_Mo_run_10 : decode prog_13_method_72_code 10 = .ok (.if_icmp .le 7, 3) := by decide +kernel
theorem d_Mo_run_13 : decode prog_13_method_72_code 13 = .ok (.iconst 1, 1) := by decide +kernel
theorem d_Mo_run_14 : decode prog_13_method_72_code 14 = .ok (.goto 30, 3) := by decide +kernel
theorem d_Mo_run_17 : decode prog_13_method_72_code 17 = .ok (.aload_n 0, 1) := by decide +kernel
theorem d_Mo_run_18 : decode prog_13_method_72_code 18 = .ok (.getfield 377, 3) := by decide +kernel
theorem d_Mo_run_21 : decode prog_13_method_72_code 21 = .ok (.ifCond .eq 18, 3) := by decide +kernel
theorem d_Mo_run_24 : decode prog_13_method_72_code 24 = .ok (.aload_n 0, 1) := by decide +kernel
theorem d_Mo_run_25 : decode prog_13_method_72_code 25 = .ok (.getfield 380, 3) := by decide +kernel
theorem d_Mo_run_28 : decode prog_13_method_72_code 28 = .ok (.ifCond .eq 15, 3) := by decide +kernel
theorem d_Mo_run_31 : decode prog_13_method_72_code 31 = .ok (.aload_n 0, 1) := by decide +kernel
theorem d_Mo_run_32 : decode prog_13_method_72_code 32 = .ok (.getfield 380, 3) := by decide +kernel
theorem d_Mo_run_35 : decode prog_13_method_72_code 35 = .ok (.iconst 4, 1) := by decide +kernel
theorem d_Mo_run_36 : decode prog_13_method_72_code 36 = .ok (.if_icmp .eq 7, 3) := by decide +kernel
theorem d_Mo_run_39 : decode prog_13_method_72_code 39 = .ok (.iconst 2, 1) := by decide +kernel
theorem d_Mo_run_40 : decode prog_13_method_72_code 40 = .ok (.goto 4, 3) := by decide +kernel
theorem d_Mo_run_43 : decode prog_13_method_72_code 43 = .ok (.iconst 0, 1) := by decide +kernel
theorem d_Mo_run_44 : decode prog_13_method_72_code 44 = .ok (.putfield 73, 3) := by decide +kernel
theorem d_Mo_run_47 : decode prog_13_method_72_code 47 = .ok (.aload_n 0, 1) := by decide +kernel
theorem d_Mo_run_48 : decode prog_13_method_72_code 48 = .ok (.getfield 73, 3) := by decide +kernel
theorem d_Mo_run_51 : decode prog_13_method_72_code 51 = .ok (.ifCond .le 5, 3) := by decide +kernel
theorem d_Mo_run_54 : decode prog_13_method_72_code 54 = .ok (.iconst 0, 1) := by decide +kernel
theorem d_Mo_run_55 : decode prog_13_method_72_code 55 = .ok (.ireturn, 1) := by decide +kernel
theorem d_Mo_run_56 : decode prog_13_method_72_code 56 = .ok (.aload_n 0, 1) := by decide +kernel
theorem d_Mo_run_57 : decode prog_13_method_72_code 57 = .ok (.iconst 0, 1) := by decide +kernel
theorem d_Mo_run_58 : decode prog_13_method_72_code 58 = .ok (.putfield 380, 3) := by decide +kernel
theorem d_Mo_run_61 : decode prog_13_method_72_code 61 = .ok (.iconst 0, 1) := by decide +kernel
theorem d_Mo_run_62 : decode prog_13_method_72_code 62 = .ok (.istore_n 2, 1) := by decide +kernel
theorem d_Mo_run_63 : decode prog_13_method_72_code 63 = .ok (.iload_n 2, 1) := by decide +kernel
theorem d_Mo_run_64 : decode prog_13_method_72_code 64 = .ok (.iload_n 1, 1) := by decide +kernel
theorem d_Mo_run_65 : decode prog_13_method_72_code 65 = .ok (.if_icmp .ge 50, 3) := by decide +kernel
theorem d_Mo_run_68 : decode prog_13_method_72_code 68 = .ok (.aload_n 0, 1) := by decide +kernel
theorem d_Mo_run_69 : decode prog_13_method_72_code 69 = .ok (.getfield 380, 3) := by decide +kernel
theorem d_Mo_run_72 : decode prog_13_method_72_code 72 = .ok (.ifCond .ne 43, 3) := by decide +kernel
theorem d_Mo_run_75 : decode prog_13_method_72_code 75 = .ok (.aload_n 0, 1) := by decide +kernel
theorem d_Mo_run_76 : decode prog_13_method_72_code 76 = .ok (.invokevirtual 383, 3) := by decide +kernel
theorem d_Mo_run_79 : decode prog_13_method_72_code 79 = .ok (.aload_n 0, 1) := by decide +kernel
theorem d_Mo_run_80 : decode prog_13_method_72_code 80 = .ok (.aload_n 0, 1) := by decide +kernel
theorem d_Mo_run_81 : decode prog_13_method_72_code 81 = .ok (.getfield 77, 3) := by decide +kernel
theorem d_Mo_run_84 : decode prog_13_method_72_code 84 = .ok (.ifCond .le 10, 3) := by decide +kernel
theorem d_Mo_run_87 : decode prog_13_method_72_code 87 = .ok (.aload_n 0, 1) := by decide +kernel
theorem d_Mo_run_88 : decode prog_13_method_72_code 88 = .ok (.getfield 77, 3) := by decide +kernel
theorem d_Mo_run_91 : decode prog_13_method_72_code 91 = .ok (.goto 15, 3) := by decide +kernel
theorem d_Mo_run_94 : decode prog_13_method_72_code 94 = .ok (.aload_n 0, 1) := by decide +kernel
theorem d_Mo_run_95 : decode prog_13_method_72_code 95 = .ok (.getfield 266, 3) := by decide +kernel
theorem d_Mo_run_98 : decode prog_13_method_72_code 98 = .ok (.ifCond .eq 7, 3) := by decide +kernel
theorem d_Mo_run_101 : decode prog_13_method_72_code 101 = .ok (.iconst 5, 1) := by decide +kernel
theorem d_Mo_run_102 : decode prog_13_method_72_code 102 = .ok (.goto 4, 3) := by decide +kernel
theorem d_Mo_run_105 : decode prog_13_method_72_code 105 = .ok (.iconst 0, 1) := by decide +kernel
theorem d_Mo_run_106 : decode prog_13_method_72_code 106 = .ok (.putfield 380, 3) := by decide +kernel
theorem d_Mo_run_109 : decode prog_13_method_72_code 109 = .ok (.iinc 2 1, 3) := by decide +kernel
theorem d_Mo_run_112 : decode prog_13_method_72_code 112 = .ok (.goto (-49), 3) := by decide +kernel
theorem d_Mo_run_115 : decode prog_13_method_72_code 115 = .ok (.aload_n 0, 1) := by decide +kernel
theorem d_Mo_run_116 : decode prog_13_method_72_code 116 = .ok (.getfield 380, 3) := by decide +kernel
theorem d_Mo_run_119 : decode prog_13_method_72_code 119 = .ok (.ireturn, 1) := by decide +kernel
theorem d_Mo_step_0 : decode prog_13_method_71_code 0 = .ok (.aload_n 0, 1) := by decide +kernel
theorem d_Mo_step_1 : decode prog_13_method_71_code 1 = .ok (.iconst 0, 1) := by decide +kernel
theorem d_Mo_step_2 : decode prog_13_method_71_code 2 = .ok (.putfield 77, 3) := by decide +kernel
theorem d_Mo_step_5 : decode prog_13_method_71_code 5 = .ok (.aload_n 0, 1) := by decide +kernel
theorem d_Mo_step_6 : decode prog_13_method_71_code 6 = .ok (.iconst 0, 1) := by decide +kernel
theorem d_Mo_step_7 : decode prog_13_method_71_code 7 = .ok (.putfield 266, 3) := by decide +kernel
theorem d_Mo_step_10 : decode prog_13_method_71_code 10 = .ok (.aload_n 0, 1) := by decide +kernel
theorem d_Mo_step_11 : decode prog_13_method_71_code 11 = .ok (.aload_n 0, 1) := by decide +kernel
theorem d_Mo_step_12 : decode prog_13_method_71_code 12 = .ok (.getfield 346, 3) := by decide +kernel
theorem d_Mo_step_15 : decode prog_13_method_71_code 15 = .ok (.putfield 175, 3) := by decide +kernel
theorem d_Mo_step_18 : decode prog_13_method_71_code 18 = .ok (.aload_n 0, 1) := by decide +kernel
theorem d_Mo_step_19 : decode prog_13_method_71_code 19 = .ok (.invokevirtual 185, 3) := by decide +kernel
theorem d_Mo_step_22 : decode prog_13_method_71_code 22 = .ok (.istore_n 1, 1) := by decide +kernel
theorem d_Mo_step_23 : decode prog_13_method_71_code 23 = .ok (.aload_n 0, 1) := by decide +kernel
theorem d_Mo_step_24 : decode prog_13_method_71_code 24 = .ok (.iload_n 1, 1) := by decide +kernel
theorem d_Mo_step_25 : decode prog_13_method_71_code 25 = .ok (.sipush 228, 3) := by decide +kernel
theorem d_Mo_step_28 : decode prog_13_method_71_code 28 = .ok (.if_icmp .ne 10, 3) := by decide +kernel
theorem d_Mo_step_31 : decode prog_13_method_71_code 31 = .ok (.aload_n 0, 1) := by decide +kernel
theorem d_Mo_step_32 : decode prog_13_method_71_code 32 = .ok (.getfield 312, 3) := by decide +kernel
theorem d_Mo_step_35 : decode prog_13_method_71_code 35 = .ok (.ifCond .eq 7, 3) := by decide +kernel
theorem d_Mo_step_38 : decode prog_13_method_71_code 38 = .ok (.iconst 1, 1) := by decide +kernel
theorem d_Mo_step_39 : decode prog_13_method_71_code 39 = .ok (.goto 4, 3) := by decide +kernel
theorem d_Mo_step_42 : decode prog_13_method_71_code 42 = .ok (.iconst 0, 1) := by decide +kernel
theorem d_Mo_step_43 : decode prog_13_method_71_code 43 = .ok (.iconst 4, 1) := by decide +kernel
theorem d_Mo_step_44 : decode prog_13_method_71_code 44 = .ok (.invokevirtual 82, 3) := by decide +kernel
theorem d_Mo_step_47 : decode prog_13_method_71_code 47 = .ok (.ifCond .ne 4, 3) := by decide +kernel
theorem d_Mo_step_50 : decode prog_13_method_71_code 50 = .ok (.return_, 1) := by decide +kernel
theorem d_Mo_step_51 : decode prog_13_method_71_code 51 = .ok (.aload_n 0, 1) := by decide +kernel
theorem d_Mo_step_52 : decode prog_13_method_71_code 52 = .ok (.iload_n 1, 1) := by decide +kernel
theorem d_Mo_step_53 : decode prog_13_method_71_code 53 = .ok (.invokevirtual 349, 3) := by decide +kernel
theorem d_Mo_step_56 : decode prog_13_method_71_code 56 = .ok (.aload_n 0, 1) := by decide +kernel
theorem d_Mo_step_57 : decode prog_13_method_71_code 57 = .ok (.getfield 77, 3) := by decide +kernel
theorem d_Mo_step_60 : decode prog_13_method_71_code 60 = .ok (.ifCond .le 4, 3) := by decide +kernel
theorem d_Mo_step_63 : decode prog_13_method_71_code 63 = .ok (.return_, 1) := by decide +kernel
theorem d_Mo_step_64 : decode prog_13_method_71_code 64 = .ok (.iload_n 1, 1) := by decide +kernel
theorem d_Mo_step_65 : decode prog_13_method_71_code 65 = .ok (.invokestatic 352, 3) := by decide +kernel
theorem d_Mo_step_68 : decode prog_13_method_71_code 68 = .ok (.istore_n 2, 1) := by decide +kernel
theorem d_Mo_step_69 : decode prog_13_method_71_code 69 = .ok (.iload_n 2, 1) := by decide +kernel
theorem d_Mo_step_70 : decode prog_13_method_71_code 70 = .ok (.ifCond .eq 8, 3) := by decide +kernel
theorem d_Mo_step_73 : decode prog_13_method_71_code 73 = .ok (.iload_n 2, 1) := by decide +kernel
theorem d_Mo_step_74 : decode prog_13_method_71_code 74 = .ok (.iconst 3, 1) := by decide +kernel
theorem d_Mo_step_75 : decode prog_13_method_71_code 75 = .ok (.if_icmp .ne 10, 3) := by decide +kernel
theorem d_Mo_step_78 : decode prog_13_method_71_code 78 = .ok (.iload_n 1, 1) := by decide +kernel
theorem d_Mo_step_79 : decode prog_13_method_71_code 79 = .ok (.bipush 32, 2) := by decide +kernel
theorem d_Mo_step_81 : decode prog_13_method_71_code 81 = .ok (.irem, 1) := by decide +kernel
theorem d_Mo_step_82 : decode prog_13_method_71_code 82 = .ok (.goto 7, 3) := by decide +kernel
theorem d_Mo_step_85 : decode prog_13_method_71_code 85 = .ok (.iload_n 1, 1) := by decide +kernel
theorem d_Mo_step_86 : decode prog_13_method_71_code 86 = .ok (.bipush 16, 2) := by decide +kernel
theorem d_Mo_step_88 : decode prog_13_method_71_code 88 = .ok (.irem, 1) := by decide +kernel
theorem d_Mo_step_89 : decode prog_13_method_71_code 89 = .ok (.istore_n 3, 1) := by decide +kernel
theorem d_Mo_step_90 : decode prog_13_method_71_code 90 = .ok (.aload_n 0, 1) := by decide +kernel
theorem d_Mo_step_91 : decode prog_13_method_71_code 91 = .ok (.aload_n 0, 1) := by decide +kernel
theorem d_Mo_step_92 : decode prog_13_method_71_code 92 = .ok (.getfield 191, 3) := by decide +kernel
theorem d_Mo_step_95 : decode prog_13_method_71_code 95 = .ok (.iload_n 2, 1) := by decide +kernel
theorem d_Mo_step_96 : decode prog_13_method_71_code 96 = .ok (.iload_n 3, 1) := by decide +kernel
theorem d_Mo_step_97 : decode prog_13_method_71_code 97 = .ok (.invokestatic 355, 3) := by decide +kernel
theorem d_Mo_step_100 : decode prog_13_method_71_code 100 = .ok (.if_icmp .lt 7, 3) := by decide +kernel
theorem d_Mo_step_103 : decode prog_13_method_71_code 103 = .ok (.iconst 1, 1) := by decide +kernel
theorem d_Mo_step_104 : decode prog_13_method_71_code 104 = .ok (.goto 4, 3) := by decide +kernel
theorem d_Mo_step_107 : decode prog_13_method_71_code 107 = .ok (.iconst 0, 1) := by decide +kernel
theorem d_Mo_step_108 : decode prog_13_method_71_code 108 = .ok (.iconst 1, 1) := by decide +kernel
theorem d_Mo_step_109 : decode prog_13_method_71_code 109 = .ok (.invokevirtual 82, 3) := by decide +kernel
theorem d_Mo_step_112 : decode prog_13_method_71_code 112 = .ok (.ifCond .ne 4, 3) := by decide +kernel
theorem d_Mo_step_115 : decode prog_13_method_71_code 115 = .ok (.return_, 1) := by decide +kernel
theorem d_Mo_step_116 : decode prog_13_method_71_code 116 = .ok (.aload_n 0, 1) := by decide +kernel
theorem d_Mo_step_117 : decode prog_13_method_71_code 117 = .ok (.iload_n 2, 1) := by decide +kernel
theorem d_Mo_step_118 : decode prog_13_method_71_code 118 = .ok (.iload_n 3, 1) := by decide +kernel
theorem d_Mo_step_119 : decode prog_13_method_71_code 119 = .ok (.invokevirtual 358, 3) := by decide +kernel
theorem d_Mo_step_122 : decode prog_13_method_71_code 122 = .ok (.aload_n 0, 1) := by decide +kernel
theorem d_Mo_step_123 : decode prog_13_method_71_code 123 = .ok (.getfield 77, 3) := by decide +kernel
theorem d_Mo_step_126 : decode prog_13_method_71_code 126 = .ok (.ifCond .le 4, 3) := by decide +kernel
theorem d_Mo_step_129 : decode prog_13_method_71_code 129 = .ok (.return_, 1) := by decide +kernel
theorem d_Mo_step_130 : decode prog_13_method_71_code 130 = .ok (.aload_n 0, 1) := by decide +kernel
theorem d_Mo_step_131 : decode prog_13_method_71_code 131 = .ok (.getfield 191, 3) := by decide +kernel
theorem d_Mo_step_134 : decode prog_13_method_71_code 134 = .ok (.ifCond .le 12, 3) := by decide +kernel
theorem d_Mo_step_137 : decode prog_13_method_71_code 137 = .ok (.aload_n 0, 1) := by decide +kernel
theorem d_Mo_step_138 : decode prog_13_method_71_code 138 = .ok (.getfield 61, 3) := by decide +kernel
theorem d_Mo_step_141 : decode prog_13_method_71_code 141 = .ok (.iconst 0, 1) := by decide +kernel
theorem d_Mo_step_142 : decode prog_13_method_71_code 142 = .ok (.iaload, 1) := by decide +kernel
theorem d_Mo_step_143 : decode prog_13_method_71_code 143 = .ok (.goto 4, 3) := by decide +kernel
theorem d_Mo_step_146 : decode prog_13_method_71_code 146 = .ok (.iconst 0, 1) := by decide +kernel
theorem d_Mo_step_147 : decode prog_13_method_71_code 147 = .ok (.istore 4, 2) := by decide +kernel
theorem d_Mo_step_149 : decode prog_13_method_71_code 149 = .ok (.aload_n 0, 1) := by decide +kernel
theorem d_Mo_step_150 : decode prog_13_method_71_code 150 = .ok (.getfield 191, 3) := by decide +kernel
theorem d_Mo_step_153 : decode prog_13_method_71_code 153 = .ok (.iconst 1, 1) := by decide +kernel
theorem d_Mo_step_154 : decode prog_13_method_71_code 154 = .ok (.if_icmp .le 12, 3) := by decide +kernel
theorem d_Mo_step_157 : decode prog_13_method_71_code 157 = .ok (.aload_n 0, 1) := by decide +kernel
theorem d_Mo_step_158 : decode prog_13_method_71_code 158 = .ok (.getfield 61, 3) := by decide +kernel
theorem d_Mo_step_161 : decode prog_13_method_71_code 161 = .ok (.iconst 1, 1) := by decide +kernel
theorem d_Mo_step_162 : decode prog_13_method_71_code 162 = .ok (.iaload, 1) := by decide +kernel
theorem d_Mo_step_163 : decode prog_13_method_71_code 163 = .ok (.goto 4, 3) := by decide +kernel
theorem d_Mo_step_166 : decode prog_13_method_71_code 166 = .ok (.iconst 0, 1) := by decide +kernel
theorem d_Mo_step_167 : decode prog_13_method_71_code 167 = .ok (.istore 5, 2) := by decide +kernel
theorem d_Mo_step_169 : decode prog_13_method_71_code 169 = .ok (.iload_n 2, 1) := by decide +kernel
theorem d_Mo_step_170 : decode prog_13_method_71_code 170 = .ok (.ifCond .ne 15, 3) := by decide +kernel
theorem d_Mo_step_173 : decode prog_13_method_71_code 173 = .ok (.aload_n 0, 1) := by decide +kernel
theorem d_Mo_step_174 : decode prog_13_method_71_code 174 = .ok (.iload_n 3, 1) := by decide +kernel
theorem d_Mo_step_175 : decode prog_13_method_71_code 175 = .ok (.iload 4, 2) := by decide +kernel
theorem d_Mo_step_177 : decode prog_13_method_71_code 177 = .ok (.iload 5, 2) := by decide +kernel
theorem d_Mo_step_179 : decode prog_13_method_71_code 179 = .ok (.invokevirtual 361, 3) := by decide +kernel
theorem d_Mo_step_182 : decode prog_13_method_71_code 182 = .ok (.goto 58, 3) := by decide +kernel
theorem d_Mo_step_185 : decode prog_13_method_71_code 185 = .ok (.iload_n 2, 1) := by decide +kernel
theorem d_Mo_step_186 : decode prog_13_method_71_code 186 = .ok (.iconst 1, 1) := by decide +kernel
theorem d_Mo_step_187 : decode prog_13_method_71_code 187 = .ok (.if_icmp .ne 13, 3) := by decide +kernel
theorem d_Mo_step_190 : decode prog_13_method_71_code 190 = .ok (.aload_n 0, 1) := by decide +kernel
theorem d_Mo_step_191 : decode prog_13_method_71_code 191 = .ok (.iload_n 3, 1) := by decide +kernel
theorem d_Mo_step_192 : decode prog_13_method_71_code 192 = .ok (.iload 4, 2) := by decide +kernel
theorem d_Mo_step_194 : decode prog_13_method_71_code 194 = .ok (.invokevirtual 364, 3) := by decide +kernel
theorem d_Mo_step_197 : decode prog_13_method_71_code 197 = .ok (.goto 43, 3) := by decide +kernel
theorem d_Mo_step_200 : decode prog_13_method_71_code 200 = .ok (.iload_n 2, 1) := by decide +kernel
theorem d_Mo_step_201 : decode prog_13_method_71_code 201 = .ok (.iconst 2, 1) := by decide +kernel
theorem d_Mo_step_202 : decode prog_13_method_71_code 202 = .ok (.if_icmp .ne 11, 3) := by decide +kernel
theorem d_Mo_step_205 : decode prog_13_method_71_code 205 = .ok (.aload_n 0, 1) := by decide +kernel
theorem d_Mo_step_206 : decode prog_13_method_71_code 206 = .ok (.iload_n 3, 1) := by decide +kernel
theorem d_Mo_step_207 : decode prog_13_method_71_code 207 = .ok (.invokevirtual 367, 3) := by decide +kernel
theorem d_Mo_step_210 : decode prog_13_method_71_code 210 = .ok (.goto 30, 3) := by decide +kernel
theorem d_Mo_step_213 : decode prog_13_method_71_code 213 = .ok (.aload_n 0, 1) := by decide +kernel
theorem d_Mo_step_214 : decode prog_13_method_71_code 214 = .ok (.iload_n 3, 1) := by decide +kernel
theorem d_Mo_step_215 : decode prog_13_method_71_code 215 = .ok (.iload 4, 2) := by decide +kernel
theorem d_Mo_step_217 : decode prog_13_method_71_code 217 = .ok (.iload 5, 2) := by decide +kernel
theorem d_Mo_step_219 : decode prog_13_method_71_code 219 = .ok (.aload_n 0, 1) := by decide +kernel
theorem d_Mo_step_220 : decode prog_13_method_71_code 220 = .ok (.getfield 191, 3) := by decide +kernel
theorem d_Mo_step_223 : decode prog_13_method_71_code 223 = .ok (.iconst 2, 1) := by decide +kernel
theorem d_Mo_step_224 : decode prog_13_method_71_code 224 = .ok (.if_icmp .le 12, 3) := by decide +kernel
theorem d_Mo_step_227 : decode prog_13_method_71_code 227 = .ok (.aload_n 0, 1) := by decide +kernel
theorem d_Mo_step_228 : decode prog_13_method_71_code 228 = .ok (.getfield 61, 3) := by decide +kernel
theorem d_Mo_step_231 : decode prog_13_method_71_code 231 = .ok (.iconst 2, 1) := by decide +kernel
theorem d_Mo_step_232 : decode prog_13_method_71_code 232 = .ok (.iaload, 1) := by decide +kernel
theorem d_Mo_step_233 : decode prog_13_method_71_code 233 = .ok (.goto 4, 3) := by decide +kernel
theorem d_Mo_step_236 : decode prog_13_method_71_code 236 = .ok (.iconst 0, 1) := by decide +kernel
theorem d_Mo_step_237 : decode prog_13_method_71_code 237 = .ok (.invokevirtual 370, 3) := by decide +kernel
theorem d_Mo_step_240 : decode prog_13_method_71_code 240 = .ok (.aload_n 0, 1) := by decide +kernel
theorem d_Mo_step_241 : decode prog_13_method_71_code 241 = .ok (.getfield 77, 3) := by decide +kernel
theorem d_Mo_step_244 : decode prog_13_method_71_code 244 = .ok (.ifCond .le 4, 3) := by decide +kernel
theorem d_Mo_step_247 : decode prog_13_method_71_code 247 = .ok (.return_, 1) := by decide +kernel
theorem d_Mo_step_248 : decode prog_13_method_71_code 248 = .ok (.aload_n 0, 1) := by decide +kernel
theorem d_Mo_step_249 : decode prog_13_method_71_code 249 = .ok (.aload_n 0, 1) := by decide +kernel
theorem d_Mo_step_250 : decode prog_13_method_71_code 250 = .ok (.getfield 175, 3) := by decide +kernel
theorem d_Mo_step_253 : decode prog_13_method_71_code 253 = .ok (.putfield 346, 3) := by decide +kernel
theorem d_Mo_step_256 : decode prog_13_method_71_code 256 = .ok (.aload_n 0, 1) := by decide +kernel
theorem d_Mo_step_257 : decode prog_13_method_71_code 257 = .ok (.dup, 1) := by decide +kernel
theorem d_Mo_step_258 : decode prog_13_method_71_code 258 = .ok (.getfield 374, 3) := by decide +kernel
theorem d_Mo_step_261 : decode prog_13_method_71_code 261 = .ok (.iconst 1, 1) := by decide +kernel
theorem d_Mo_step_262 : decode prog_13_method_71_code 262 = .ok (.iadd, 1) := by decide +kernel
theorem d_Mo_step_263 : decode prog_13_method_71_code 263 = .ok (.putfield 374, 3) := by decide +kernel
theorem d_Mo_step_266 : decode prog_13_method_71_code 266 = .ok (.return_, 1) := by decide +kernel
theorem d_Mo_code_0 : decode prog_13_method_35_code 0 = .ok (.aload_n 0, 1) := by decide +kernel
theorem d_Mo_code_1 : decode prog_13_method_35_code 1 = .ok (.dup, 1) := by decide +kernel
theorem d_Mo_code_2 : decode prog_13_method_35_code 2 = .ok (.getfield 175, 3) := by decide +kernel
theorem d_Mo_code_5 : decode prog_13_method_35_code 5 = .ok (.iconst 1, 1) := by decide +kernel
theorem d_Mo_code_6 : decode prog_13_method_35_code 6 = .ok (.iadd, 1) := by decide +kernel
theorem d_Mo_code_7 : decode prog_13_method_35_code 7 = .ok (.putfield 175, 3) := by decide +kernel
theorem d_Mo_code_10 : decode prog_13_method_35_code 10 = .ok (.aload_n 0, 1) := by decide +kernel
theorem d_Mo_code_11 : decode prog_13_method_35_code 11 = .ok (.aload_n 0, 1) := by decide +kernel
theorem d_Mo_code_12 : decode prog_13_method_35_code 12 = .ok (.getfield 175, 3) := by decide +kernel
theorem d_Mo_code_15 : decode prog_13_method_35_code 15 = .ok (.iconst 1, 1) := by decide +kernel
theorem d_Mo_code_16 : decode prog_13_method_35_code 16 = .ok (.isub, 1) := by decide +kernel
theorem d_Mo_code_17 : decode prog_13_method_35_code 17 = .ok (.invokevirtual 86, 3) := by decide +kernel
theorem d_Mo_code_20 : decode prog_13_method_35_code 20 = .ok (.ireturn, 1) := by decide +kernel
theorem d_Mo_byteAt_0 : decode prog_13_method_5_code 0 = .ok (.aload_n 0, 1) := by decide +kernel
theorem d_Mo_byteAt_1 : decode prog_13_method_5_code 1 = .ok (.iload_n 1, 1) := by decide +kernel
theorem d_Mo_byteAt_2 : decode prog_13_method_5_code 2 = .ok (.ifCond .lt 14, 3) := by decide +kernel
theorem d_Mo_byteAt_5 : decode prog_13_method_5_code 5 = .ok (.iload_n 1, 1) := by decide +kernel
theorem d_Mo_byteAt_6 : decode prog_13_method_5_code 6 = .ok (.sipush 512, 3) := by decide +kernel
theorem d_Mo_byteAt_9 : decode prog_13_method_5_code 9 = .ok (.if_icmp .ge 7, 3) := by decide +kernel
theorem d_Mo_byteAt_12 : decode prog_13_method_5_code 12 = .ok (.iconst 1, 1) := by decide +kernel
theorem d_Mo_byteAt_13 : decode prog_13_method_5_code 13 = .ok (.goto 4, 3) := by decide +kernel
theorem d_Mo_byteAt_16 : decode prog_13_method_5_code 16 = .ok (.iconst 0, 1) := by decide +kernel
theorem d_Mo_byteAt_17 : decode prog_13_method_5_code 17 = .ok (.iconst 1, 1) := by decide +kernel
theorem d_Mo_byteAt_18 : decode prog_13_method_5_code 18 = .ok (.invokevirtual 82, 3) := by decide +kernel
theorem d_Mo_byteAt_21 : decode prog_13_method_5_code 21 = .ok (.ifCond .eq 12, 3) := by decide +kernel
theorem d_Mo_byteAt_24 : decode prog_13_method_5_code 24 = .ok (.aload_n 0, 1) := by decide +kernel
theorem d_Mo_byteAt_25 : decode prog_13_method_5_code 25 = .ok (.getfield 7, 3) := by decide +kernel
theorem d_Mo_byteAt_28 : decode prog_13_method_5_code 28 = .ok (.iload_n 1, 1) := by decide +kernel
theorem d_Mo_byteAt_29 : decode prog_13_method_5_code 29 = .ok (.iaload, 1) := by decide +kernel
theorem d_Mo_byteAt_30 : decode prog_13_method_5_code 30 = .ok (.goto 4, 3) := by decide +kernel
theorem d_Mo_byteAt_33 : decode prog_13_method_5_code 33 = .ok (.iconst 0, 1) := by decide +kernel
theorem d_Mo_byteAt_34 : decode prog_13_method_5_code 34 = .ok (.ireturn, 1) := by decide +kernel
theorem d_Mo_good_0 : decode prog_13_method_3_code 0 = .ok (.aload_n 0, 1) := by decide +kernel
theorem d_Mo_good_1 : decode prog_13_method_3_code 1 = .ok (.getfield 77, 3) := by decide +kernel
theorem d_Mo_good_4 : decode prog_13_method_3_code 4 = .ok (.ifCond .ne 12, 3) := by decide +kernel
theorem d_Mo_good_7 : decode prog_13_method_3_code 7 = .ok (.iload_n 1, 1) := by decide +kernel
theorem d_Mo_good_8 : decode prog_13_method_3_code 8 = .ok (.ifCond .ne 8, 3) := by decide +kernel
theorem d_Mo_good_11 : decode prog_13_method_3_code 11 = .ok (.aload_n 0, 1) := by decide +kernel
theorem d_Mo_good_12 : decode prog_13_method_3_code 12 = .ok (.iload_n 2, 1) := by decide +kernel
theorem d_Mo_good_13 : decode prog_13_method_3_code 13 = .ok (.putfield 77, 3) := by decide +kernel
theorem d_Mo_good_16 : decode prog_13_method_3_code 16 = .ok (.aload_n 0, 1) := by decide +kernel
theorem d_Mo_good_17 : decode prog_13_method_3_code 17 = .ok (.getfield 77, 3) := by decide +kernel
theorem d_Mo_good_20 : decode prog_13_method_3_code 20 = .ok (.ifCond .ne 7, 3) := by decide +kernel
theorem d_Mo_good_23 : decode prog_13_method_3_code 23 = .ok (.iconst 1, 1) := by decide +kernel
theorem d_Mo_good_24 : decode prog_13_method_3_code 24 = .ok (.goto 4, 3) := by decide +kernel
theorem d_Mo_good_27 : decode prog_13_method_3_code 27 = .ok (.iconst 0, 1) := by decide +kernel
theorem d_Mo_good_28 : decode prog_13_method_3_code 28 = .ok (.ireturn, 1) := by decide +kernel
theorem d_Mo_readNumbers_0 : decode prog_13_method_38_code 0 = .ok (.aload_n 0, 1) := by decide +kernel
theorem d_Mo_readNumbers_1 : decode prog_13_method_38_code 1 = .ok (.iconst 0, 1) := by decide +kernel
theorem d_Mo_readNumbers_2 : decode prog_13_method_38_code 2 = .ok (.putfield 191, 3) := by decide +kernel
theorem d_Mo_readNumbers_5 : decode prog_13_method_38_code 5 = .ok (.iload_n 1, 1) := by decide +kernel
theorem d_Mo_readNumbers_6 : decode prog_13_method_38_code 6 = .ok (.sipush 128, 3) := by decide +kernel
theorem d_Mo_readNumbers_9 : decode prog_13_method_38_code 9 = .ok (.if_icmp .ge 37, 3) := by decide +kernel
theorem d_Mo_readNumbers_12 : decode prog_13_method_38_code 12 = .ok (.aload_n 0, 1) := by decide +kernel
theorem d_Mo_readNumbers_13 : decode prog_13_method_38_code 13 = .ok (.iload_n 1, 1) := by decide +kernel
theorem d_Mo_readNumbers_14 : decode prog_13_method_38_code 14 = .ok (.bipush 64, 2) := by decide +kernel
theorem d_Mo_readNumbers_16 : decode prog_13_method_38_code 16 = .ok (.idiv, 1) := by decide +kernel
theorem d_Mo_readNumbers_17 : decode prog_13_method_38_code 17 = .ok (.iconst 2, 1) := by decide +kernel
theorem d_Mo_readNumbers_18 : decode prog_13_method_38_code 18 = .ok (.irem, 1) := by decide +kernel
theorem d_Mo_readNumbers_19 : decode prog_13_method_38_code 19 = .ok (.iconst 1, 1) := by decide +kernel
theorem d_Mo_readNumbers_20 : decode prog_13_method_38_code 20 = .ok (.iadd, 1) := by decide +kernel
theorem d_Mo_readNumbers_21 : decode prog_13_method_38_code 21 = .ok (.invokevirtual 194, 3) := by decide +kernel
theorem d_Mo_readNumbers_24 : decode prog_13_method_38_code 24 = .ok (.aload_n 0, 1) := by decide +kernel
theorem d_Mo_readNumbers_25 : decode prog_13_method_38_code 25 = .ok (.getfield 77, 3) := by decide +kernel
theorem d_Mo_readNumbers_28 : decode prog_13_method_38_code 28 = .ok (.ifCond .ne 91, 3) := by decide +kernel
theorem d_Mo_readNumbers_31 : decode prog_13_method_38_code 31 = .ok (.aload_n 0, 1) := by decide +kernel
theorem d_Mo_readNumbers_32 : decode prog_13_method_38_code 32 = .ok (.iload_n 1, 1) := by decide +kernel
theorem d_Mo_readNumbers_33 : decode prog_13_method_38_code 33 = .ok (.bipush 32, 2) := by decide +kernel
theorem d_Mo_readNumbers_35 : decode prog_13_method_38_code 35 = .ok (.idiv, 1) := by decide +kernel
theorem d_Mo_readNumbers_36 : decode prog_13_method_38_code 36 = .ok (.iconst 2, 1) := by decide +kernel
theorem d_Mo_readNumbers_37 : decode prog_13_method_38_code 37 = .ok (.irem, 1) := by decide +kernel
theorem d_Mo_readNumbers_38 : decode prog_13_method_38_code 38 = .ok (.iconst 1, 1) := by decide +kernel
theorem d_Mo_readNumbers_39 : decode prog_13_method_38_code 39 = .ok (.iadd, 1) := by decide +kernel
theorem d_Mo_readNumbers_40 : decode prog_13_method_38_code 40 = .ok (.invokevirtual 194, 3) := by decide +kernel
theorem d_Mo_readNumbers_43 : decode prog_13_method_38_code 43 = .ok (.goto 76, 3) := by decide +kernel
theorem d_Mo_readNumbers_46 : decode prog_13_method_38_code 46 = .ok (.iload_n 1, 1) := by decide +kernel
theorem d_Mo_readNumbers_47 : decode prog_13_method_38_code 47 = .ok (.sipush 176, 3) := by decide +kernel
theorem d_Mo_readNumbers_50 : decode prog_13_method_38_code 50 = .ok (.if_icmp .ge 16, 3) := by decide +kernel
theorem d_Mo_readNumbers_53 : decode prog_13_method_38_code 53 = .ok (.aload_n 0, 1) := by decide +kernel
theorem d_Mo_readNumbers_54 : decode prog_13_method_38_code 54 = .ok (.iload_n 1, 1) := by decide +kernel
theorem d_Mo_readNumbers_55 : decode prog_13_method_38_code 55 = .ok (.bipush 16, 2) := by decide +kernel
theorem d_Mo_readNumbers_57 : decode prog_13_method_38_code 57 = .ok (.idiv, 1) := by decide +kernel
theorem d_Mo_readNumbers_58 : decode prog_13_method_38_code 58 = .ok (.iconst 4, 1) := by decide +kernel
theorem d_Mo_readNumbers_59 : decode prog_13_method_38_code 59 = .ok (.irem, 1) := by decide +kernel
theorem d_Mo_readNumbers_60 : decode prog_13_method_38_code 60 = .ok (.invokevirtual 194, 3) := by decide +kernel
theorem d_Mo_readNumbers_63 : decode prog_13_method_38_code 63 = .ok (.goto 56, 3) := by decide +kernel
theorem d_Mo_readNumbers_66 : decode prog_13_method_38_code 66 = .ok (.iload_n 1, 1) := by decide +kernel
theorem d_Mo_readNumbers_67 : decode prog_13_method_38_code 67 = .ok (.sipush 191, 3) := by decide +kernel
theorem d_Mo_readNumbers_70 : decode prog_13_method_38_code 70 = .ok (.if_icmp .le 49, 3) := by decide +kernel
theorem d_Mo_readNumbers_73 : decode prog_13_method_38_code 73 = .ok (.aload_n 0, 1) := by decide +kernel
theorem d_Mo_readNumbers_74 : decode prog_13_method_38_code 74 = .ok (.invokevirtual 185, 3) := by decide +kernel
theorem d_Mo_readNumbers_77 : decode prog_13_method_38_code 77 = .ok (.istore_n 2, 1) := by decide +kernel
theorem d_Mo_readNumbers_78 : decode prog_13_method_38_code 78 = .ok (.bipush 64, 2) := by decide +kernel
theorem d_Mo_readNumbers_80 : decode prog_13_method_38_code 80 = .ok (.istore_n 3, 1) := by decide +kernel
theorem d_Mo_readNumbers_81 : decode prog_13_method_38_code 81 = .ok (.iload_n 3, 1) := by decide +kernel
theorem d_Mo_readNumbers_82 : decode prog_13_method_38_code 82 = .ok (.ifCond .le 37, 3) := by decide +kernel
theorem d_Mo_readNumbers_85 : decode prog_13_method_38_code 85 = .ok (.aload_n 0, 1) := by decide +kernel
theorem d_Mo_readNumbers_86 : decode prog_13_method_38_code 86 = .ok (.getfield 77, 3) := by decide +kernel
theorem d_Mo_readNumbers_89 : decode prog_13_method_38_code 89 = .ok (.ifCond .ne 30, 3) := by decide +kernel
theorem d_Mo_readNumbers_92 : decode prog_13_method_38_code 92 = .ok (.iload_n 2, 1) := by decide +kernel
theorem d_Mo_readNumbers_93 : decode prog_13_method_38_code 93 = .ok (.iload_n 3, 1) := by decide +kernel
theorem d_Mo_readNumbers_94 : decode prog_13_method_38_code 94 = .ok (.idiv, 1) := by decide +kernel
theorem d_Mo_readNumbers_95 : decode prog_13_method_38_code 95 = .ok (.iconst 4, 1) := by decide +kernel
theorem d_Mo_readNumbers_96 : decode prog_13_method_38_code 96 = .ok (.irem, 1) := by decide +kernel
theorem d_Mo_readNumbers_97 : decode prog_13_method_38_code 97 = .ok (.istore 4, 2) := by decide +kernel
theorem d_Mo_readNumbers_99 : decode prog_13_method_38_code 99 = .ok (.iload 4, 2) := by decide +kernel
theorem d_Mo_readNumbers_101 : decode prog_13_method_38_code 101 = .ok (.iconst 3, 1) := by decide +kernel
theorem d_Mo_readNumbers_102 : decode prog_13_method_38_code 102 = .ok (.if_icmp .ne 4, 3) := by decide +kernel
theorem d_Mo_readNumbers_105 : decode prog_13_method_38_code 105 = .ok (.return_, 1) := by decide +kernel
theorem d_Mo_readNumbers_106 : decode prog_13_method_38_code 106 = .ok (.aload_n 0, 1) := by decide +kernel
theorem d_Mo_readNumbers_107 : decode prog_13_method_38_code 107 = .ok (.iload 4, 2) := by decide +kernel
theorem d_Mo_readNumbers_109 : decode prog_13_method_38_code 109 = .ok (.invokevirtual 194, 3) := by decide +kernel
theorem d_Mo_readNumbers_112 : decode prog_13_method_38_code 112 = .ok (.iload_n 3, 1) := by decide +kernel
theorem d_Mo_readNumbers_113 : decode prog_13_method_38_code 113 = .ok (.iconst 4, 1) := by decide +kernel
theorem d_Mo_readNumbers_114 : decode prog_13_method_38_code 114 = .ok (.idiv, 1) := by decide +kernel
theorem d_Mo_readNumbers_115 : decode prog_13_method_38_code 115 = .ok (.istore_n 3, 1) := by decide +kernel
theorem d_Mo_readNumbers_116 : decode prog_13_method_38_code 116 = .ok (.goto (-35), 3) := by decide +kernel
theorem d_Mo_readNumbers_119 : decode prog_13_method_38_code 119 = .ok (.return_, 1) := by decide +kernel
theorem d_Mo_number_0 : decode prog_13_method_37_code 0 = .ok (.iconst 0, 1) := by decide +kernel
theorem d_Mo_number_1 : decode prog_13_method_37_code 1 = .ok (.istore_n 2, 1) := by decide +kernel
theorem d_Mo_number_2 : decode prog_13_method_37_code 2 = .ok (.iload_n 1, 1) := by decide +kernel
theorem d_Mo_number_3 : decode prog_13_method_37_code 3 = .ok (.ifCond .ne 25, 3) := by decide +kernel
theorem d_Mo_number_6 : decode prog_13_method_37_code 6 = .ok (.aload_n 0, 1) := by decide +kernel
theorem d_Mo_number_7 : decode prog_13_method_37_code 7 = .ok (.aload_n 0, 1) := by decide +kernel
theorem d_Mo_number_8 : decode prog_13_method_37_code 8 = .ok (.getfield 175, 3) := by decide +kernel
theorem d_Mo_number_11 : decode prog_13_method_37_code 11 = .ok (.invokevirtual 100, 3) := by decide +kernel
theorem d_Mo_number_14 : decode prog_13_method_37_code 14 = .ok (.istore_n 2, 1) := by decide +kernel
theorem d_Mo_number_15 : decode prog_13_method_37_code 15 = .ok (.aload_n 0, 1) := by decide +kernel
theorem d_Mo_number_16 : decode prog_13_method_37_code 16 = .ok (.aload_n 0, 1) := by decide +kernel
theorem d_Mo_number_17 : decode prog_13_method_37_code 17 = .ok (.getfield 175, 3) := by decide +kernel
theorem d_Mo_number_20 : decode prog_13_method_37_code 20 = .ok (.iconst 2, 1) := by decide +kernel
theorem d_Mo_number_21 : decode prog_13_method_37_code 21 = .ok (.iadd, 1) := by decide +kernel
theorem d_Mo_number_22 : decode prog_13_method_37_code 22 = .ok (.putfield 175, 3) := by decide +kernel
theorem d_Mo_number_25 : decode prog_13_method_37_code 25 = .ok (.goto 26, 3) := by decide +kernel
theorem d_Mo_number_28 : decode prog_13_method_37_code 28 = .ok (.aload_n 0, 1) := by decide +kernel
theorem d_Mo_number_29 : decode prog_13_method_37_code 29 = .ok (.invokevirtual 185, 3) := by decide +kernel
theorem d_Mo_number_32 : decode prog_13_method_37_code 32 = .ok (.istore_n 2, 1) := by decide +kernel
theorem d_Mo_number_33 : decode prog_13_method_37_code 33 = .ok (.iload_n 1, 1) := by decide +kernel
theorem d_Mo_number_34 : decode prog_13_method_37_code 34 = .ok (.iconst 2, 1) := by decide +kernel
theorem d_Mo_number_35 : decode prog_13_method_37_code 35 = .ok (.if_icmp .ne 16, 3) := by decide +kernel
theorem d_Mo_number_38 : decode prog_13_method_37_code 38 = .ok (.aload_n 0, 1) := by decide +kernel
theorem d_Mo_number_39 : decode prog_13_method_37_code 39 = .ok (.getfield 77, 3) := by decide +kernel
theorem d_Mo_number_42 : decode prog_13_method_37_code 42 = .ok (.ifCond .ne 9, 3) := by decide +kernel
theorem d_Mo_number_45 : decode prog_13_method_37_code 45 = .ok (.aload_n 0, 1) := by decide +kernel
theorem d_Mo_number_46 : decode prog_13_method_37_code 46 = .ok (.iload_n 2, 1) := by decide +kernel
theorem d_Mo_number_47 : decode prog_13_method_37_code 47 = .ok (.invokevirtual 188, 3) := by decide +kernel
theorem d_Mo_number_50 : decode prog_13_method_37_code 50 = .ok (.istore_n 2, 1) := by decide +kernel
theorem d_Mo_number_51 : decode prog_13_method_37_code 51 = .ok (.aload_n 0, 1) := by decide +kernel
theorem d_Mo_number_52 : decode prog_13_method_37_code 52 = .ok (.getfield 61, 3) := by decide +kernel
theorem d_Mo_number_55 : decode prog_13_method_37_code 55 = .ok (.aload_n 0, 1) := by decide +kernel
theorem d_Mo_number_56 : decode prog_13_method_37_code 56 = .ok (.getfield 191, 3) := by decide +kernel
theorem d_Mo_number_59 : decode prog_13_method_37_code 59 = .ok (.iload_n 2, 1) := by decide +kernel
theorem d_Mo_number_60 : decode prog_13_method_37_code 60 = .ok (.iastore, 1) := by decide +kernel
theorem d_Mo_number_61 : decode prog_13_method_37_code 61 = .ok (.aload_n 0, 1) := by decide +kernel
theorem d_Mo_number_62 : decode prog_13_method_37_code 62 = .ok (.dup, 1) := by decide +kernel
theorem d_Mo_number_63 : decode prog_13_method_37_code 63 = .ok (.getfield 191, 3) := by decide +kernel
theorem d_Mo_number_66 : decode prog_13_method_37_code 66 = .ok (.iconst 1, 1) := by decide +kernel
theorem d_Mo_number_67 : decode prog_13_method_37_code 67 = .ok (.iadd, 1) := by decide +kernel
theorem d_Mo_number_68 : decode prog_13_method_37_code 68 = .ok (.putfield 191, 3) := by decide +kernel
theorem d_Mo_number_71 : decode prog_13_method_37_code 71 = .ok (.return_, 1) := by decide +kernel
theorem d_Mo_readVariable_0 : decode prog_13_method_36_code 0 = .ok (.iload_n 1, 1) := by decide +kernel
theorem d_Mo_readVariable_1 : decode prog_13_method_36_code 1 = .ok (.ifCond .ne 10, 3) := by decide +kernel
theorem d_Mo_readVariable_4 : decode prog_13_method_36_code 4 = .ok (.aload_n 0, 1) := by decide +kernel
theorem d_Mo_readVariable_5 : decode prog_13_method_36_code 5 = .ok (.invokevirtual 178, 3) := by decide +kernel
theorem d_Mo_readVariable_8 : decode prog_13_method_36_code 8 = .ok (.goto 8, 3) := by decide +kernel
theorem d_Mo_readVariable_11 : decode prog_13_method_36_code 11 = .ok (.aload_n 0, 1) := by decide +kernel
theorem d_Mo_readVariable_12 : decode prog_13_method_36_code 12 = .ok (.iload_n 1, 1) := by decide +kernel
theorem d_Mo_readVariable_13 : decode prog_13_method_36_code 13 = .ok (.invokevirtual 182, 3) := by decide +kernel
theorem d_Mo_readVariable_16 : decode prog_13_method_36_code 16 = .ok (.ireturn, 1) := by decide +kernel
theorem d_Mo_peekVariable_0 : decode prog_13_method_12_code 0 = .ok (.aload_n 0, 1) := by decide +kernel
theorem d_Mo_peekVariable_1 : decode prog_13_method_12_code 1 = .ok (.iload_n 1, 1) := by decide +kernel
theorem d_Mo_peekVariable_2 : decode prog_13_method_12_code 2 = .ok (.bipush 48, 2) := by decide +kernel
theorem d_Mo_peekVariable_4 : decode prog_13_method_12_code 4 = .ok (.if_icmp .ge 7, 3) := by decide +kernel
theorem d_Mo_peekVariable_7 : decode prog_13_method_12_code 7 = .ok (.iconst 1, 1) := by decide +kernel
theorem d_Mo_peekVariable_8 : decode prog_13_method_12_code 8 = .ok (.goto 4, 3) := by decide +kernel
theorem d_Mo_peekVariable_11 : decode prog_13_method_12_code 11 = .ok (.iconst 0, 1) := by decide +kernel
theorem d_Mo_peekVariable_12 : decode prog_13_method_12_code 12 = .ok (.iconst 1, 1) := by decide +kernel
theorem d_Mo_peekVariable_13 : decode prog_13_method_12_code 13 = .ok (.invokevirtual 82, 3) := by decide +kernel
theorem d_Mo_peekVariable_16 : decode prog_13_method_12_code 16 = .ok (.ifCond .ne 5, 3) := by decide +kernel
theorem d_Mo_peekVariable_19 : decode prog_13_method_12_code 19 = .ok (.iconst 0, 1) := by decide +kernel
theorem d_Mo_peekVariable_20 : decode prog_13_method_12_code 20 = .ok (.ireturn, 1) := by decide +kernel
theorem d_Mo_peekVariable_21 : decode prog_13_method_12_code 21 = .ok (.iload_n 1, 1) := by decide +kernel
theorem d_Mo_peekVariable_22 : decode prog_13_method_12_code 22 = .ok (.bipush 16, 2) := by decide +kernel
theorem d_Mo_peekVariable_24 : decode prog_13_method_12_code 24 = .ok (.if_icmp .lt 21, 3) := by decide +kernel
theorem d_Mo_peekVariable_27 : decode prog_13_method_12_code 27 = .ok (.aload_n 0, 1) := by decide +kernel
theorem d_Mo_peekVariable_28 : decode prog_13_method_12_code 28 = .ok (.aload_n 0, 1) := by decide +kernel
theorem d_Mo_peekVariable_29 : decode prog_13_method_12_code 29 = .ok (.bipush 10, 2) := by decide +kernel
theorem d_Mo_peekVariable_31 : decode prog_13_method_12_code 31 = .ok (.invokevirtual 100, 3) := by decide +kernel
theorem d_Mo_peekVariable_34 : decode prog_13_method_12_code 34 = .ok (.iconst 2, 1) := by decide +kernel
theorem d_Mo_peekVariable_35 : decode prog_13_method_12_code 35 = .ok (.iload_n 1, 1) := by decide +kernel
theorem d_Mo_peekVariable_36 : decode prog_13_method_12_code 36 = .ok (.bipush 16, 2) := by decide +kernel
theorem d_Mo_peekVariable_38 : decode prog_13_method_12_code 38 = .ok (.isub, 1) := by decide +kernel
theorem d_Mo_peekVariable_39 : decode prog_13_method_12_code 39 = .ok (.imul, 1) := by decide +kernel
theorem d_Mo_peekVariable_40 : decode prog_13_method_12_code 40 = .ok (.iadd, 1) := by decide +kernel
theorem d_Mo_peekVariable_41 : decode prog_13_method_12_code 41 = .ok (.invokevirtual 100, 3) := by decide +kernel
theorem d_Mo_peekVariable_44 : decode prog_13_method_12_code 44 = .ok (.ireturn, 1) := by decide +kernel
theorem d_Mo_peekVariable_45 : decode prog_13_method_12_code 45 = .ok (.iload_n 1, 1) := by decide +kernel
theorem d_Mo_peekVariable_46 : decode prog_13_method_12_code 46 = .ok (.ifCond .le 50, 3) := by decide +kernel
theorem d_Mo_peekVariable_49 : decode prog_13_method_12_code 49 = .ok (.aload_n 0, 1) := by decide +kernel
theorem d_Mo_peekVariable_50 : decode prog_13_method_12_code 50 = .ok (.iload_n 1, 1) := by decide +kernel
theorem d_Mo_peekVariable_51 : decode prog_13_method_12_code 51 = .ok (.aload_n 0, 1) := by decide +kernel
theorem d_Mo_peekVariable_52 : decode prog_13_method_12_code 52 = .ok (.getfield 16, 3) := by decide +kernel
theorem d_Mo_peekVariable_55 : decode prog_13_method_12_code 55 = .ok (.aload_n 0, 1) := by decide +kernel
theorem d_Mo_peekVariable_56 : decode prog_13_method_12_code 56 = .ok (.getfield 97, 3) := by decide +kernel
theorem d_Mo_peekVariable_59 : decode prog_13_method_12_code 59 = .ok (.iaload, 1) := by decide +kernel
theorem d_Mo_peekVariable_60 : decode prog_13_method_12_code 60 = .ok (.if_icmp .gt 7, 3) := by decide +kernel
theorem d_Mo_peekVariable_63 : decode prog_13_method_12_code 63 = .ok (.iconst 1, 1) := by decide +kernel
theorem d_Mo_peekVariable_64 : decode prog_13_method_12_code 64 = .ok (.goto 4, 3) := by decide +kernel
theorem d_Mo_peekVariable_67 : decode prog_13_method_12_code 67 = .ok (.iconst 0, 1) := by decide +kernel
theorem d_Mo_peekVariable_68 : decode prog_13_method_12_code 68 = .ok (.iconst 1, 1) := by decide +kernel
theorem d_Mo_peekVariable_69 : decode prog_13_method_12_code 69 = .ok (.invokevirtual 82, 3) := by decide +kernel
theorem d_Mo_peekVariable_72 : decode prog_13_method_12_code 72 = .ok (.ifCond .eq 22, 3) := by decide +kernel
theorem d_Mo_peekVariable_75 : decode prog_13_method_12_code 75 = .ok (.aload_n 0, 1) := by decide +kernel
theorem d_Mo_peekVariable_76 : decode prog_13_method_12_code 76 = .ok (.getfield 28, 3) := by decide +kernel
theorem d_Mo_peekVariable_79 : decode prog_13_method_12_code 79 = .ok (.bipush 15, 2) := by decide +kernel
theorem d_Mo_peekVariable_81 : decode prog_13_method_12_code 81 = .ok (.aload_n 0, 1) := by decide +kernel
theorem d_Mo_peekVariable_82 : decode prog_13_method_12_code 82 = .ok (.getfield 97, 3) := by decide +kernel
theorem d_Mo_peekVariable_85 : decode prog_13_method_12_code 85 = .ok (.imul, 1) := by decide +kernel
theorem d_Mo_peekVariable_86 : decode prog_13_method_12_code 86 = .ok (.iload_n 1, 1) := by decide +kernel
theorem d_Mo_peekVariable_87 : decode prog_13_method_12_code 87 = .ok (.iadd, 1) := by decide +kernel
theorem d_Mo_peekVariable_88 : decode prog_13_method_12_code 88 = .ok (.iconst 1, 1) := by decide +kernel
theorem d_Mo_peekVariable_89 : decode prog_13_method_12_code 89 = .ok (.isub, 1) := by decide +kernel
theorem d_Mo_peekVariable_90 : decode prog_13_method_12_code 90 = .ok (.iaload, 1) := by decide +kernel
theorem d_Mo_peekVariable_91 : decode prog_13_method_12_code 91 = .ok (.goto 4, 3) := by decide +kernel
theorem d_Mo_peekVariable_94 : decode prog_13_method_12_code 94 = .ok (.iconst 0, 1) := by decide +kernel
theorem d_Mo_peekVariable_95 : decode prog_13_method_12_code 95 = .ok (.ireturn, 1) := by decide +kernel
theorem d_Mo_peekVariable_96 : decode prog_13_method_12_code 96 = .ok (.aload_n 0, 1) := by decide +kernel
theorem d_Mo_peekVariable_97 : decode prog_13_method_12_code 97 = .ok (.aload_n 0, 1) := by decide +kernel
theorem d_Mo_peekVariable_98 : decode prog_13_method_12_code 98 = .ok (.getfield 94, 3) := by decide +kernel
theorem d_Mo_peekVariable_101 : decode prog_13_method_12_code 101 = .ok (.aload_n 0, 1) := by decide +kernel
theorem d_Mo_peekVariable_102 : decode prog_13_method_12_code 102 = .ok (.getfield 19, 3) := by decide +kernel
theorem d_Mo_peekVariable_105 : decode prog_13_method_12_code 105 = .ok (.aload_n 0, 1) := by decide +kernel
theorem d_Mo_peekVariable_106 : decode prog_13_method_12_code 106 = .ok (.getfield 97, 3) := by decide +kernel
theorem d_Mo_peekVariable_109 : decode prog_13_method_12_code 109 = .ok (.iaload, 1) := by decide +kernel
theorem d_Mo_peekVariable_110 : decode prog_13_method_12_code 110 = .ok (.if_icmp .le 7, 3) := by decide +kernel
theorem d_Mo_peekVariable_113 : decode prog_13_method_12_code 113 = .ok (.iconst 1, 1) := by decide +kernel
theorem d_Mo_peekVariable_114 : decode prog_13_method_12_code 114 = .ok (.goto 4, 3) := by decide +kernel
theorem d_Mo_peekVariable_117 : decode prog_13_method_12_code 117 = .ok (.iconst 0, 1) := by decide +kernel
theorem d_Mo_peekVariable_118 : decode prog_13_method_12_code 118 = .ok (.iconst 2, 1) := by decide +kernel
theorem d_Mo_peekVariable_119 : decode prog_13_method_12_code 119 = .ok (.invokevirtual 82, 3) := by decide +kernel
theorem d_Mo_peekVariable_122 : decode prog_13_method_12_code 122 = .ok (.ifCond .eq 17, 3) := by decide +kernel
theorem d_Mo_peekVariable_125 : decode prog_13_method_12_code 125 = .ok (.aload_n 0, 1) := by decide +kernel
theorem d_Mo_peekVariable_126 : decode prog_13_method_12_code 126 = .ok (.getfield 13, 3) := by decide +kernel
theorem d_Mo_peekVariable_129 : decode prog_13_method_12_code 129 = .ok (.aload_n 0, 1) := by decide +kernel
theorem d_Mo_peekVariable_130 : decode prog_13_method_12_code 130 = .ok (.getfield 94, 3) := by decide +kernel
theorem d_Mo_peekVariable_133 : decode prog_13_method_12_code 133 = .ok (.iconst 1, 1) := by decide +kernel
theorem d_Mo_peekVariable_134 : decode prog_13_method_12_code 134 = .ok (.isub, 1) := by decide +kernel
theorem d_Mo_peekVariable_135 : decode prog_13_method_12_code 135 = .ok (.iaload, 1) := by decide +kernel
theorem d_Mo_peekVariable_136 : decode prog_13_method_12_code 136 = .ok (.goto 4, 3) := by decide +kernel
theorem d_Mo_peekVariable_139 : decode prog_13_method_12_code 139 = .ok (.iconst 0, 1) := by decide +kernel
theorem d_Mo_peekVariable_140 : decode prog_13_method_12_code 140 = .ok (.ireturn, 1) := by decide +kernel
theorem d_Mo_wordAt_0 : decode prog_13_method_6_code 0 = .ok (.aload_n 0, 1) := by decide +kernel
theorem d_Mo_wordAt_1 : decode prog_13_method_6_code 1 = .ok (.iload_n 1, 1) := by decide +kernel
theorem d_Mo_wordAt_2 : decode prog_13_method_6_code 2 = .ok (.invokevirtual 86, 3) := by decide +kernel
theorem d_Mo_wordAt_5 : decode prog_13_method_6_code 5 = .ok (.istore_n 2, 1) := by decide +kernel
theorem d_Mo_wordAt_6 : decode prog_13_method_6_code 6 = .ok (.aload_n 0, 1) := by decide +kernel
theorem d_Mo_wordAt_7 : decode prog_13_method_6_code 7 = .ok (.iload_n 1, 1) := by decide +kernel
theorem d_Mo_wordAt_8 : decode prog_13_method_6_code 8 = .ok (.iconst 1, 1) := by decide +kernel
theorem d_Mo_wordAt_9 : decode prog_13_method_6_code 9 = .ok (.iadd, 1) := by decide +kernel
theorem d_Mo_wordAt_10 : decode prog_13_method_6_code 10 = .ok (.invokevirtual 86, 3) := by decide +kernel
theorem d_Mo_wordAt_13 : decode prog_13_method_6_code 13 = .ok (.istore_n 3, 1) := by decide +kernel
theorem d_Mo_wordAt_14 : decode prog_13_method_6_code 14 = .ok (.sipush 256, 3) := by decide +kernel
theorem d_Mo_wordAt_17 : decode prog_13_method_6_code 17 = .ok (.iload_n 2, 1) := by decide +kernel
theorem d_Mo_wordAt_18 : decode prog_13_method_6_code 18 = .ok (.imul, 1) := by decide +kernel
theorem d_Mo_wordAt_19 : decode prog_13_method_6_code 19 = .ok (.iload_n 3, 1) := by decide +kernel
theorem d_Mo_wordAt_20 : decode prog_13_method_6_code 20 = .ok (.iadd, 1) := by decide +kernel
theorem d_Mo_wordAt_21 : decode prog_13_method_6_code 21 = .ok (.ireturn, 1) := by decide +kernel
theorem d_Mo_pop_0 : decode prog_13_method_11_code 0 = .ok (.aload_n 0, 1) := by decide +kernel
theorem d_Mo_pop_1 : decode prog_13_method_11_code 1 = .ok (.aload_n 0, 1) := by decide +kernel
theorem d_Mo_pop_2 : decode prog_13_method_11_code 2 = .ok (.getfield 94, 3) := by decide +kernel
theorem d_Mo_pop_5 : decode prog_13_method_11_code 5 = .ok (.aload_n 0, 1) := by decide +kernel
theorem d_Mo_pop_6 : decode prog_13_method_11_code 6 = .ok (.getfield 19, 3) := by decide +kernel
theorem d_Mo_pop_9 : decode prog_13_method_11_code 9 = .ok (.aload_n 0, 1) := by decide +kernel
theorem d_Mo_pop_10 : decode prog_13_method_11_code 10 = .ok (.getfield 97, 3) := by decide +kernel
theorem d_Mo_pop_13 : decode prog_13_method_11_code 13 = .ok (.iaload, 1) := by decide +kernel
theorem d_Mo_pop_14 : decode prog_13_method_11_code 14 = .ok (.if_icmp .le 7, 3) := by decide +kernel
theorem d_Mo_pop_17 : decode prog_13_method_11_code 17 = .ok (.iconst 1, 1) := by decide +kernel
theorem d_Mo_pop_18 : decode prog_13_method_11_code 18 = .ok (.goto 4, 3) := by decide +kernel
theorem d_Mo_pop_21 : decode prog_13_method_11_code 21 = .ok (.iconst 0, 1) := by decide +kernel
theorem d_Mo_pop_22 : decode prog_13_method_11_code 22 = .ok (.iconst 2, 1) := by decide +kernel
theorem d_Mo_pop_23 : decode prog_13_method_11_code 23 = .ok (.invokevirtual 82, 3) := by decide +kernel
theorem d_Mo_pop_26 : decode prog_13_method_11_code 26 = .ok (.ifCond .ne 5, 3) := by decide +kernel
theorem d_Mo_pop_29 : decode prog_13_method_11_code 29 = .ok (.iconst 0, 1) := by decide +kernel
theorem d_Mo_pop_30 : decode prog_13_method_11_code 30 = .ok (.ireturn, 1) := by decide +kernel
theorem d_Mo_pop_31 : decode prog_13_method_11_code 31 = .ok (.aload_n 0, 1) := by decide +kernel
theorem d_Mo_pop_32 : decode prog_13_method_11_code 32 = .ok (.dup, 1) := by decide +kernel
theorem d_Mo_pop_33 : decode prog_13_method_11_code 33 = .ok (.getfield 94, 3) := by decide +kernel
theorem d_Mo_pop_36 : decode prog_13_method_11_code 36 = .ok (.iconst 1, 1) := by decide +kernel
theorem d_Mo_pop_37 : decode prog_13_method_11_code 37 = .ok (.isub, 1) := by decide +kernel
theorem d_Mo_pop_38 : decode prog_13_method_11_code 38 = .ok (.putfield 94, 3) := by decide +kernel
theorem d_Mo_pop_41 : decode prog_13_method_11_code 41 = .ok (.aload_n 0, 1) := by decide +kernel
theorem d_Mo_pop_42 : decode prog_13_method_11_code 42 = .ok (.getfield 13, 3) := by decide +kernel
theorem d_Mo_pop_45 : decode prog_13_method_11_code 45 = .ok (.aload_n 0, 1) := by decide +kernel
theorem d_Mo_pop_46 : decode prog_13_method_11_code 46 = .ok (.getfield 94, 3) := by decide +kernel
theorem d_Mo_pop_49 : decode prog_13_method_11_code 49 = .ok (.iaload, 1) := by decide +kernel
theorem d_Mo_pop_50 : decode prog_13_method_11_code 50 = .ok (.ireturn, 1) := by decide +kernel
theorem d_Mo_listOf_0 : decode prog_13_method_39_code 0 = .ok (.iload_n 0, 1) := by decide +kernel
theorem d_Mo_listOf_1 : decode prog_13_method_39_code 1 = .ok (.sipush 128, 3) := by decide +kernel
theorem d_Mo_listOf_4 : decode prog_13_method_39_code 4 = .ok (.if_icmp .lt 17, 3) := by decide +kernel
theorem d_Mo_listOf_7 : decode prog_13_method_39_code 7 = .ok (.iload_n 0, 1) := by decide +kernel
theorem d_Mo_listOf_8 : decode prog_13_method_39_code 8 = .ok (.sipush 191, 3) := by decide +kernel
theorem d_Mo_listOf_11 : decode prog_13_method_39_code 11 = .ok (.if_icmp .le 14, 3) := by decide +kernel
theorem d_Mo_listOf_14 : decode prog_13_method_39_code 14 = .ok (.iload_n 0, 1) := by decide +kernel
theorem d_Mo_listOf_15 : decode prog_13_method_39_code 15 = .ok (.sipush 224, 3) := by decide +kernel
theorem d_Mo_listOf_18 : decode prog_13_method_39_code 18 = .ok (.if_icmp .ge 7, 3) := by decide +kernel
theorem d_Mo_listOf_21 : decode prog_13_method_39_code 21 = .ok (.iconst 0, 1) := by decide +kernel
theorem d_Mo_listOf_22 : decode prog_13_method_39_code 22 = .ok (.goto 26, 3) := by decide +kernel
theorem d_Mo_listOf_25 : decode prog_13_method_39_code 25 = .ok (.iload_n 0, 1) := by decide +kernel
theorem d_Mo_listOf_26 : decode prog_13_method_39_code 26 = .ok (.sipush 176, 3) := by decide +kernel
theorem d_Mo_listOf_29 : decode prog_13_method_39_code 29 = .ok (.if_icmp .ge 7, 3) := by decide +kernel
theorem d_Mo_listOf_32 : decode prog_13_method_39_code 32 = .ok (.iconst 1, 1) := by decide +kernel
theorem d_Mo_listOf_33 : decode prog_13_method_39_code 33 = .ok (.goto 15, 3) := by decide +kernel
theorem d_Mo_listOf_36 : decode prog_13_method_39_code 36 = .ok (.iload_n 0, 1) := by decide +kernel
theorem d_Mo_listOf_37 : decode prog_13_method_39_code 37 = .ok (.sipush 192, 3) := by decide +kernel
theorem d_Mo_listOf_40 : decode prog_13_method_39_code 40 = .ok (.if_icmp .ge 7, 3) := by decide +kernel
theorem d_Mo_listOf_43 : decode prog_13_method_39_code 43 = .ok (.iconst 2, 1) := by decide +kernel
theorem d_Mo_listOf_44 : decode prog_13_method_39_code 44 = .ok (.goto 4, 3) := by decide +kernel
theorem d_Mo_listOf_47 : decode prog_13_method_39_code 47 = .ok (.iconst 3, 1) := by decide +kernel
theorem d_Mo_listOf_48 : decode prog_13_method_39_code 48 = .ok (.ireturn, 1) := by decide +kernel
theorem d_Mo_least_0 : decode prog_13_method_40_code 0 = .ok (.iload_n 0, 1) := by decide +kernel
theorem d_Mo_least_1 : decode prog_13_method_40_code 1 = .ok (.ifCond .ne 20, 3) := by decide +kernel
theorem d_Mo_least_4 : decode prog_13_method_40_code 4 = .ok (.iload_n 1, 1) := by decide +kernel
theorem d_Mo_least_5 : decode prog_13_method_40_code 5 = .ok (.ifCond .le 13, 3) := by decide +kernel
theorem d_Mo_least_8 : decode prog_13_method_40_code 8 = .ok (.iload_n 1, 1) := by decide +kernel
theorem d_Mo_least_9 : decode prog_13_method_40_code 9 = .ok (.bipush 25, 2) := by decide +kernel
theorem d_Mo_least_11 : decode prog_13_method_40_code 11 = .ok (.if_icmp .ge 7, 3) := by decide +kernel
theorem d_Mo_least_14 : decode prog_13_method_40_code 14 = .ok (.iconst 2, 1) := by decide +kernel
theorem d_Mo_least_15 : decode prog_13_method_40_code 15 = .ok (.goto 5, 3) := by decide +kernel
theorem d_Mo_least_18 : decode prog_13_method_40_code 18 = .ok (.bipush 9, 2) := by decide +kernel
theorem d_Mo_least_20 : decode prog_13_method_40_code 20 = .ok (.ireturn, 1) := by decide +kernel
theorem d_Mo_least_21 : decode prog_13_method_40_code 21 = .ok (.iload_n 0, 1) := by decide +kernel
theorem d_Mo_least_22 : decode prog_13_method_40_code 22 = .ok (.iconst 1, 1) := by decide +kernel
theorem d_Mo_least_23 : decode prog_13_method_40_code 23 = .ok (.if_icmp .ne 16, 3) := by decide +kernel
theorem d_Mo_least_26 : decode prog_13_method_40_code 26 = .ok (.iload_n 1, 1) := by decide +kernel
theorem d_Mo_least_27 : decode prog_13_method_40_code 27 = .ok (.bipush 8, 2) := by decide +kernel
theorem d_Mo_least_29 : decode prog_13_method_40_code 29 = .ok (.if_icmp .ne 8, 3) := by decide +kernel
theorem d_Mo_least_32 : decode prog_13_method_40_code 32 = .ok (.bipush 9, 2) := by decide +kernel
theorem d_Mo_least_34 : decode prog_13_method_40_code 34 = .ok (.goto 4, 3) := by decide +kernel
theorem d_Mo_least_37 : decode prog_13_method_40_code 37 = .ok (.iconst 1, 1) := by decide +kernel
theorem d_Mo_least_38 : decode prog_13_method_40_code 38 = .ok (.ireturn, 1) := by decide +kernel
theorem d_Mo_least_39 : decode prog_13_method_40_code 39 = .ok (.iload_n 0, 1) := by decide +kernel
theorem d_Mo_least_40 : decode prog_13_method_40_code 40 = .ok (.iconst 2, 1) := by decide +kernel
theorem d_Mo_least_41 : decode prog_13_method_40_code 41 = .ok (.if_icmp .ne 22, 3) := by decide +kernel
theorem d_Mo_least_44 : decode prog_13_method_40_code 44 = .ok (.iload_n 1, 1) := by decide +kernel
theorem d_Mo_least_45 : decode prog_13_method_40_code 45 = .ok (.bipush 7, 2) := by decide +kernel
theorem d_Mo_least_47 : decode prog_13_method_40_code 47 = .ok (.if_icmp .eq 9, 3) := by decide +kernel
theorem d_Mo_least_50 : decode prog_13_method_40_code 50 = .ok (.iload_n 1, 1) := by decide +kernel
theorem d_Mo_least_51 : decode prog_13_method_40_code 51 = .ok (.bipush 11, 2) := by decide +kernel
theorem d_Mo_least_53 : decode prog_13_method_40_code 53 = .ok (.if_icmp .le 8, 3) := by decide +kernel
theorem d_Mo_least_56 : decode prog_13_method_40_code 56 = .ok (.bipush 9, 2) := by decide +kernel
theorem d_Mo_least_58 : decode prog_13_method_40_code 58 = .ok (.goto 4, 3) := by decide +kernel
theorem d_Mo_least_61 : decode prog_13_method_40_code 61 = .ok (.iconst 0, 1) := by decide +kernel
theorem d_Mo_least_62 : decode prog_13_method_40_code 62 = .ok (.ireturn, 1) := by decide +kernel
theorem d_Mo_least_63 : decode prog_13_method_40_code 63 = .ok (.iload_n 1, 1) := by decide +kernel
theorem d_Mo_least_64 : decode prog_13_method_40_code 64 = .ok (.bipush 9, 2) := by decide +kernel
theorem d_Mo_least_66 : decode prog_13_method_40_code 66 = .ok (.if_icmp .le 8, 3) := by decide +kernel
theorem d_Mo_least_69 : decode prog_13_method_40_code 69 = .ok (.bipush 9, 2) := by decide +kernel
theorem d_Mo_least_71 : decode prog_13_method_40_code 71 = .ok (.goto 26, 3) := by decide +kernel
theorem d_Mo_least_74 : decode prog_13_method_40_code 74 = .ok (.iload_n 1, 1) := by decide +kernel
theorem d_Mo_least_75 : decode prog_13_method_40_code 75 = .ok (.ifCond .le 12, 3) := by decide +kernel
theorem d_Mo_least_78 : decode prog_13_method_40_code 78 = .ok (.iload_n 1, 1) := by decide +kernel
theorem d_Mo_least_79 : decode prog_13_method_40_code 79 = .ok (.iconst 4, 1) := by decide +kernel
theorem d_Mo_least_80 : decode prog_13_method_40_code 80 = .ok (.if_icmp .ge 7, 3) := by decide +kernel
theorem d_Mo_least_83 : decode prog_13_method_40_code 83 = .ok (.iconst 3, 1) := by decide +kernel
theorem d_Mo_least_84 : decode prog_13_method_40_code 84 = .ok (.goto 13, 3) := by decide +kernel
theorem d_Mo_least_87 : decode prog_13_method_40_code 87 = .ok (.iload_n 1, 1) := by decide +kernel
theorem d_Mo_least_88 : decode prog_13_method_40_code 88 = .ok (.iconst 4, 1) := by decide +kernel
theorem d_Mo_least_89 : decode prog_13_method_40_code 89 = .ok (.if_icmp .ne 7, 3) := by decide +kernel
theorem d_Mo_least_92 : decode prog_13_method_40_code 92 = .ok (.iconst 2, 1) := by decide +kernel
theorem d_Mo_least_93 : decode prog_13_method_40_code 93 = .ok (.goto 4, 3) := by decide +kernel
theorem d_Mo_least_96 : decode prog_13_method_40_code 96 = .ok (.iconst 1, 1) := by decide +kernel
theorem d_Mo_least_97 : decode prog_13_method_40_code 97 = .ok (.ireturn, 1) := by decide +kernel
theorem d_Mo_readRest_0 : decode prog_13_method_43_code 0 = .ok (.iload_n 1, 1) := by decide +kernel
theorem d_Mo_readRest_1 : decode prog_13_method_43_code 1 = .ok (.iload_n 2, 1) := by decide +kernel
theorem d_Mo_readRest_2 : decode prog_13_method_43_code 2 = .ok (.invokestatic 197, 3) := by decide +kernel
theorem d_Mo_readRest_5 : decode prog_13_method_43_code 5 = .ok (.ifCond .eq 11, 3) := by decide +kernel
theorem d_Mo_readRest_8 : decode prog_13_method_43_code 8 = .ok (.aload_n 0, 1) := by decide +kernel
theorem d_Mo_readRest_9 : decode prog_13_method_43_code 9 = .ok (.aload_n 0, 1) := by decide +kernel
theorem d_Mo_readRest_10 : decode prog_13_method_43_code 10 = .ok (.invokevirtual 185, 3) := by decide +kernel
theorem d_Mo_readRest_13 : decode prog_13_method_43_code 13 = .ok (.putfield 114, 3) := by decide +kernel
theorem d_Mo_readRest_16 : decode prog_13_method_43_code 16 = .ok (.aload_n 0, 1) := by decide +kernel
theorem d_Mo_readRest_17 : decode prog_13_method_43_code 17 = .ok (.getfield 77, 3) := by decide +kernel
theorem d_Mo_readRest_20 : decode prog_13_method_43_code 20 = .ok (.ifCond .ne 93, 3) := by decide +kernel
theorem d_Mo_readRest_23 : decode prog_13_method_43_code 23 = .ok (.iload_n 1, 1) := by decide +kernel
theorem d_Mo_readRest_24 : decode prog_13_method_43_code 24 = .ok (.iload_n 2, 1) := by decide +kernel
theorem d_Mo_readRest_25 : decode prog_13_method_43_code 25 = .ok (.invokestatic 200, 3) := by decide +kernel
theorem d_Mo_readRest_28 : decode prog_13_method_43_code 28 = .ok (.ifCond .eq 85, 3) := by decide +kernel
theorem d_Mo_readRest_31 : decode prog_13_method_43_code 31 = .ok (.aload_n 0, 1) := by decide +kernel
theorem d_Mo_readRest_32 : decode prog_13_method_43_code 32 = .ok (.invokevirtual 185, 3) := by decide +kernel
theorem d_Mo_readRest_35 : decode prog_13_method_43_code 35 = .ok (.istore_n 3, 1) := by decide +kernel
theorem d_Mo_readRest_36 : decode prog_13_method_43_code 36 = .ok (.aload_n 0, 1) := by decide +kernel
theorem d_Mo_readRest_37 : decode prog_13_method_43_code 37 = .ok (.iload_n 3, 1) := by decide +kernel
theorem d_Mo_readRest_38 : decode prog_13_method_43_code 38 = .ok (.bipush 127, 2) := by decide +kernel
theorem d_Mo_readRest_40 : decode prog_13_method_43_code 40 = .ok (.if_icmp .le 7, 3) := by decide +kernel
theorem d_Mo_readRest_43 : decode prog_13_method_43_code 43 = .ok (.iconst 1, 1) := by decide +kernel
theorem d_Mo_readRest_44 : decode prog_13_method_43_code 44 = .ok (.goto 4, 3) := by decide +kernel
theorem d_Mo_readRest_47 : decode prog_13_method_43_code 47 = .ok (.iconst 0, 1) := by decide +kernel
theorem d_Mo_readRest_48 : decode prog_13_method_43_code 48 = .ok (.putfield 203, 3) := by decide +kernel
theorem d_Mo_readRest_51 : decode prog_13_method_43_code 51 = .ok (.iload_n 3, 1) := by decide +kernel
theorem d_Mo_readRest_52 : decode prog_13_method_43_code 52 = .ok (.bipush 64, 2) := by decide +kernel
theorem d_Mo_readRest_54 : decode prog_13_method_43_code 54 = .ok (.irem, 1) := by decide +kernel
theorem d_Mo_readRest_55 : decode prog_13_method_43_code 55 = .ok (.istore 4, 2) := by decide +kernel
theorem d_Mo_readRest_57 : decode prog_13_method_43_code 57 = .ok (.iload_n 3, 1) := by decide +kernel
theorem d_Mo_readRest_58 : decode prog_13_method_43_code 58 = .ok (.bipush 64, 2) := by decide +kernel
theorem d_Mo_readRest_60 : decode prog_13_method_43_code 60 = .ok (.idiv, 1) := by decide +kernel
theorem d_Mo_readRest_61 : decode prog_13_method_43_code 61 = .ok (.iconst 2, 1) := by decide +kernel
theorem d_Mo_readRest_62 : decode prog_13_method_43_code 62 = .ok (.irem, 1) := by decide +kernel
theorem d_Mo_readRest_63 : decode prog_13_method_43_code 63 = .ok (.ifCond .ne 44, 3) := by decide +kernel
theorem d_Mo_readRest_66 : decode prog_13_method_43_code 66 = .ok (.aload_n 0, 1) := by decide +kernel
theorem d_Mo_readRest_67 : decode prog_13_method_43_code 67 = .ok (.getfield 77, 3) := by decide +kernel
theorem d_Mo_readRest_70 : decode prog_13_method_43_code 70 = .ok (.ifCond .ne 37, 3) := by decide +kernel
theorem d_Mo_readRest_73 : decode prog_13_method_43_code 73 = .ok (.sipush 256, 3) := by decide +kernel
theorem d_Mo_readRest_76 : decode prog_13_method_43_code 76 = .ok (.iload 4, 2) := by decide +kernel
theorem d_Mo_readRest_78 : decode prog_13_method_43_code 78 = .ok (.imul, 1) := by decide +kernel
theorem d_Mo_readRest_79 : decode prog_13_method_43_code 79 = .ok (.aload_n 0, 1) := by decide +kernel
theorem d_Mo_readRest_80 : decode prog_13_method_43_code 80 = .ok (.invokevirtual 185, 3) := by decide +kernel
theorem d_Mo_readRest_83 : decode prog_13_method_43_code 83 = .ok (.iadd, 1) := by decide +kernel
theorem d_Mo_readRest_84 : decode prog_13_method_43_code 84 = .ok (.istore 4, 2) := by decide +kernel
theorem d_Mo_readRest_86 : decode prog_13_method_43_code 86 = .ok (.iload 4, 2) := by decide +kernel
theorem d_Mo_readRest_88 : decode prog_13_method_43_code 88 = .ok (.sipush 8191, 3) := by decide +kernel
theorem d_Mo_readRest_91 : decode prog_13_method_43_code 91 = .ok (.if_icmp .le 12, 3) := by decide +kernel
theorem d_Mo_readRest_94 : decode prog_13_method_43_code 94 = .ok (.iload 4, 2) := by decide +kernel
theorem d_Mo_readRest_96 : decode prog_13_method_43_code 96 = .ok (.sipush 16384, 3) := by decide +kernel
theorem d_Mo_readRest_99 : decode prog_13_method_43_code 99 = .ok (.isub, 1) := by decide +kernel
theorem d_Mo_readRest_100 : decode prog_13_method_43_code 100 = .ok (.goto 5, 3) := by decide +kernel
theorem d_Mo_readRest_103 : decode prog_13_method_43_code 103 = .ok (.iload 4, 2) := by decide +kernel
theorem d_Mo_readRest_105 : decode prog_13_method_43_code 105 = .ok (.istore 4, 2) := by decide +kernel
theorem d_Mo_readRest_107 : decode prog_13_method_43_code 107 = .ok (.aload_n 0, 1) := by decide +kernel
theorem d_Mo_readRest_108 : decode prog_13_method_43_code 108 = .ok (.iload 4, 2) := by decide +kernel
theorem d_Mo_readRest_110 : decode prog_13_method_43_code 110 = .ok (.putfield 207, 3) := by decide +kernel
theorem d_Mo_readRest_113 : decode prog_13_method_43_code 113 = .ok (.aload_n 0, 1) := by decide +kernel
theorem d_Mo_readRest_114 : decode prog_13_method_43_code 114 = .ok (.aload_n 0, 1) := by decide +kernel
theorem d_Mo_readRest_115 : decode prog_13_method_43_code 115 = .ok (.getfield 175, 3) := by decide +kernel
theorem d_Mo_readRest_118 : decode prog_13_method_43_code 118 = .ok (.putfield 210, 3) := by decide +kernel
theorem d_Mo_readRest_121 : decode prog_13_method_43_code 121 = .ok (.return_, 1) := by decide +kernel
theorem d_Mo_gives_0 : decode prog_13_method_41_code 0 = .ok (.iload_n 0, 1) := by decide +kernel
theorem d_Mo_gives_1 : decode prog_13_method_41_code 1 = .ok (.ifCond .ne 27, 3) := by decide +kernel
theorem d_Mo_gives_4 : decode prog_13_method_41_code 4 = .ok (.iload_n 1, 1) := by decide +kernel
theorem d_Mo_gives_5 : decode prog_13_method_41_code 5 = .ok (.bipush 8, 2) := by decide +kernel
theorem d_Mo_gives_7 : decode prog_13_method_41_code 7 = .ok (.if_icmp .eq 15, 3) := by decide +kernel
theorem d_Mo_gives_10 : decode prog_13_method_41_code 10 = .ok (.iload_n 1, 1) := by decide +kernel
theorem d_Mo_gives_11 : decode prog_13_method_41_code 11 = .ok (.bipush 9, 2) := by decide +kernel
theorem d_Mo_gives_13 : decode prog_13_method_41_code 13 = .ok (.if_icmp .eq 9, 3) := by decide +kernel
theorem d_Mo_gives_16 : decode prog_13_method_41_code 16 = .ok (.iload_n 1, 1) := by decide +kernel
theorem d_Mo_gives_17 : decode prog_13_method_41_code 17 = .ok (.bipush 14, 2) := by decide +kernel
theorem d_Mo_gives_19 : decode prog_13_method_41_code 19 = .ok (.if_icmp .le 7, 3) := by decide +kernel
theorem d_Mo_gives_22 : decode prog_13_method_41_code 22 = .ok (.iconst 1, 1) := by decide +kernel
theorem d_Mo_gives_23 : decode prog_13_method_41_code 23 = .ok (.goto 4, 3) := by decide +kernel
theorem d_Mo_gives_26 : decode prog_13_method_41_code 26 = .ok (.iconst 0, 1) := by decide +kernel
theorem d_Mo_gives_27 : decode prog_13_method_41_code 27 = .ok (.ireturn, 1) := by decide +kernel
theorem d_Mo_gives_28 : decode prog_13_method_41_code 28 = .ok (.iload_n 0, 1) := by decide +kernel
theorem d_Mo_gives_29 : decode prog_13_method_41_code 29 = .ok (.iconst 1, 1) := by decide +kernel
theorem d_Mo_gives_30 : decode prog_13_method_41_code 30 = .ok (.if_icmp .ne 24, 3) := by decide +kernel
theorem d_Mo_gives_33 : decode prog_13_method_41_code 33 = .ok (.iload_n 1, 1) := by decide +kernel
theorem d_Mo_gives_34 : decode prog_13_method_41_code 34 = .ok (.ifCond .le 8, 3) := by decide +kernel
theorem d_Mo_gives_37 : decode prog_13_method_41_code 37 = .ok (.iload_n 1, 1) := by decide +kernel
theorem d_Mo_gives_38 : decode prog_13_method_41_code 38 = .ok (.iconst 5, 1) := by decide +kernel
theorem d_Mo_gives_39 : decode prog_13_method_41_code 39 = .ok (.if_icmp .lt 9, 3) := by decide +kernel
theorem d_Mo_gives_42 : decode prog_13_method_41_code 42 = .ok (.iload_n 1, 1) := by decide +kernel
theorem d_Mo_gives_43 : decode prog_13_method_41_code 43 = .ok (.bipush 13, 2) := by decide +kernel
theorem d_Mo_gives_45 : decode prog_13_method_41_code 45 = .ok (.if_icmp .le 7, 3) := by decide +kernel
theorem d_Mo_gives_48 : decode prog_13_method_41_code 48 = .ok (.iconst 1, 1) := by decide +kernel
theorem d_Mo_gives_49 : decode prog_13_method_41_code 49 = .ok (.goto 4, 3) := by decide +kernel
theorem d_Mo_gives_52 : decode prog_13_method_41_code 52 = .ok (.iconst 0, 1) := by decide +kernel
theorem d_Mo_gives_53 : decode prog_13_method_41_code 53 = .ok (.ireturn, 1) := by decide +kernel
theorem d_Mo_gives_54 : decode prog_13_method_41_code 54 = .ok (.iload_n 0, 1) := by decide +kernel
theorem d_Mo_gives_55 : decode prog_13_method_41_code 55 = .ok (.iconst 3, 1) := by decide +kernel
theorem d_Mo_gives_56 : decode prog_13_method_41_code 56 = .ok (.if_icmp .ne 17, 3) := by decide +kernel
theorem d_Mo_gives_59 : decode prog_13_method_41_code 59 = .ok (.iload_n 1, 1) := by decide +kernel
theorem d_Mo_gives_60 : decode prog_13_method_41_code 60 = .ok (.ifCond .eq 9, 3) := by decide +kernel
theorem d_Mo_gives_63 : decode prog_13_method_41_code 63 = .ok (.iload_n 1, 1) := by decide +kernel
theorem d_Mo_gives_64 : decode prog_13_method_41_code 64 = .ok (.bipush 7, 2) := by decide +kernel
theorem d_Mo_gives_66 : decode prog_13_method_41_code 66 = .ok (.if_icmp .ne 7, 3) := by decide +kernel
theorem d_Mo_gives_69 : decode prog_13_method_41_code 69 = .ok (.iconst 1, 1) := by decide +kernel
theorem d_Mo_gives_70 : decode prog_13_method_41_code 70 = .ok (.goto 4, 3) := by decide +kernel
theorem d_Mo_gives_73 : decode prog_13_method_41_code 73 = .ok (.iconst 0, 1) := by decide +kernel
theorem d_Mo_gives_74 : decode prog_13_method_41_code 74 = .ok (.ireturn, 1) := by decide +kernel
theorem d_Mo_asks_0 : decode prog_13_method_42_code 0 = .ok (.iload_n 0, 1) := by decide +kernel
theorem d_Mo_asks_1 : decode prog_13_method_42_code 1 = .ok (.ifCond .ne 15, 3) := by decide +kernel
theorem d_Mo_asks_4 : decode prog_13_method_42_code 4 = .ok (.iload_n 1, 1) := by decide +kernel
theorem d_Mo_asks_5 : decode prog_13_method_42_code 5 = .ok (.bipush 8, 2) := by decide +kernel
theorem d_Mo_asks_7 : decode prog_13_method_42_code 7 = .ok (.if_icmp .lt 35, 3) := by decide +kernel
theorem d_Mo_asks_10 : decode prog_13_method_42_code 10 = .ok (.iload_n 1, 1) := by decide +kernel
theorem d_Mo_asks_11 : decode prog_13_method_42_code 11 = .ok (.bipush 10, 2) := by decide +kernel
theorem d_Mo_asks_13 : decode prog_13_method_42_code 13 = .ok (.if_icmp .eq 29, 3) := by decide +kernel
theorem d_Mo_asks_16 : decode prog_13_method_42_code 16 = .ok (.iload_n 0, 1) := by decide +kernel
theorem d_Mo_asks_17 : decode prog_13_method_42_code 17 = .ok (.iconst 1, 1) := by decide +kernel
theorem d_Mo_asks_18 : decode prog_13_method_42_code 18 = .ok (.if_icmp .ne 8, 3) := by decide +kernel
theorem d_Mo_asks_21 : decode prog_13_method_42_code 21 = .ok (.iload_n 1, 1) := by decide +kernel
theorem d_Mo_asks_22 : decode prog_13_method_42_code 22 = .ok (.iconst 3, 1) := by decide +kernel
theorem d_Mo_asks_23 : decode prog_13_method_42_code 23 = .ok (.if_icmp .lt 19, 3) := by decide +kernel
theorem d_Mo_asks_26 : decode prog_13_method_42_code 26 = .ok (.iload_n 0, 1) := by decide +kernel
theorem d_Mo_asks_27 : decode prog_13_method_42_code 27 = .ok (.iconst 2, 1) := by decide +kernel
theorem d_Mo_asks_28 : decode prog_13_method_42_code 28 = .ok (.if_icmp .ne 18, 3) := by decide +kernel
theorem d_Mo_asks_31 : decode prog_13_method_42_code 31 = .ok (.iload_n 1, 1) := by decide +kernel
theorem d_Mo_asks_32 : decode prog_13_method_42_code 32 = .ok (.iconst 5, 1) := by decide +kernel
theorem d_Mo_asks_33 : decode prog_13_method_42_code 33 = .ok (.if_icmp .eq 9, 3) := by decide +kernel
theorem d_Mo_asks_36 : decode prog_13_method_42_code 36 = .ok (.iload_n 1, 1) := by decide +kernel
theorem d_Mo_asks_37 : decode prog_13_method_42_code 37 = .ok (.bipush 6, 2) := by decide +kernel
theorem d_Mo_asks_39 : decode prog_13_method_42_code 39 = .ok (.if_icmp .ne 7, 3) := by decide +kernel
theorem d_Mo_asks_42 : decode prog_13_method_42_code 42 = .ok (.iconst 1, 1) := by decide +kernel
theorem d_Mo_asks_43 : decode prog_13_method_42_code 43 = .ok (.goto 4, 3) := by decide +kernel
theorem d_Mo_asks_46 : decode prog_13_method_42_code 46 = .ok (.iconst 0, 1) := by decide +kernel
theorem d_Mo_asks_47 : decode prog_13_method_42_code 47 = .ok (.ireturn, 1) := by decide +kernel
theorem d_Mo_manyList_0 : decode prog_13_method_59_code 0 = .ok (.iload_n 1, 1) := by decide +kernel
theorem d_Mo_manyList_1 : decode prog_13_method_59_code 1 = .ok (.ifCond .ne 10, 3) := by decide +kernel
theorem d_Mo_manyList_4 : decode prog_13_method_59_code 4 = .ok (.aload_n 0, 1) := by decide +kernel
theorem d_Mo_manyList_5 : decode prog_13_method_59_code 5 = .ok (.invokevirtual 291, 3) := by decide +kernel
theorem d_Mo_manyList_8 : decode prog_13_method_59_code 8 = .ok (.goto 143, 3) := by decide +kernel
theorem d_Mo_manyList_11 : decode prog_13_method_59_code 11 = .ok (.iload_n 1, 1) := by decide +kernel
theorem d_Mo_manyList_12 : decode prog_13_method_59_code 12 = .ok (.iconst 1, 1) := by decide +kernel
theorem d_Mo_manyList_13 : decode prog_13_method_59_code 13 = .ok (.if_icmp .ne 17, 3) := by decide +kernel
theorem d_Mo_manyList_16 : decode prog_13_method_59_code 16 = .ok (.aload_n 0, 1) := by decide +kernel
theorem d_Mo_manyList_17 : decode prog_13_method_59_code 17 = .ok (.iload_n 2, 1) := by decide +kernel
theorem d_Mo_manyList_18 : decode prog_13_method_59_code 18 = .ok (.iconst 2, 1) := by decide +kernel
theorem d_Mo_manyList_19 : decode prog_13_method_59_code 19 = .ok (.iload_n 3, 1) := by decide +kernel
theorem d_Mo_manyList_20 : decode prog_13_method_59_code 20 = .ok (.imul, 1) := by decide +kernel
theorem d_Mo_manyList_21 : decode prog_13_method_59_code 21 = .ok (.iadd, 1) := by decide +kernel
theorem d_Mo_manyList_22 : decode prog_13_method_59_code 22 = .ok (.iload 4, 2) := by decide +kernel
theorem d_Mo_manyList_24 : decode prog_13_method_59_code 24 = .ok (.invokevirtual 103, 3) := by decide +kernel
theorem d_Mo_manyList_27 : decode prog_13_method_59_code 27 = .ok (.goto 124, 3) := by decide +kernel
theorem d_Mo_manyList_30 : decode prog_13_method_59_code 30 = .ok (.iload_n 1, 1) := by decide +kernel
theorem d_Mo_manyList_31 : decode prog_13_method_59_code 31 = .ok (.iconst 2, 1) := by decide +kernel
theorem d_Mo_manyList_32 : decode prog_13_method_59_code 32 = .ok (.if_icmp .ne 15, 3) := by decide +kernel
theorem d_Mo_manyList_35 : decode prog_13_method_59_code 35 = .ok (.aload_n 0, 1) := by decide +kernel
theorem d_Mo_manyList_36 : decode prog_13_method_59_code 36 = .ok (.iload_n 2, 1) := by decide +kernel
theorem d_Mo_manyList_37 : decode prog_13_method_59_code 37 = .ok (.iload_n 3, 1) := by decide +kernel
theorem d_Mo_manyList_38 : decode prog_13_method_59_code 38 = .ok (.iadd, 1) := by decide +kernel
theorem d_Mo_manyList_39 : decode prog_13_method_59_code 39 = .ok (.iload 4, 2) := by decide +kernel
theorem d_Mo_manyList_41 : decode prog_13_method_59_code 41 = .ok (.invokevirtual 145, 3) := by decide +kernel
theorem d_Mo_manyList_44 : decode prog_13_method_59_code 44 = .ok (.goto 107, 3) := by decide +kernel
theorem d_Mo_manyList_47 : decode prog_13_method_59_code 47 = .ok (.iload_n 1, 1) := by decide +kernel
theorem d_Mo_manyList_48 : decode prog_13_method_59_code 48 = .ok (.iconst 3, 1) := by decide +kernel
theorem d_Mo_manyList_49 : decode prog_13_method_59_code 49 = .ok (.if_icmp .ne 14, 3) := by decide +kernel
theorem d_Mo_manyList_52 : decode prog_13_method_59_code 52 = .ok (.aload_n 0, 1) := by decide +kernel
theorem d_Mo_manyList_53 : decode prog_13_method_59_code 53 = .ok (.iload_n 2, 1) := by decide +kernel
theorem d_Mo_manyList_54 : decode prog_13_method_59_code 54 = .ok (.iload_n 3, 1) := by decide +kernel
theorem d_Mo_manyList_55 : decode prog_13_method_59_code 55 = .ok (.iload 4, 2) := by decide +kernel
theorem d_Mo_manyList_57 : decode prog_13_method_59_code 57 = .ok (.invokevirtual 294, 3) := by decide +kernel
theorem d_Mo_manyList_60 : decode prog_13_method_59_code 60 = .ok (.goto 91, 3) := by decide +kernel
theorem d_Mo_manyList_63 : decode prog_13_method_59_code 63 = .ok (.iload_n 1, 1) := by decide +kernel
theorem d_Mo_manyList_64 : decode prog_13_method_59_code 64 = .ok (.iconst 4, 1) := by decide +kernel
theorem d_Mo_manyList_65 : decode prog_13_method_59_code 65 = .ok (.if_icmp .ne 12, 3) := by decide +kernel
theorem d_Mo_manyList_68 : decode prog_13_method_59_code 68 = .ok (.aload_n 0, 1) := by decide +kernel
theorem d_Mo_manyList_69 : decode prog_13_method_59_code 69 = .ok (.iload_n 2, 1) := by decide +kernel
theorem d_Mo_manyList_70 : decode prog_13_method_59_code 70 = .ok (.iload_n 3, 1) := by decide +kernel
theorem d_Mo_manyList_71 : decode prog_13_method_59_code 71 = .ok (.invokevirtual 297, 3) := by decide +kernel
theorem d_Mo_manyList_74 : decode prog_13_method_59_code 74 = .ok (.goto 77, 3) := by decide +kernel
theorem d_Mo_manyList_77 : decode prog_13_method_59_code 77 = .ok (.iload_n 1, 1) := by decide +kernel
theorem d_Mo_manyList_78 : decode prog_13_method_59_code 78 = .ok (.iconst 5, 1) := by decide +kernel
theorem d_Mo_manyList_79 : decode prog_13_method_59_code 79 = .ok (.if_icmp .ne 15, 3) := by decide +kernel
theorem d_Mo_manyList_82 : decode prog_13_method_59_code 82 = .ok (.aload_n 0, 1) := by decide +kernel
theorem d_Mo_manyList_83 : decode prog_13_method_59_code 83 = .ok (.iload_n 2, 1) := by decide +kernel
theorem d_Mo_manyList_84 : decode prog_13_method_59_code 84 = .ok (.sipush 255, 3) := by decide +kernel
theorem d_Mo_manyList_87 : decode prog_13_method_59_code 87 = .ok (.iand, 1) := by decide +kernel
theorem d_Mo_manyList_88 : decode prog_13_method_59_code 88 = .ok (.invokevirtual 123, 3) := by decide +kernel
theorem d_Mo_manyList_91 : decode prog_13_method_59_code 91 = .ok (.goto 60, 3) := by decide +kernel
theorem d_Mo_manyList_94 : decode prog_13_method_59_code 94 = .ok (.iload_n 1, 1) := by decide +kernel
theorem d_Mo_manyList_95 : decode prog_13_method_59_code 95 = .ok (.bipush 6, 2) := by decide +kernel
theorem d_Mo_manyList_97 : decode prog_13_method_59_code 97 = .ok (.if_icmp .ne 14, 3) := by decide +kernel
theorem d_Mo_manyList_100 : decode prog_13_method_59_code 100 = .ok (.aload_n 0, 1) := by decide +kernel
theorem d_Mo_manyList_101 : decode prog_13_method_59_code 101 = .ok (.iload_n 2, 1) := by decide +kernel
theorem d_Mo_manyList_102 : decode prog_13_method_59_code 102 = .ok (.invokestatic 219, 3) := by decide +kernel
theorem d_Mo_manyList_105 : decode prog_13_method_59_code 105 = .ok (.invokevirtual 300, 3) := by decide +kernel
theorem d_Mo_manyList_108 : decode prog_13_method_59_code 108 = .ok (.goto 43, 3) := by decide +kernel
theorem d_Mo_manyList_111 : decode prog_13_method_59_code 111 = .ok (.iload_n 1, 1) := by decide +kernel
theorem d_Mo_manyList_112 : decode prog_13_method_59_code 112 = .ok (.bipush 7, 2) := by decide +kernel
theorem d_Mo_manyList_114 : decode prog_13_method_59_code 114 = .ok (.if_icmp .ne 14, 3) := by decide +kernel
theorem d_Mo_manyList_117 : decode prog_13_method_59_code 117 = .ok (.aload_n 0, 1) := by decide +kernel
theorem d_Mo_manyList_118 : decode prog_13_method_59_code 118 = .ok (.iload_n 2, 1) := by decide +kernel
theorem d_Mo_manyList_119 : decode prog_13_method_59_code 119 = .ok (.invokestatic 219, 3) := by decide +kernel
theorem d_Mo_manyList_122 : decode prog_13_method_59_code 122 = .ok (.invokevirtual 303, 3) := by decide +kernel
theorem d_Mo_manyList_125 : decode prog_13_method_59_code 125 = .ok (.goto 26, 3) := by decide +kernel
theorem d_Mo_manyList_128 : decode prog_13_method_59_code 128 = .ok (.iload_n 1, 1) := by decide +kernel
theorem d_Mo_manyList_129 : decode prog_13_method_59_code 129 = .ok (.bipush 8, 2) := by decide +kernel
theorem d_Mo_manyList_131 : decode prog_13_method_59_code 131 = .ok (.if_icmp .ne 11, 3) := by decide +kernel
theorem d_Mo_manyList_134 : decode prog_13_method_59_code 134 = .ok (.aload_n 0, 1) := by decide +kernel
theorem d_Mo_manyList_135 : decode prog_13_method_59_code 135 = .ok (.iload_n 2, 1) := by decide +kernel
theorem d_Mo_manyList_136 : decode prog_13_method_59_code 136 = .ok (.invokevirtual 107, 3) := by decide +kernel
theorem d_Mo_manyList_139 : decode prog_13_method_59_code 139 = .ok (.goto 12, 3) := by decide +kernel
theorem d_Mo_manyList_142 : decode prog_13_method_59_code 142 = .ok (.aload_n 0, 1) := by decide +kernel
theorem d_Mo_manyList_143 : decode prog_13_method_59_code 143 = .ok (.iload_n 2, 1) := by decide +kernel
theorem d_Mo_manyList_144 : decode prog_13_method_59_code 144 = .ok (.aload_n 0, 1) := by decide +kernel
theorem d_Mo_manyList_145 : decode prog_13_method_59_code 145 = .ok (.invokevirtual 178, 3) := by decide +kernel
theorem d_Mo_manyList_148 : decode prog_13_method_59_code 148 = .ok (.invokevirtual 306, 3) := by decide +kernel
theorem d_Mo_manyList_151 : decode prog_13_method_59_code 151 = .ok (.return_, 1) := by decide +kernel
theorem d_Mo_replaceIf_0 : decode prog_13_method_60_code 0 = .ok (.aload_n 0, 1) := by decide +kernel
theorem d_Mo_replaceIf_1 : decode prog_13_method_60_code 1 = .ok (.getfield 77, 3) := by decide +kernel
theorem d_Mo_replaceIf_4 : decode prog_13_method_60_code 4 = .ok (.ifCond .ne 9, 3) := by decide +kernel
theorem d_Mo_replaceIf_7 : decode prog_13_method_60_code 7 = .ok (.aload_n 0, 1) := by decide +kernel
theorem d_Mo_replaceIf_8 : decode prog_13_method_60_code 8 = .ok (.iload_n 1, 1) := by decide +kernel
theorem d_Mo_replaceIf_9 : decode prog_13_method_60_code 9 = .ok (.iload_n 2, 1) := by decide +kernel
theorem d_Mo_replaceIf_10 : decode prog_13_method_60_code 10 = .ok (.invokevirtual 111, 3) := by decide +kernel
theorem d_Mo_replaceIf_13 : decode prog_13_method_60_code 13 = .ok (.return_, 1) := by decide +kernel
theorem d_Mo_replace_0 : decode prog_13_method_13_code 0 = .ok (.aload_n 0, 1) := by decide +kernel
theorem d_Mo_replace_1 : decode prog_13_method_13_code 1 = .ok (.iload_n 1, 1) := by decide +kernel
theorem d_Mo_replace_2 : decode prog_13_method_13_code 2 = .ok (.bipush 48, 2) := by decide +kernel
theorem d_Mo_replace_4 : decode prog_13_method_13_code 4 = .ok (.if_icmp .ge 7, 3) := by decide +kernel
theorem d_Mo_replace_7 : decode prog_13_method_13_code 7 = .ok (.iconst 1, 1) := by decide +kernel
theorem d_Mo_replace_8 : decode prog_13_method_13_code 8 = .ok (.goto 4, 3) := by decide +kernel
theorem d_Mo_replace_11 : decode prog_13_method_13_code 11 = .ok (.iconst 0, 1) := by decide +kernel
theorem d_Mo_replace_12 : decode prog_13_method_13_code 12 = .ok (.iconst 1, 1) := by decide +kernel
theorem d_Mo_replace_13 : decode prog_13_method_13_code 13 = .ok (.invokevirtual 82, 3) := by decide +kernel
theorem d_Mo_replace_16 : decode prog_13_method_13_code 16 = .ok (.ifCond .ne 4, 3) := by decide +kernel
theorem d_Mo_replace_19 : decode prog_13_method_13_code 19 = .ok (.return_, 1) := by decide +kernel
theorem d_Mo_replace_20 : decode prog_13_method_13_code 20 = .ok (.iload_n 1, 1) := by decide +kernel
theorem d_Mo_replace_21 : decode prog_13_method_13_code 21 = .ok (.bipush 16, 2) := by decide +kernel
theorem d_Mo_replace_23 : decode prog_13_method_13_code 23 = .ok (.if_icmp .lt 24, 3) := by decide +kernel
theorem d_Mo_replace_26 : decode prog_13_method_13_code 26 = .ok (.aload_n 0, 1) := by decide +kernel
theorem d_Mo_replace_27 : decode prog_13_method_13_code 27 = .ok (.aload_n 0, 1) := by decide +kernel
theorem d_Mo_replace_28 : decode prog_13_method_13_code 28 = .ok (.bipush 10, 2) := by decide +kernel
theorem d_Mo_replace_30 : decode prog_13_method_13_code 30 = .ok (.invokevirtual 100, 3) := by decide +kernel
theorem d_Mo_replace_33 : decode prog_13_method_13_code 33 = .ok (.iconst 2, 1) := by decide +kernel
theorem d_Mo_replace_34 : decode prog_13_method_13_code 34 = .ok (.iload_n 1, 1) := by decide +kernel
theorem d_Mo_replace_35 : decode prog_13_method_13_code 35 = .ok (.bipush 16, 2) := by decide +kernel
theorem d_Mo_replace_37 : decode prog_13_method_13_code 37 = .ok (.isub, 1) := by decide +kernel
theorem d_Mo_replace_38 : decode prog_13_method_13_code 38 = .ok (.imul, 1) := by decide +kernel
theorem d_Mo_replace_39 : decode prog_13_method_13_code 39 = .ok (.iadd, 1) := by decide +kernel
theorem d_Mo_replace_40 : decode prog_13_method_13_code 40 = .ok (.iload_n 2, 1) := by decide +kernel
theorem d_Mo_replace_41 : decode prog_13_method_13_code 41 = .ok (.invokevirtual 103, 3) := by decide +kernel
theorem d_Mo_replace_44 : decode prog_13_method_13_code 44 = .ok (.goto 104, 3) := by decide +kernel
theorem d_Mo_replace_47 : decode prog_13_method_13_code 47 = .ok (.iload_n 1, 1) := by decide +kernel
theorem d_Mo_replace_48 : decode prog_13_method_13_code 48 = .ok (.ifCond .ne 50, 3) := by decide +kernel
theorem d_Mo_replace_51 : decode prog_13_method_13_code 51 = .ok (.aload_n 0, 1) := by decide +kernel
theorem d_Mo_replace_52 : decode prog_13_method_13_code 52 = .ok (.aload_n 0, 1) := by decide +kernel
theorem d_Mo_replace_53 : decode prog_13_method_13_code 53 = .ok (.getfield 94, 3) := by decide +kernel
theorem d_Mo_replace_56 : decode prog_13_method_13_code 56 = .ok (.aload_n 0, 1) := by decide +kernel
theorem d_Mo_replace_57 : decode prog_13_method_13_code 57 = .ok (.getfield 19, 3) := by decide +kernel
theorem d_Mo_replace_60 : decode prog_13_method_13_code 60 = .ok (.aload_n 0, 1) := by decide +kernel
theorem d_Mo_replace_61 : decode prog_13_method_13_code 61 = .ok (.getfield 97, 3) := by decide +kernel
theorem d_Mo_replace_64 : decode prog_13_method_13_code 64 = .ok (.iaload, 1) := by decide +kernel
theorem d_Mo_replace_65 : decode prog_13_method_13_code 65 = .ok (.if_icmp .le 7, 3) := by decide +kernel
theorem d_Mo_replace_68 : decode prog_13_method_13_code 68 = .ok (.iconst 1, 1) := by decide +kernel
theorem d_Mo_replace_69 : decode prog_13_method_13_code 69 = .ok (.goto 4, 3) := by decide +kernel
theorem d_Mo_replace_72 : decode prog_13_method_13_code 72 = .ok (.iconst 0, 1) := by decide +kernel
theorem d_Mo_replace_73 : decode prog_13_method_13_code 73 = .ok (.iconst 2, 1) := by decide +kernel
theorem d_Mo_replace_74 : decode prog_13_method_13_code 74 = .ok (.invokevirtual 82, 3) := by decide +kernel
theorem d_Mo_replace_77 : decode prog_13_method_13_code 77 = .ok (.ifCond .eq 21, 3) := by decide +kernel
theorem d_Mo_replace_80 : decode prog_13_method_13_code 80 = .ok (.aload_n 0, 1) := by decide +kernel
theorem d_Mo_replace_81 : decode prog_13_method_13_code 81 = .ok (.getfield 13, 3) := by decide +kernel
theorem d_Mo_replace_84 : decode prog_13_method_13_code 84 = .ok (.aload_n 0, 1) := by decide +kernel
theorem d_Mo_replace_85 : decode prog_13_method_13_code 85 = .ok (.getfield 94, 3) := by decide +kernel
theorem d_Mo_replace_88 : decode prog_13_method_13_code 88 = .ok (.iconst 1, 1) := by decide +kernel
theorem d_Mo_replace_89 : decode prog_13_method_13_code 89 = .ok (.isub, 1) := by decide +kernel
theorem d_Mo_replace_90 : decode prog_13_method_13_code 90 = .ok (.iload_n 2, 1) := by decide +kernel
theorem d_Mo_replace_91 : decode prog_13_method_13_code 91 = .ok (.ldc 80, 2) := by decide +kernel
theorem d_Mo_replace_93 : decode prog_13_method_13_code 93 = .ok (.iand, 1) := by decide +kernel
theorem d_Mo_replace_94 : decode prog_13_method_13_code 94 = .ok (.iastore, 1) := by decide +kernel
theorem d_Mo_replace_95 : decode prog_13_method_13_code 95 = .ok (.goto 53, 3) := by decide +kernel
theorem d_Mo_replace_98 : decode prog_13_method_13_code 98 = .ok (.iload_n 1, 1) := by decide +kernel
theorem d_Mo_replace_99 : decode prog_13_method_13_code 99 = .ok (.ifCond .le 49, 3) := by decide +kernel
theorem d_Mo_replace_102 : decode prog_13_method_13_code 102 = .ok (.aload_n 0, 1) := by decide +kernel
theorem d_Mo_replace_103 : decode prog_13_method_13_code 103 = .ok (.iload_n 1, 1) := by decide +kernel
theorem d_Mo_replace_104 : decode prog_13_method_13_code 104 = .ok (.aload_n 0, 1) := by decide +kernel
theorem d_Mo_replace_105 : decode prog_13_method_13_code 105 = .ok (.getfield 16, 3) := by decide +kernel
theorem d_Mo_replace_108 : decode prog_13_method_13_code 108 = .ok (.aload_n 0, 1) := by decide +kernel
theorem d_Mo_replace_109 : decode prog_13_method_13_code 109 = .ok (.getfield 97, 3) := by decide +kernel
theorem d_Mo_replace_112 : decode prog_13_method_13_code 112 = .ok (.iaload, 1) := by decide +kernel
theorem d_Mo_replace_113 : decode prog_13_method_13_code 113 = .ok (.if_icmp .gt 7, 3) := by decide +kernel
theorem d_Mo_replace_116 : decode prog_13_method_13_code 116 = .ok (.iconst 1, 1) := by decide +kernel
theorem d_Mo_replace_117 : decode prog_13_method_13_code 117 = .ok (.goto 4, 3) := by decide +kernel
theorem d_Mo_replace_120 : decode prog_13_method_13_code 120 = .ok (.iconst 0, 1) := by decide +kernel
theorem d_Mo_replace_121 : decode prog_13_method_13_code 121 = .ok (.iconst 1, 1) := by decide +kernel
theorem d_Mo_replace_122 : decode prog_13_method_13_code 122 = .ok (.invokevirtual 82, 3) := by decide +kernel
theorem d_Mo_replace_125 : decode prog_13_method_13_code 125 = .ok (.ifCond .eq 23, 3) := by decide +kernel
theorem d_Mo_replace_128 : decode prog_13_method_13_code 128 = .ok (.aload_n 0, 1) := by decide +kernel
theorem d_Mo_replace_129 : decode prog_13_method_13_code 129 = .ok (.getfield 28, 3) := by decide +kernel
theorem d_Mo_replace_132 : decode prog_13_method_13_code 132 = .ok (.bipush 15, 2) := by decide +kernel
theorem d_Mo_replace_134 : decode prog_13_method_13_code 134 = .ok (.aload_n 0, 1) := by decide +kernel
theorem d_Mo_replace_135 : decode prog_13_method_13_code 135 = .ok (.getfield 97, 3) := by decide +kernel
theorem d_Mo_replace_138 : decode prog_13_method_13_code 138 = .ok (.imul, 1) := by decide +kernel
theorem d_Mo_replace_139 : decode prog_13_method_13_code 139 = .ok (.iload_n 1, 1) := by decide +kernel
theorem d_Mo_replace_140 : decode prog_13_method_13_code 140 = .ok (.iadd, 1) := by decide +kernel
theorem d_Mo_replace_141 : decode prog_13_method_13_code 141 = .ok (.iconst 1, 1) := by decide +kernel
theorem d_Mo_replace_142 : decode prog_13_method_13_code 142 = .ok (.isub, 1) := by decide +kernel
theorem d_Mo_replace_143 : decode prog_13_method_13_code 143 = .ok (.iload_n 2, 1) := by decide +kernel
theorem d_Mo_replace_144 : decode prog_13_method_13_code 144 = .ok (.ldc 80, 2) := by decide +kernel
theorem d_Mo_replace_146 : decode prog_13_method_13_code 146 = .ok (.iand, 1) := by decide +kernel
theorem d_Mo_replace_147 : decode prog_13_method_13_code 147 = .ok (.iastore, 1) := by decide +kernel
theorem d_Mo_replace_148 : decode prog_13_method_13_code 148 = .ok (.return_, 1) := by decide +kernel
theorem d_Mo_setWord_0 : decode prog_13_method_9_code 0 = .ok (.aload_n 0, 1) := by decide +kernel
theorem d_Mo_setWord_1 : decode prog_13_method_9_code 1 = .ok (.aload_n 0, 1) := by decide +kernel
theorem d_Mo_setWord_2 : decode prog_13_method_9_code 2 = .ok (.iload_n 1, 1) := by decide +kernel
theorem d_Mo_setWord_3 : decode prog_13_method_9_code 3 = .ok (.invokevirtual 90, 3) := by decide +kernel
theorem d_Mo_setWord_6 : decode prog_13_method_9_code 6 = .ok (.ifCond .eq 17, 3) := by decide +kernel
theorem d_Mo_setWord_9 : decode prog_13_method_9_code 9 = .ok (.aload_n 0, 1) := by decide +kernel
theorem d_Mo_setWord_10 : decode prog_13_method_9_code 10 = .ok (.iload_n 1, 1) := by decide +kernel
theorem d_Mo_setWord_11 : decode prog_13_method_9_code 11 = .ok (.iconst 1, 1) := by decide +kernel
theorem d_Mo_setWord_12 : decode prog_13_method_9_code 12 = .ok (.iadd, 1) := by decide +kernel
theorem d_Mo_setWord_13 : decode prog_13_method_9_code 13 = .ok (.invokevirtual 90, 3) := by decide +kernel
theorem d_Mo_setWord_16 : decode prog_13_method_9_code 16 = .ok (.ifCond .eq 7, 3) := by decide +kernel
theorem d_Mo_setWord_19 : decode prog_13_method_9_code 19 = .ok (.iconst 1, 1) := by decide +kernel
theorem d_Mo_setWord_20 : decode prog_13_method_9_code 20 = .ok (.goto 4, 3) := by decide +kernel
theorem d_Mo_setWord_23 : decode prog_13_method_9_code 23 = .ok (.iconst 0, 1) := by decide +kernel
theorem d_Mo_setWord_24 : decode prog_13_method_9_code 24 = .ok (.iconst 1, 1) := by decide +kernel
theorem d_Mo_setWord_25 : decode prog_13_method_9_code 25 = .ok (.invokevirtual 82, 3) := by decide +kernel
theorem d_Mo_setWord_28 : decode prog_13_method_9_code 28 = .ok (.ifCond .eq 30, 3) := by decide +kernel
theorem d_Mo_setWord_31 : decode prog_13_method_9_code 31 = .ok (.aload_n 0, 1) := by decide +kernel
theorem d_Mo_setWord_32 : decode prog_13_method_9_code 32 = .ok (.getfield 7, 3) := by decide +kernel
theorem d_Mo_setWord_35 : decode prog_13_method_9_code 35 = .ok (.iload_n 1, 1) := by decide +kernel
theorem d_Mo_setWord_36 : decode prog_13_method_9_code 36 = .ok (.iload_n 2, 1) := by decide +kernel
theorem d_Mo_setWord_37 : decode prog_13_method_9_code 37 = .ok (.bipush 8, 2) := by decide +kernel
theorem d_Mo_setWord_39 : decode prog_13_method_9_code 39 = .ok (.ishr, 1) := by decide +kernel
theorem d_Mo_setWord_40 : decode prog_13_method_9_code 40 = .ok (.sipush 255, 3) := by decide +kernel
theorem d_Mo_setWord_43 : decode prog_13_method_9_code 43 = .ok (.iand, 1) := by decide +kernel
theorem d_Mo_setWord_44 : decode prog_13_method_9_code 44 = .ok (.iastore, 1) := by decide +kernel
theorem d_Mo_setWord_45 : decode prog_13_method_9_code 45 = .ok (.aload_n 0, 1) := by decide +kernel
theorem d_Mo_setWord_46 : decode prog_13_method_9_code 46 = .ok (.getfield 7, 3) := by decide +kernel
theorem d_Mo_setWord_49 : decode prog_13_method_9_code 49 = .ok (.iload_n 1, 1) := by decide +kernel
theorem d_Mo_setWord_50 : decode prog_13_method_9_code 50 = .ok (.iconst 1, 1) := by decide +kernel
theorem d_Mo_setWord_51 : decode prog_13_method_9_code 51 = .ok (.iadd, 1) := by decide +kernel
theorem d_Mo_setWord_52 : decode prog_13_method_9_code 52 = .ok (.iload_n 2, 1) := by decide +kernel
theorem d_Mo_setWord_53 : decode prog_13_method_9_code 53 = .ok (.sipush 255, 3) := by decide +kernel
theorem d_Mo_setWord_56 : decode prog_13_method_9_code 56 = .ok (.iand, 1) := by decide +kernel
theorem d_Mo_setWord_57 : decode prog_13_method_9_code 57 = .ok (.iastore, 1) := by decide +kernel
theorem d_Mo_setWord_58 : decode prog_13_method_9_code 58 = .ok (.return_, 1) := by decide +kernel
theorem d_Mo_own_0 : decode prog_13_method_7_code 0 = .ok (.iload_n 1, 1) := by decide +kernel
theorem d_Mo_own_1 : decode prog_13_method_7_code 1 = .ok (.bipush 16, 2) := by decide +kernel
theorem d_Mo_own_3 : decode prog_13_method_7_code 3 = .ok (.if_icmp .lt 37, 3) := by decide +kernel
theorem d_Mo_own_6 : decode prog_13_method_7_code 6 = .ok (.iload_n 1, 1) := by decide +kernel
theorem d_Mo_own_7 : decode prog_13_method_7_code 7 = .ok (.sipush 512, 3) := by decide +kernel
theorem d_Mo_own_10 : decode prog_13_method_7_code 10 = .ok (.if_icmp .ge 30, 3) := by decide +kernel
theorem d_Mo_own_13 : decode prog_13_method_7_code 13 = .ok (.iload_n 1, 1) := by decide +kernel
theorem d_Mo_own_14 : decode prog_13_method_7_code 14 = .ok (.sipush 256, 3) := by decide +kernel
theorem d_Mo_own_17 : decode prog_13_method_7_code 17 = .ok (.aload_n 0, 1) := by decide +kernel
theorem d_Mo_own_18 : decode prog_13_method_7_code 18 = .ok (.getfield 7, 3) := by decide +kernel
theorem d_Mo_own_21 : decode prog_13_method_7_code 21 = .ok (.bipush 12, 2) := by decide +kernel
theorem d_Mo_own_23 : decode prog_13_method_7_code 23 = .ok (.iaload, 1) := by decide +kernel
theorem d_Mo_own_24 : decode prog_13_method_7_code 24 = .ok (.imul, 1) := by decide +kernel
theorem d_Mo_own_25 : decode prog_13_method_7_code 25 = .ok (.aload_n 0, 1) := by decide +kernel
theorem d_Mo_own_26 : decode prog_13_method_7_code 26 = .ok (.getfield 7, 3) := by decide +kernel
theorem d_Mo_own_29 : decode prog_13_method_7_code 29 = .ok (.bipush 13, 2) := by decide +kernel
theorem d_Mo_own_31 : decode prog_13_method_7_code 31 = .ok (.iaload, 1) := by decide +kernel
theorem d_Mo_own_32 : decode prog_13_method_7_code 32 = .ok (.iadd, 1) := by decide +kernel
theorem d_Mo_own_33 : decode prog_13_method_7_code 33 = .ok (.if_icmp .ge 7, 3) := by decide +kernel
theorem d_Mo_own_36 : decode prog_13_method_7_code 36 = .ok (.iconst 1, 1) := by decide +kernel
theorem d_Mo_own_37 : decode prog_13_method_7_code 37 = .ok (.goto 4, 3) := by decide +kernel
theorem d_Mo_own_40 : decode prog_13_method_7_code 40 = .ok (.iconst 0, 1) := by decide +kernel
theorem d_Mo_own_41 : decode prog_13_method_7_code 41 = .ok (.ireturn, 1) := by decide +kernel
theorem d_Mo_push_0 : decode prog_13_method_10_code 0 = .ok (.aload_n 0, 1) := by decide +kernel
theorem d_Mo_push_1 : decode prog_13_method_10_code 1 = .ok (.aload_n 0, 1) := by decide +kernel
theorem d_Mo_push_2 : decode prog_13_method_10_code 2 = .ok (.getfield 94, 3) := by decide +kernel
theorem d_Mo_push_5 : decode prog_13_method_10_code 5 = .ok (.bipush 48, 2) := by decide +kernel
theorem d_Mo_push_7 : decode prog_13_method_10_code 7 = .ok (.if_icmp .ge 7, 3) := by decide +kernel
theorem d_Mo_push_10 : decode prog_13_method_10_code 10 = .ok (.iconst 1, 1) := by decide +kernel
theorem d_Mo_push_11 : decode prog_13_method_10_code 11 = .ok (.goto 4, 3) := by decide +kernel
theorem d_Mo_push_14 : decode prog_13_method_10_code 14 = .ok (.iconst 0, 1) := by decide +kernel
theorem d_Mo_push_15 : decode prog_13_method_10_code 15 = .ok (.iconst 2, 1) := by decide +kernel
theorem d_Mo_push_16 : decode prog_13_method_10_code 16 = .ok (.invokevirtual 82, 3) := by decide +kernel
theorem d_Mo_push_19 : decode prog_13_method_10_code 19 = .ok (.ifCond .eq 26, 3) := by decide +kernel
theorem d_Mo_push_22 : decode prog_13_method_10_code 22 = .ok (.aload_n 0, 1) := by decide +kernel
theorem d_Mo_push_23 : decode prog_13_method_10_code 23 = .ok (.getfield 13, 3) := by decide +kernel
theorem d_Mo_push_26 : decode prog_13_method_10_code 26 = .ok (.aload_n 0, 1) := by decide +kernel
theorem d_Mo_push_27 : decode prog_13_method_10_code 27 = .ok (.getfield 94, 3) := by decide +kernel
theorem d_Mo_push_30 : decode prog_13_method_10_code 30 = .ok (.iload_n 1, 1) := by decide +kernel
theorem d_Mo_push_31 : decode prog_13_method_10_code 31 = .ok (.ldc 80, 2) := by decide +kernel
theorem d_Mo_push_33 : decode prog_13_method_10_code 33 = .ok (.iand, 1) := by decide +kernel
theorem d_Mo_push_34 : decode prog_13_method_10_code 34 = .ok (.iastore, 1) := by decide +kernel
theorem d_Mo_push_35 : decode prog_13_method_10_code 35 = .ok (.aload_n 0, 1) := by decide +kernel
theorem d_Mo_push_36 : decode prog_13_method_10_code 36 = .ok (.dup, 1) := by decide +kernel
theorem d_Mo_push_37 : decode prog_13_method_10_code 37 = .ok (.getfield 94, 3) := by decide +kernel
theorem d_Mo_push_40 : decode prog_13_method_10_code 40 = .ok (.iconst 1, 1) := by decide +kernel
theorem d_Mo_push_41 : decode prog_13_method_10_code 41 = .ok (.iadd, 1) := by decide +kernel
theorem d_Mo_push_42 : decode prog_13_method_10_code 42 = .ok (.putfield 94, 3) := by decide +kernel
theorem d_Mo_push_45 : decode prog_13_method_10_code 45 = .ok (.return_, 1) := by decide +kernel
theorem d_Mo_signed_0 : decode prog_13_method_4_code 0 = .ok (.iload_n 0, 1) := by decide +kernel
theorem d_Mo_signed_1 : decode prog_13_method_4_code 1 = .ok (.ldc 80, 2) := by decide +kernel
theorem d_Mo_signed_3 : decode prog_13_method_4_code 3 = .ok (.iand, 1) := by decide +kernel
theorem d_Mo_signed_4 : decode prog_13_method_4_code 4 = .ok (.istore_n 1, 1) := by decide +kernel
theorem d_Mo_signed_5 : decode prog_13_method_4_code 5 = .ok (.iload_n 1, 1) := by decide +kernel
theorem d_Mo_signed_6 : decode prog_13_method_4_code 6 = .ok (.sipush 32767, 3) := by decide +kernel
theorem d_Mo_signed_9 : decode prog_13_method_4_code 9 = .ok (.if_icmp .le 10, 3) := by decide +kernel
theorem d_Mo_signed_12 : decode prog_13_method_4_code 12 = .ok (.iload_n 1, 1) := by decide +kernel
theorem d_Mo_signed_13 : decode prog_13_method_4_code 13 = .ok (.ldc 81, 2) := by decide +kernel
theorem d_Mo_signed_15 : decode prog_13_method_4_code 15 = .ok (.isub, 1) := by decide +kernel
theorem d_Mo_signed_16 : decode prog_13_method_4_code 16 = .ok (.goto 4, 3) := by decide +kernel
theorem d_Mo_signed_19 : decode prog_13_method_4_code 19 = .ok (.iload_n 1, 1) := by decide +kernel
theorem d_Mo_signed_20 : decode prog_13_method_4_code 20 = .ok (.ireturn, 1) := by decide +kernel
theorem d_Mo_draw_0 : decode prog_13_method_61_code 0 = .ok (.iload_n 1, 1) := by decide +kernel
theorem d_Mo_draw_1 : decode prog_13_method_61_code 1 = .ok (.ifCond .le 36, 3) := by decide +kernel
theorem d_Mo_draw_4 : decode prog_13_method_61_code 4 = .ok (.aload_n 0, 1) := by decide +kernel
theorem d_Mo_draw_5 : decode prog_13_method_61_code 5 = .ok (.bipush 13, 2) := by decide +kernel
theorem d_Mo_draw_7 : decode prog_13_method_61_code 7 = .ok (.aload_n 0, 1) := by decide +kernel
theorem d_Mo_draw_8 : decode prog_13_method_61_code 8 = .ok (.getfield 309, 3) := by decide +kernel
theorem d_Mo_draw_11 : decode prog_13_method_61_code 11 = .ok (.imul, 1) := by decide +kernel
theorem d_Mo_draw_12 : decode prog_13_method_61_code 12 = .ok (.bipush 7, 2) := by decide +kernel
theorem d_Mo_draw_14 : decode prog_13_method_61_code 14 = .ok (.iadd, 1) := by decide +kernel
theorem d_Mo_draw_15 : decode prog_13_method_61_code 15 = .ok (.sipush 1024, 3) := by decide +kernel
theorem d_Mo_draw_18 : decode prog_13_method_61_code 18 = .ok (.irem, 1) := by decide +kernel
theorem d_Mo_draw_19 : decode prog_13_method_61_code 19 = .ok (.putfield 309, 3) := by decide +kernel
theorem d_Mo_draw_22 : decode prog_13_method_61_code 22 = .ok (.aload_n 0, 1) := by decide +kernel
theorem d_Mo_draw_23 : decode prog_13_method_61_code 23 = .ok (.iconst 1, 1) := by decide +kernel
theorem d_Mo_draw_24 : decode prog_13_method_61_code 24 = .ok (.aload_n 0, 1) := by decide +kernel
theorem d_Mo_draw_25 : decode prog_13_method_61_code 25 = .ok (.getfield 309, 3) := by decide +kernel
theorem d_Mo_draw_28 : decode prog_13_method_61_code 28 = .ok (.iload_n 1, 1) := by decide +kernel
theorem d_Mo_draw_29 : decode prog_13_method_61_code 29 = .ok (.irem, 1) := by decide +kernel
theorem d_Mo_draw_30 : decode prog_13_method_61_code 30 = .ok (.iadd, 1) := by decide +kernel
theorem d_Mo_draw_31 : decode prog_13_method_61_code 31 = .ok (.invokevirtual 216, 3) := by decide +kernel
theorem d_Mo_draw_34 : decode prog_13_method_61_code 34 = .ok (.goto 18, 3) := by decide +kernel
theorem d_Mo_draw_37 : decode prog_13_method_61_code 37 = .ok (.aload_n 0, 1) := by decide +kernel
theorem d_Mo_draw_38 : decode prog_13_method_61_code 38 = .ok (.iload_n 1, 1) := by decide +kernel
theorem d_Mo_draw_39 : decode prog_13_method_61_code 39 = .ok (.ineg, 1) := by decide +kernel
theorem d_Mo_draw_40 : decode prog_13_method_61_code 40 = .ok (.sipush 1024, 3) := by decide +kernel
theorem d_Mo_draw_43 : decode prog_13_method_61_code 43 = .ok (.irem, 1) := by decide +kernel
theorem d_Mo_draw_44 : decode prog_13_method_61_code 44 = .ok (.putfield 309, 3) := by decide +kernel
theorem d_Mo_draw_47 : decode prog_13_method_61_code 47 = .ok (.aload_n 0, 1) := by decide +kernel
theorem d_Mo_draw_48 : decode prog_13_method_61_code 48 = .ok (.iconst 0, 1) := by decide +kernel
theorem d_Mo_draw_49 : decode prog_13_method_61_code 49 = .ok (.invokevirtual 216, 3) := by decide +kernel
theorem d_Mo_draw_52 : decode prog_13_method_61_code 52 = .ok (.return_, 1) := by decide +kernel
theorem d_Mo_give_0 : decode prog_13_method_15_code 0 = .ok (.aload_n 0, 1) := by decide +kernel
theorem d_Mo_give_1 : decode prog_13_method_15_code 1 = .ok (.aload_n 0, 1) := by decide +kernel
theorem d_Mo_give_2 : decode prog_13_method_15_code 2 = .ok (.getfield 114, 3) := by decide +kernel
theorem d_Mo_give_5 : decode prog_13_method_15_code 5 = .ok (.iload_n 1, 1) := by decide +kernel
theorem d_Mo_give_6 : decode prog_13_method_15_code 6 = .ok (.invokevirtual 117, 3) := by decide +kernel
theorem d_Mo_give_9 : decode prog_13_method_15_code 9 = .ok (.return_, 1) := by decide +kernel
theorem d_Mo_write_0 : decode prog_13_method_14_code 0 = .ok (.iload_n 1, 1) := by decide +kernel
theorem d_Mo_write_1 : decode prog_13_method_14_code 1 = .ok (.ifCond .ne 11, 3) := by decide +kernel
theorem d_Mo_write_4 : decode prog_13_method_14_code 4 = .ok (.aload_n 0, 1) := by decide +kernel
theorem d_Mo_write_5 : decode prog_13_method_14_code 5 = .ok (.iload_n 2, 1) := by decide +kernel
theorem d_Mo_write_6 : decode prog_13_method_14_code 6 = .ok (.invokevirtual 107, 3) := by decide +kernel
theorem d_Mo_write_9 : decode prog_13_method_14_code 9 = .ok (.goto 9, 3) := by decide +kernel
theorem d_Mo_write_12 : decode prog_13_method_14_code 12 = .ok (.aload_n 0, 1) := by decide +kernel
theorem d_Mo_write_13 : decode prog_13_method_14_code 13 = .ok (.iload_n 1, 1) := by decide +kernel
theorem d_Mo_write_14 : decode prog_13_method_14_code 14 = .ok (.iload_n 2, 1) := by decide +kernel
theorem d_Mo_write_15 : decode prog_13_method_14_code 15 = .ok (.invokevirtual 111, 3) := by decide +kernel
theorem d_Mo_write_18 : decode prog_13_method_14_code 18 = .ok (.return_, 1) := by decide +kernel
theorem d_Mo_showNumber_0 : decode prog_13_method_17_code 0 = .ok (.iload_n 1, 1) := by decide +kernel
theorem d_Mo_showNumber_1 : decode prog_13_method_17_code 1 = .ok (.ifCond .ge 9, 3) := by decide +kernel
theorem d_Mo_showNumber_4 : decode prog_13_method_17_code 4 = .ok (.aload_n 0, 1) := by decide +kernel
theorem d_Mo_showNumber_5 : decode prog_13_method_17_code 5 = .ok (.bipush 45, 2) := by decide +kernel
theorem d_Mo_showNumber_7 : decode prog_13_method_17_code 7 = .ok (.invokevirtual 123, 3) := by decide +kernel
theorem d_Mo_showNumber_10 : decode prog_13_method_17_code 10 = .ok (.iload_n 1, 1) := by decide +kernel
theorem d_Mo_showNumber_11 : decode prog_13_method_17_code 11 = .ok (.ifCond .ge 8, 3) := by decide +kernel
theorem d_Mo_showNumber_14 : decode prog_13_method_17_code 14 = .ok (.iload_n 1, 1) := by decide +kernel
theorem d_Mo_showNumber_15 : decode prog_13_method_17_code 15 = .ok (.ineg, 1) := by decide +kernel
theorem d_Mo_showNumber_16 : decode prog_13_method_17_code 16 = .ok (.goto 4, 3) := by decide +kernel
theorem d_Mo_showNumber_19 : decode prog_13_method_17_code 19 = .ok (.iload_n 1, 1) := by decide +kernel
theorem d_Mo_showNumber_20 : decode prog_13_method_17_code 20 = .ok (.istore_n 2, 1) := by decide +kernel
theorem d_Mo_showNumber_21 : decode prog_13_method_17_code 21 = .ok (.sipush 10000, 3) := by decide +kernel
theorem d_Mo_showNumber_24 : decode prog_13_method_17_code 24 = .ok (.istore_n 3, 1) := by decide +kernel
theorem d_Mo_showNumber_25 : decode prog_13_method_17_code 25 = .ok (.iload_n 3, 1) := by decide +kernel
theorem d_Mo_showNumber_26 : decode prog_13_method_17_code 26 = .ok (.iconst 1, 1) := by decide +kernel
theorem d_Mo_showNumber_27 : decode prog_13_method_17_code 27 = .ok (.if_icmp .le 16, 3) := by decide +kernel
theorem d_Mo_showNumber_30 : decode prog_13_method_17_code 30 = .ok (.iload_n 3, 1) := by decide +kernel
theorem d_Mo_showNumber_31 : decode prog_13_method_17_code 31 = .ok (.iload_n 2, 1) := by decide +kernel
theorem d_Mo_showNumber_32 : decode prog_13_method_17_code 32 = .ok (.if_icmp .le 11, 3) := by decide +kernel
theorem d_Mo_showNumber_35 : decode prog_13_method_17_code 35 = .ok (.iload_n 3, 1) := by decide +kernel
theorem d_Mo_showNumber_36 : decode prog_13_method_17_code 36 = .ok (.bipush 10, 2) := by decide +kernel
theorem d_Mo_showNumber_38 : decode prog_13_method_17_code 38 = .ok (.idiv, 1) := by decide +kernel
theorem d_Mo_showNumber_39 : decode prog_13_method_17_code 39 = .ok (.istore_n 3, 1) := by decide +kernel
theorem d_Mo_showNumber_40 : decode prog_13_method_17_code 40 = .ok (.goto (-15), 3) := by decide +kernel
theorem d_Mo_showNumber_43 : decode prog_13_method_17_code 43 = .ok (.iload_n 3, 1) := by decide +kernel
theorem d_Mo_showNumber_44 : decode prog_13_method_17_code 44 = .ok (.ifCond .le 24, 3) := by decide +kernel
theorem d_Mo_showNumber_47 : decode prog_13_method_17_code 47 = .ok (.aload_n 0, 1) := by decide +kernel
theorem d_Mo_showNumber_48 : decode prog_13_method_17_code 48 = .ok (.bipush 48, 2) := by decide +kernel
theorem d_Mo_showNumber_50 : decode prog_13_method_17_code 50 = .ok (.iload_n 2, 1) := by decide +kernel
theorem d_Mo_showNumber_51 : decode prog_13_method_17_code 51 = .ok (.iload_n 3, 1) := by decide +kernel
theorem d_Mo_showNumber_52 : decode prog_13_method_17_code 52 = .ok (.idiv, 1) := by decide +kernel
theorem d_Mo_showNumber_53 : decode prog_13_method_17_code 53 = .ok (.bipush 10, 2) := by decide +kernel
theorem d_Mo_showNumber_55 : decode prog_13_method_17_code 55 = .ok (.irem, 1) := by decide +kernel
theorem d_Mo_showNumber_56 : decode prog_13_method_17_code 56 = .ok (.iadd, 1) := by decide +kernel
theorem d_Mo_showNumber_57 : decode prog_13_method_17_code 57 = .ok (.invokevirtual 123, 3) := by decide +kernel
theorem d_Mo_showNumber_60 : decode prog_13_method_17_code 60 = .ok (.iload_n 3, 1) := by decide +kernel
theorem d_Mo_showNumber_61 : decode prog_13_method_17_code 61 = .ok (.bipush 10, 2) := by decide +kernel
theorem d_Mo_showNumber_63 : decode prog_13_method_17_code 63 = .ok (.idiv, 1) := by decide +kernel
theorem d_Mo_showNumber_64 : decode prog_13_method_17_code 64 = .ok (.istore_n 3, 1) := by decide +kernel
theorem d_Mo_showNumber_65 : decode prog_13_method_17_code 65 = .ok (.goto (-22), 3) := by decide +kernel
theorem d_Mo_showNumber_68 : decode prog_13_method_17_code 68 = .ok (.return_, 1) := by decide +kernel
theorem d_Mo_show_0 : decode prog_13_method_16_code 0 = .ok (.aload_n 0, 1) := by decide +kernel
theorem d_Mo_show_1 : decode prog_13_method_16_code 1 = .ok (.getfield 77, 3) := by decide +kernel
theorem d_Mo_show_4 : decode prog_13_method_16_code 4 = .ok (.ifCond .le 4, 3) := by decide +kernel
theorem d_Mo_show_7 : decode prog_13_method_16_code 7 = .ok (.return_, 1) := by decide +kernel
theorem d_Mo_show_8 : decode prog_13_method_16_code 8 = .ok (.aload_n 0, 1) := by decide +kernel
theorem d_Mo_show_9 : decode prog_13_method_16_code 9 = .ok (.getfield 52, 3) := by decide +kernel
theorem d_Mo_show_12 : decode prog_13_method_16_code 12 = .ok (.aload_n 0, 1) := by decide +kernel
theorem d_Mo_show_13 : decode prog_13_method_16_code 13 = .ok (.getfield 120, 3) := by decide +kernel
theorem d_Mo_show_16 : decode prog_13_method_16_code 16 = .ok (.bipush 64, 2) := by decide +kernel
theorem d_Mo_show_18 : decode prog_13_method_16_code 18 = .ok (.irem, 1) := by decide +kernel
theorem d_Mo_show_19 : decode prog_13_method_16_code 19 = .ok (.iload_n 1, 1) := by decide +kernel
theorem d_Mo_show_20 : decode prog_13_method_16_code 20 = .ok (.iastore, 1) := by decide +kernel
theorem d_Mo_show_21 : decode prog_13_method_16_code 21 = .ok (.aload_n 0, 1) := by decide +kernel
theorem d_Mo_show_22 : decode prog_13_method_16_code 22 = .ok (.dup, 1) := by decide +kernel
theorem d_Mo_show_23 : decode prog_13_method_16_code 23 = .ok (.getfield 120, 3) := by decide +kernel
theorem d_Mo_show_26 : decode prog_13_method_16_code 26 = .ok (.iconst 1, 1) := by decide +kernel
theorem d_Mo_show_27 : decode prog_13_method_16_code 27 = .ok (.iadd, 1) := by decide +kernel
theorem d_Mo_show_28 : decode prog_13_method_16_code 28 = .ok (.putfield 120, 3) := by decide +kernel
theorem d_Mo_show_31 : decode prog_13_method_16_code 31 = .ok (.return_, 1) := by decide +kernel
theorem d_Mo_readLine_0 : decode prog_13_method_62_code 0 = .ok (.aload_n 0, 1) := by decide +kernel
theorem d_Mo_readLine_1 : decode prog_13_method_62_code 1 = .ok (.iconst 0, 1) := by decide +kernel
theorem d_Mo_readLine_2 : decode prog_13_method_62_code 2 = .ok (.putfield 312, 3) := by decide +kernel
theorem d_Mo_readLine_5 : decode prog_13_method_62_code 5 = .ok (.aload_n 0, 1) := by decide +kernel
theorem d_Mo_readLine_6 : decode prog_13_method_62_code 6 = .ok (.iload_n 1, 1) := by decide +kernel
theorem d_Mo_readLine_7 : decode prog_13_method_62_code 7 = .ok (.invokevirtual 86, 3) := by decide +kernel
theorem d_Mo_readLine_10 : decode prog_13_method_62_code 10 = .ok (.istore_n 3, 1) := by decide +kernel
theorem d_Mo_readLine_11 : decode prog_13_method_62_code 11 = .ok (.aload_n 0, 1) := by decide +kernel
theorem d_Mo_readLine_12 : decode prog_13_method_62_code 12 = .ok (.getfield 315, 3) := by decide +kernel
theorem d_Mo_readLine_15 : decode prog_13_method_62_code 15 = .ok (.iload_n 3, 1) := by decide +kernel
theorem d_Mo_readLine_16 : decode prog_13_method_62_code 16 = .ok (.if_icmp .ge 10, 3) := by decide +kernel
theorem d_Mo_readLine_19 : decode prog_13_method_62_code 19 = .ok (.aload_n 0, 1) := by decide +kernel
theorem d_Mo_readLine_20 : decode prog_13_method_62_code 20 = .ok (.getfield 315, 3) := by decide +kernel
theorem d_Mo_readLine_23 : decode prog_13_method_62_code 23 = .ok (.goto 4, 3) := by decide +kernel
theorem d_Mo_readLine_26 : decode prog_13_method_62_code 26 = .ok (.iload_n 3, 1) := by decide +kernel
theorem d_Mo_readLine_27 : decode prog_13_method_62_code 27 = .ok (.istore 4, 2) := by decide +kernel
theorem d_Mo_readLine_29 : decode prog_13_method_62_code 29 = .ok (.iconst 0, 1) := by decide +kernel
theorem d_Mo_readLine_30 : decode prog_13_method_62_code 30 = .ok (.istore 5, 2) := by decide +kernel
theorem d_Mo_readLine_32 : decode prog_13_method_62_code 32 = .ok (.iload 5, 2) := by decide +kernel
theorem d_Mo_readLine_34 : decode prog_13_method_62_code 34 = .ok (.iload 4, 2) := by decide +kernel
theorem d_Mo_readLine_36 : decode prog_13_method_62_code 36 = .ok (.if_icmp .ge 63, 3) := by decide +kernel
theorem d_Mo_readLine_39 : decode prog_13_method_62_code 39 = .ok (.aload_n 0, 1) := by decide +kernel
theorem d_Mo_readLine_40 : decode prog_13_method_62_code 40 = .ok (.iload_n 1, 1) := by decide +kernel
theorem d_Mo_readLine_41 : decode prog_13_method_62_code 41 = .ok (.iconst 1, 1) := by decide +kernel
theorem d_Mo_readLine_42 : decode prog_13_method_62_code 42 = .ok (.iadd, 1) := by decide +kernel
theorem d_Mo_readLine_43 : decode prog_13_method_62_code 43 = .ok (.iload 5, 2) := by decide +kernel
theorem d_Mo_readLine_45 : decode prog_13_method_62_code 45 = .ok (.iadd, 1) := by decide +kernel
theorem d_Mo_readLine_46 : decode prog_13_method_62_code 46 = .ok (.aload_n 0, 1) := by decide +kernel
theorem d_Mo_readLine_47 : decode prog_13_method_62_code 47 = .ok (.getfield 58, 3) := by decide +kernel
theorem d_Mo_readLine_50 : decode prog_13_method_62_code 50 = .ok (.iload 5, 2) := by decide +kernel
theorem d_Mo_readLine_52 : decode prog_13_method_62_code 52 = .ok (.iaload, 1) := by decide +kernel
theorem d_Mo_readLine_53 : decode prog_13_method_62_code 53 = .ok (.bipush 64, 2) := by decide +kernel
theorem d_Mo_readLine_55 : decode prog_13_method_62_code 55 = .ok (.if_icmp .le 28, 3) := by decide +kernel
theorem d_Mo_readLine_58 : decode prog_13_method_62_code 58 = .ok (.aload_n 0, 1) := by decide +kernel
theorem d_Mo_readLine_59 : decode prog_13_method_62_code 59 = .ok (.getfield 58, 3) := by decide +kernel
theorem d_Mo_readLine_62 : decode prog_13_method_62_code 62 = .ok (.iload 5, 2) := by decide +kernel
theorem d_Mo_readLine_64 : decode prog_13_method_62_code 64 = .ok (.iaload, 1) := by decide +kernel
theorem d_Mo_readLine_65 : decode prog_13_method_62_code 65 = .ok (.bipush 91, 2) := by decide +kernel
theorem d_Mo_readLine_67 : decode prog_13_method_62_code 67 = .ok (.if_icmp .ge 16, 3) := by decide +kernel
theorem d_Mo_readLine_70 : decode prog_13_method_62_code 70 = .ok (.aload_n 0, 1) := by decide +kernel
theorem d_Mo_readLine_71 : decode prog_13_method_62_code 71 = .ok (.getfield 58, 3) := by decide +kernel
theorem d_Mo_readLine_74 : decode prog_13_method_62_code 74 = .ok (.iload 5, 2) := by decide +kernel
theorem d_Mo_readLine_76 : decode prog_13_method_62_code 76 = .ok (.iaload, 1) := by decide +kernel
theorem d_Mo_readLine_77 : decode prog_13_method_62_code 77 = .ok (.bipush 32, 2) := by decide +kernel
theorem d_Mo_readLine_79 : decode prog_13_method_62_code 79 = .ok (.iadd, 1) := by decide +kernel
theorem d_Mo_readLine_80 : decode prog_13_method_62_code 80 = .ok (.goto 10, 3) := by decide +kernel
theorem d_Mo_readLine_83 : decode prog_13_method_62_code 83 = .ok (.aload_n 0, 1) := by decide +kernel
theorem d_Mo_readLine_84 : decode prog_13_method_62_code 84 = .ok (.getfield 58, 3) := by decide +kernel
theorem d_Mo_readLine_87 : decode prog_13_method_62_code 87 = .ok (.iload 5, 2) := by decide +kernel
theorem d_Mo_readLine_89 : decode prog_13_method_62_code 89 = .ok (.iaload, 1) := by decide +kernel
theorem d_Mo_readLine_90 : decode prog_13_method_62_code 90 = .ok (.invokevirtual 145, 3) := by decide +kernel
theorem d_Mo_readLine_93 : decode prog_13_method_62_code 93 = .ok (.iinc 5 1, 3) := by decide +kernel
theorem d_Mo_readLine_96 : decode prog_13_method_62_code 96 = .ok (.goto (-64), 3) := by decide +kernel
theorem d_Mo_readLine_99 : decode prog_13_method_62_code 99 = .ok (.aload_n 0, 1) := by decide +kernel
theorem d_Mo_readLine_100 : decode prog_13_method_62_code 100 = .ok (.iload_n 1, 1) := by decide +kernel
theorem d_Mo_readLine_101 : decode prog_13_method_62_code 101 = .ok (.iconst 1, 1) := by decide +kernel
theorem d_Mo_readLine_102 : decode prog_13_method_62_code 102 = .ok (.iadd, 1) := by decide +kernel
theorem d_Mo_readLine_103 : decode prog_13_method_62_code 103 = .ok (.iload 4, 2) := by decide +kernel
theorem d_Mo_readLine_105 : decode prog_13_method_62_code 105 = .ok (.iadd, 1) := by decide +kernel
theorem d_Mo_readLine_106 : decode prog_13_method_62_code 106 = .ok (.iconst 0, 1) := by decide +kernel
theorem d_Mo_readLine_107 : decode prog_13_method_62_code 107 = .ok (.invokevirtual 145, 3) := by decide +kernel
theorem d_Mo_readLine_110 : decode prog_13_method_62_code 110 = .ok (.aload_n 0, 1) := by decide +kernel
theorem d_Mo_readLine_111 : decode prog_13_method_62_code 111 = .ok (.iload_n 2, 1) := by decide +kernel
theorem d_Mo_readLine_112 : decode prog_13_method_62_code 112 = .ok (.invokevirtual 86, 3) := by decide +kernel
theorem d_Mo_readLine_115 : decode prog_13_method_62_code 115 = .ok (.istore 5, 2) := by decide +kernel
theorem d_Mo_readLine_117 : decode prog_13_method_62_code 117 = .ok (.aload_n 0, 1) := by decide +kernel
theorem d_Mo_readLine_118 : decode prog_13_method_62_code 118 = .ok (.getfield 77, 3) := by decide +kernel
theorem d_Mo_readLine_121 : decode prog_13_method_62_code 121 = .ok (.ifCond .le 4, 3) := by decide +kernel
theorem d_Mo_readLine_124 : decode prog_13_method_62_code 124 = .ok (.return_, 1) := by decide +kernel
theorem d_Mo_readLine_125 : decode prog_13_method_62_code 125 = .ok (.aload_n 0, 1) := by decide +kernel
theorem d_Mo_readLine_126 : decode prog_13_method_62_code 126 = .ok (.iload_n 1, 1) := by decide +kernel
theorem d_Mo_readLine_127 : decode prog_13_method_62_code 127 = .ok (.iconst 1, 1) := by decide +kernel
theorem d_Mo_readLine_128 : decode prog_13_method_62_code 128 = .ok (.iadd, 1) := by decide +kernel
theorem d_Mo_readLine_129 : decode prog_13_method_62_code 129 = .ok (.iload 4, 2) := by decide +kernel
theorem d_Mo_readLine_131 : decode prog_13_method_62_code 131 = .ok (.invokevirtual 318, 3) := by decide +kernel
theorem d_Mo_readLine_134 : decode prog_13_method_62_code 134 = .ok (.istore 6, 2) := by decide +kernel
theorem d_Mo_readLine_136 : decode prog_13_method_62_code 136 = .ok (.iload 6, 2) := by decide +kernel
theorem d_Mo_readLine_138 : decode prog_13_method_62_code 138 = .ok (.iload 5, 2) := by decide +kernel
theorem d_Mo_readLine_140 : decode prog_13_method_62_code 140 = .ok (.if_icmp .ge 8, 3) := by decide +kernel
theorem d_Mo_readLine_143 : decode prog_13_method_62_code 143 = .ok (.iload 6, 2) := by decide +kernel
theorem d_Mo_readLine_145 : decode prog_13_method_62_code 145 = .ok (.goto 5, 3) := by decide +kernel
theorem d_Mo_readLine_148 : decode prog_13_method_62_code 148 = .ok (.iload 5, 2) := by decide +kernel
theorem d_Mo_readLine_150 : decode prog_13_method_62_code 150 = .ok (.istore 6, 2) := by decide +kernel
theorem d_Mo_readLine_152 : decode prog_13_method_62_code 152 = .ok (.aload_n 0, 1) := by decide +kernel
theorem d_Mo_readLine_153 : decode prog_13_method_62_code 153 = .ok (.iload_n 2, 1) := by decide +kernel
theorem d_Mo_readLine_154 : decode prog_13_method_62_code 154 = .ok (.iconst 1, 1) := by decide +kernel
theorem d_Mo_readLine_155 : decode prog_13_method_62_code 155 = .ok (.iadd, 1) := by decide +kernel
theorem d_Mo_readLine_156 : decode prog_13_method_62_code 156 = .ok (.iload 6, 2) := by decide +kernel
theorem d_Mo_readLine_158 : decode prog_13_method_62_code 158 = .ok (.invokevirtual 145, 3) := by decide +kernel
theorem d_Mo_readLine_161 : decode prog_13_method_62_code 161 = .ok (.iconst 0, 1) := by decide +kernel
theorem d_Mo_readLine_162 : decode prog_13_method_62_code 162 = .ok (.istore 7, 2) := by decide +kernel
theorem d_Mo_readLine_164 : decode prog_13_method_62_code 164 = .ok (.iload 7, 2) := by decide +kernel
theorem d_Mo_readLine_166 : decode prog_13_method_62_code 166 = .ok (.iload 6, 2) := by decide +kernel
theorem d_Mo_readLine_168 : decode prog_13_method_62_code 168 = .ok (.if_icmp .ge 24, 3) := by decide +kernel
theorem d_Mo_readLine_171 : decode prog_13_method_62_code 171 = .ok (.aload_n 0, 1) := by decide +kernel
theorem d_Mo_readLine_172 : decode prog_13_method_62_code 172 = .ok (.getfield 77, 3) := by decide +kernel
theorem d_Mo_readLine_175 : decode prog_13_method_62_code 175 = .ok (.ifCond .ne 17, 3) := by decide +kernel
theorem d_Mo_readLine_178 : decode prog_13_method_62_code 178 = .ok (.aload_n 0, 1) := by decide +kernel
theorem d_Mo_readLine_179 : decode prog_13_method_62_code 179 = .ok (.iload_n 1, 1) := by decide +kernel
theorem d_Mo_readLine_180 : decode prog_13_method_62_code 180 = .ok (.iload_n 2, 1) := by decide +kernel
theorem d_Mo_readLine_181 : decode prog_13_method_62_code 181 = .ok (.iload 7, 2) := by decide +kernel
theorem d_Mo_readLine_183 : decode prog_13_method_62_code 183 = .ok (.invokevirtual 321, 3) := by decide +kernel
theorem d_Mo_readLine_186 : decode prog_13_method_62_code 186 = .ok (.iinc 7 1, 3) := by decide +kernel
theorem d_Mo_readLine_189 : decode prog_13_method_62_code 189 = .ok (.goto (-25), 3) := by decide +kernel
theorem d_Mo_readLine_192 : decode prog_13_method_62_code 192 = .ok (.return_, 1) := by decide +kernel
theorem d_Mo_setByte_0 : decode prog_13_method_8_code 0 = .ok (.aload_n 0, 1) := by decide +kernel
theorem d_Mo_setByte_1 : decode prog_13_method_8_code 1 = .ok (.aload_n 0, 1) := by decide +kernel
theorem d_Mo_setByte_2 : decode prog_13_method_8_code 2 = .ok (.iload_n 1, 1) := by decide +kernel
theorem d_Mo_setByte_3 : decode prog_13_method_8_code 3 = .ok (.invokevirtual 90, 3) := by decide +kernel
theorem d_Mo_setByte_6 : decode prog_13_method_8_code 6 = .ok (.iconst 1, 1) := by decide +kernel
theorem d_Mo_setByte_7 : decode prog_13_method_8_code 7 = .ok (.invokevirtual 82, 3) := by decide +kernel
theorem d_Mo_setByte_10 : decode prog_13_method_8_code 10 = .ok (.ifCond .eq 14, 3) := by decide +kernel
theorem d_Mo_setByte_13 : decode prog_13_method_8_code 13 = .ok (.aload_n 0, 1) := by decide +kernel
theorem d_Mo_setByte_14 : decode prog_13_method_8_code 14 = .ok (.getfield 7, 3) := by decide +kernel
theorem d_Mo_setByte_17 : decode prog_13_method_8_code 17 = .ok (.iload_n 1, 1) := by decide +kernel
theorem d_Mo_setByte_18 : decode prog_13_method_8_code 18 = .ok (.iload_n 2, 1) := by decide +kernel
theorem d_Mo_setByte_19 : decode prog_13_method_8_code 19 = .ok (.sipush 255, 3) := by decide +kernel
theorem d_Mo_setByte_22 : decode prog_13_method_8_code 22 = .ok (.iand, 1) := by decide +kernel
theorem d_Mo_setByte_23 : decode prog_13_method_8_code 23 = .ok (.iastore, 1) := by decide +kernel
theorem d_Mo_setByte_24 : decode prog_13_method_8_code 24 = .ok (.return_, 1) := by decide +kernel
theorem d_Mo_findWords_0 : decode prog_13_method_66_code 0 = .ok (.iconst 0, 1) := by decide +kernel
theorem d_Mo_findWords_1 : decode prog_13_method_66_code 1 = .ok (.istore_n 3, 1) := by decide +kernel
theorem d_Mo_findWords_2 : decode prog_13_method_66_code 2 = .ok (.iconst 0, 1) := by decide +kernel
theorem d_Mo_findWords_3 : decode prog_13_method_66_code 3 = .ok (.istore 4, 2) := by decide +kernel
theorem d_Mo_findWords_5 : decode prog_13_method_66_code 5 = .ok (.iload 4, 2) := by decide +kernel
theorem d_Mo_findWords_7 : decode prog_13_method_66_code 7 = .ok (.iload_n 2, 1) := by decide +kernel
theorem d_Mo_findWords_8 : decode prog_13_method_66_code 8 = .ok (.if_icmp .ge 51, 3) := by decide +kernel
theorem d_Mo_findWords_11 : decode prog_13_method_66_code 11 = .ok (.aload_n 0, 1) := by decide +kernel
theorem d_Mo_findWords_12 : decode prog_13_method_66_code 12 = .ok (.getfield 77, 3) := by decide +kernel
theorem d_Mo_findWords_15 : decode prog_13_method_66_code 15 = .ok (.ifCond .ne 44, 3) := by decide +kernel
theorem d_Mo_findWords_18 : decode prog_13_method_66_code 18 = .ok (.aload_n 0, 1) := by decide +kernel
theorem d_Mo_findWords_19 : decode prog_13_method_66_code 19 = .ok (.iload_n 1, 1) := by decide +kernel
theorem d_Mo_findWords_20 : decode prog_13_method_66_code 20 = .ok (.iload 4, 2) := by decide +kernel
theorem d_Mo_findWords_22 : decode prog_13_method_66_code 22 = .ok (.invokevirtual 327, 3) := by decide +kernel
theorem d_Mo_findWords_25 : decode prog_13_method_66_code 25 = .ok (.ifCond .eq 28, 3) := by decide +kernel
theorem d_Mo_findWords_28 : decode prog_13_method_66_code 28 = .ok (.aload_n 0, 1) := by decide +kernel
theorem d_Mo_findWords_29 : decode prog_13_method_66_code 29 = .ok (.getfield 67, 3) := by decide +kernel
theorem d_Mo_findWords_32 : decode prog_13_method_66_code 32 = .ok (.iload_n 3, 1) := by decide +kernel
theorem d_Mo_findWords_33 : decode prog_13_method_66_code 33 = .ok (.iload 4, 2) := by decide +kernel
theorem d_Mo_findWords_35 : decode prog_13_method_66_code 35 = .ok (.iastore, 1) := by decide +kernel
theorem d_Mo_findWords_36 : decode prog_13_method_66_code 36 = .ok (.aload_n 0, 1) := by decide +kernel
theorem d_Mo_findWords_37 : decode prog_13_method_66_code 37 = .ok (.getfield 70, 3) := by decide +kernel
theorem d_Mo_findWords_40 : decode prog_13_method_66_code 40 = .ok (.iload_n 3, 1) := by decide +kernel
theorem d_Mo_findWords_41 : decode prog_13_method_66_code 41 = .ok (.aload_n 0, 1) := by decide +kernel
theorem d_Mo_findWords_42 : decode prog_13_method_66_code 42 = .ok (.iload_n 1, 1) := by decide +kernel
theorem d_Mo_findWords_43 : decode prog_13_method_66_code 43 = .ok (.iload_n 2, 1) := by decide +kernel
theorem d_Mo_findWords_44 : decode prog_13_method_66_code 44 = .ok (.iload 4, 2) := by decide +kernel
theorem d_Mo_findWords_46 : decode prog_13_method_66_code 46 = .ok (.invokevirtual 330, 3) := by decide +kernel
theorem d_Mo_findWords_49 : decode prog_13_method_66_code 49 = .ok (.iastore, 1) := by decide +kernel
theorem d_Mo_findWords_50 : decode prog_13_method_66_code 50 = .ok (.iinc 3 1, 3) := by decide +kernel
theorem d_Mo_findWords_53 : decode prog_13_method_66_code 53 = .ok (.iinc 4 1, 3) := by decide +kernel
theorem d_Mo_findWords_56 : decode prog_13_method_66_code 56 = .ok (.goto (-51), 3) := by decide +kernel
theorem d_Mo_findWords_59 : decode prog_13_method_66_code 59 = .ok (.iload_n 3, 1) := by decide +kernel
theorem d_Mo_findWords_60 : decode prog_13_method_66_code 60 = .ok (.ireturn, 1) := by decide +kernel
theorem d_Mo_begins_0 : decode prog_13_method_64_code 0 = .ok (.aload_n 0, 1) := by decide +kernel
theorem d_Mo_begins_1 : decode prog_13_method_64_code 1 = .ok (.getfield 7, 3) := by decide +kernel
theorem d_Mo_begins_4 : decode prog_13_method_64_code 4 = .ok (.iload_n 1, 1) := by decide +kernel
theorem d_Mo_begins_5 : decode prog_13_method_64_code 5 = .ok (.iload_n 2, 1) := by decide +kernel
theorem d_Mo_begins_6 : decode prog_13_method_64_code 6 = .ok (.iadd, 1) := by decide +kernel
theorem d_Mo_begins_7 : decode prog_13_method_64_code 7 = .ok (.iaload, 1) := by decide +kernel
theorem d_Mo_begins_8 : decode prog_13_method_64_code 8 = .ok (.istore_n 3, 1) := by decide +kernel
theorem d_Mo_begins_9 : decode prog_13_method_64_code 9 = .ok (.aload_n 0, 1) := by decide +kernel
theorem d_Mo_begins_10 : decode prog_13_method_64_code 10 = .ok (.iload_n 3, 1) := by decide +kernel
theorem d_Mo_begins_11 : decode prog_13_method_64_code 11 = .ok (.invokevirtual 324, 3) := by decide +kernel
theorem d_Mo_begins_14 : decode prog_13_method_64_code 14 = .ok (.ifCond .eq 5, 3) := by decide +kernel
theorem d_Mo_begins_17 : decode prog_13_method_64_code 17 = .ok (.iconst 1, 1) := by decide +kernel
theorem d_Mo_begins_18 : decode prog_13_method_64_code 18 = .ok (.ireturn, 1) := by decide +kernel
theorem d_Mo_begins_19 : decode prog_13_method_64_code 19 = .ok (.iload_n 3, 1) := by decide +kernel
theorem d_Mo_begins_20 : decode prog_13_method_64_code 20 = .ok (.bipush 32, 2) := by decide +kernel
theorem d_Mo_begins_22 : decode prog_13_method_64_code 22 = .ok (.if_icmp .ne 5, 3) := by decide +kernel
theorem d_Mo_begins_25 : decode prog_13_method_64_code 25 = .ok (.iconst 0, 1) := by decide +kernel
theorem d_Mo_begins_26 : decode prog_13_method_64_code 26 = .ok (.ireturn, 1) := by decide +kernel
theorem d_Mo_begins_27 : decode prog_13_method_64_code 27 = .ok (.iload_n 2, 1) := by decide +kernel
theorem d_Mo_begins_28 : decode prog_13_method_64_code 28 = .ok (.ifCond .eq 35, 3) := by decide +kernel
theorem d_Mo_begins_31 : decode prog_13_method_64_code 31 = .ok (.aload_n 0, 1) := by decide +kernel
theorem d_Mo_begins_32 : decode prog_13_method_64_code 32 = .ok (.getfield 7, 3) := by decide +kernel
theorem d_Mo_begins_35 : decode prog_13_method_64_code 35 = .ok (.iload_n 1, 1) := by decide +kernel
theorem d_Mo_begins_36 : decode prog_13_method_64_code 36 = .ok (.iload_n 2, 1) := by decide +kernel
theorem d_Mo_begins_37 : decode prog_13_method_64_code 37 = .ok (.iadd, 1) := by decide +kernel
theorem d_Mo_begins_38 : decode prog_13_method_64_code 38 = .ok (.iconst 1, 1) := by decide +kernel
theorem d_Mo_begins_39 : decode prog_13_method_64_code 39 = .ok (.isub, 1) := by decide +kernel
theorem d_Mo_begins_40 : decode prog_13_method_64_code 40 = .ok (.iaload, 1) := by decide +kernel
theorem d_Mo_begins_41 : decode prog_13_method_64_code 41 = .ok (.bipush 32, 2) := by decide +kernel
theorem d_Mo_begins_43 : decode prog_13_method_64_code 43 = .ok (.if_icmp .eq 20, 3) := by decide +kernel
theorem d_Mo_begins_46 : decode prog_13_method_64_code 46 = .ok (.aload_n 0, 1) := by decide +kernel
theorem d_Mo_begins_47 : decode prog_13_method_64_code 47 = .ok (.aload_n 0, 1) := by decide +kernel
theorem d_Mo_begins_48 : decode prog_13_method_64_code 48 = .ok (.getfield 7, 3) := by decide +kernel
theorem d_Mo_begins_51 : decode prog_13_method_64_code 51 = .ok (.iload_n 1, 1) := by decide +kernel
theorem d_Mo_begins_52 : decode prog_13_method_64_code 52 = .ok (.iload_n 2, 1) := by decide +kernel
theorem d_Mo_begins_53 : decode prog_13_method_64_code 53 = .ok (.iadd, 1) := by decide +kernel
theorem d_Mo_begins_54 : decode prog_13_method_64_code 54 = .ok (.iconst 1, 1) := by decide +kernel
theorem d_Mo_begins_55 : decode prog_13_method_64_code 55 = .ok (.isub, 1) := by decide +kernel
theorem d_Mo_begins_56 : decode prog_13_method_64_code 56 = .ok (.iaload, 1) := by decide +kernel
theorem d_Mo_begins_57 : decode prog_13_method_64_code 57 = .ok (.invokevirtual 324, 3) := by decide +kernel
theorem d_Mo_begins_60 : decode prog_13_method_64_code 60 = .ok (.ifCond .eq 7, 3) := by decide +kernel
theorem d_Mo_begins_63 : decode prog_13_method_64_code 63 = .ok (.iconst 1, 1) := by decide +kernel
theorem d_Mo_begins_64 : decode prog_13_method_64_code 64 = .ok (.goto 4, 3) := by decide +kernel
theorem d_Mo_begins_67 : decode prog_13_method_64_code 67 = .ok (.iconst 0, 1) := by decide +kernel
theorem d_Mo_begins_68 : decode prog_13_method_64_code 68 = .ok (.ireturn, 1) := by decide +kernel
theorem d_Mo_separates_0 : decode prog_13_method_63_code 0 = .ok (.aload_n 0, 1) := by decide +kernel
theorem d_Mo_separates_1 : decode prog_13_method_63_code 1 = .ok (.bipush 6, 2) := by decide +kernel
theorem d_Mo_separates_3 : decode prog_13_method_63_code 3 = .ok (.invokevirtual 100, 3) := by decide +kernel
theorem d_Mo_separates_6 : decode prog_13_method_63_code 6 = .ok (.istore_n 2, 1) := by decide +kernel
theorem d_Mo_separates_7 : decode prog_13_method_63_code 7 = .ok (.aload_n 0, 1) := by decide +kernel
theorem d_Mo_separates_8 : decode prog_13_method_63_code 8 = .ok (.iload_n 2, 1) := by decide +kernel
theorem d_Mo_separates_9 : decode prog_13_method_63_code 9 = .ok (.invokevirtual 86, 3) := by decide +kernel
theorem d_Mo_separates_12 : decode prog_13_method_63_code 12 = .ok (.istore_n 3, 1) := by decide +kernel
theorem d_Mo_separates_13 : decode prog_13_method_63_code 13 = .ok (.iconst 0, 1) := by decide +kernel
theorem d_Mo_separates_14 : decode prog_13_method_63_code 14 = .ok (.istore 4, 2) := by decide +kernel
theorem d_Mo_separates_16 : decode prog_13_method_63_code 16 = .ok (.iconst 1, 1) := by decide +kernel
theorem d_Mo_separates_17 : decode prog_13_method_63_code 17 = .ok (.istore 5, 2) := by decide +kernel
theorem d_Mo_separates_19 : decode prog_13_method_63_code 19 = .ok (.iload 5, 2) := by decide +kernel
theorem d_Mo_separates_21 : decode prog_13_method_63_code 21 = .ok (.iload_n 3, 1) := by decide +kernel
theorem d_Mo_separates_22 : decode prog_13_method_63_code 22 = .ok (.if_icmp .gt 40, 3) := by decide +kernel
theorem d_Mo_separates_25 : decode prog_13_method_63_code 25 = .ok (.aload_n 0, 1) := by decide +kernel
theorem d_Mo_separates_26 : decode prog_13_method_63_code 26 = .ok (.getfield 77, 3) := by decide +kernel
theorem d_Mo_separates_29 : decode prog_13_method_63_code 29 = .ok (.ifCond .ne 33, 3) := by decide +kernel
theorem d_Mo_separates_32 : decode prog_13_method_63_code 32 = .ok (.aload_n 0, 1) := by decide +kernel
theorem d_Mo_separates_33 : decode prog_13_method_63_code 33 = .ok (.iload_n 2, 1) := by decide +kernel
theorem d_Mo_separates_34 : decode prog_13_method_63_code 34 = .ok (.iload 5, 2) := by decide +kernel
theorem d_Mo_separates_36 : decode prog_13_method_63_code 36 = .ok (.iadd, 1) := by decide +kernel
theorem d_Mo_separates_37 : decode prog_13_method_63_code 37 = .ok (.invokevirtual 86, 3) := by decide +kernel
theorem d_Mo_separates_40 : decode prog_13_method_63_code 40 = .ok (.iload_n 1, 1) := by decide +kernel
theorem d_Mo_separates_41 : decode prog_13_method_63_code 41 = .ok (.if_icmp .eq 8, 3) := by decide +kernel
theorem d_Mo_separates_44 : decode prog_13_method_63_code 44 = .ok (.iload 4, 2) := by decide +kernel
theorem d_Mo_separates_46 : decode prog_13_method_63_code 46 = .ok (.ifCond .eq 7, 3) := by decide +kernel
theorem d_Mo_separates_49 : decode prog_13_method_63_code 49 = .ok (.iconst 1, 1) := by decide +kernel
theorem d_Mo_separates_50 : decode prog_13_method_63_code 50 = .ok (.goto 4, 3) := by decide +kernel
theorem d_Mo_separates_53 : decode prog_13_method_63_code 53 = .ok (.iconst 0, 1) := by decide +kernel
theorem d_Mo_separates_54 : decode prog_13_method_63_code 54 = .ok (.istore 4, 2) := by decide +kernel
theorem d_Mo_separates_56 : decode prog_13_method_63_code 56 = .ok (.iinc 5 1, 3) := by decide +kernel
theorem d_Mo_separates_59 : decode prog_13_method_63_code 59 = .ok (.goto (-40), 3) := by decide +kernel
theorem d_Mo_separates_62 : decode prog_13_method_63_code 62 = .ok (.iload 4, 2) := by decide +kernel
theorem d_Mo_separates_64 : decode prog_13_method_63_code 64 = .ok (.ireturn, 1) := by decide +kernel
theorem d_Mo_lengthFrom_0 : decode prog_13_method_65_code 0 = .ok (.aload_n 0, 1) := by decide +kernel
theorem d_Mo_lengthFrom_1 : decode prog_13_method_65_code 1 = .ok (.aload_n 0, 1) := by decide +kernel
theorem d_Mo_lengthFrom_2 : decode prog_13_method_65_code 2 = .ok (.getfield 7, 3) := by decide +kernel
theorem d_Mo_lengthFrom_5 : decode prog_13_method_65_code 5 = .ok (.iload_n 1, 1) := by decide +kernel
theorem d_Mo_lengthFrom_6 : decode prog_13_method_65_code 6 = .ok (.iload_n 3, 1) := by decide +kernel
theorem d_Mo_lengthFrom_7 : decode prog_13_method_65_code 7 = .ok (.iadd, 1) := by decide +kernel
theorem d_Mo_lengthFrom_8 : decode prog_13_method_65_code 8 = .ok (.iaload, 1) := by decide +kernel
theorem d_Mo_lengthFrom_9 : decode prog_13_method_65_code 9 = .ok (.invokevirtual 324, 3) := by decide +kernel
theorem d_Mo_lengthFrom_12 : decode prog_13_method_65_code 12 = .ok (.ifCond .eq 5, 3) := by decide +kernel
theorem d_Mo_lengthFrom_15 : decode prog_13_method_65_code 15 = .ok (.iconst 1, 1) := by decide +kernel
theorem d_Mo_lengthFrom_16 : decode prog_13_method_65_code 16 = .ok (.ireturn, 1) := by decide +kernel
theorem d_Mo_lengthFrom_17 : decode prog_13_method_65_code 17 = .ok (.iload_n 3, 1) := by decide +kernel
theorem d_Mo_lengthFrom_18 : decode prog_13_method_65_code 18 = .ok (.istore 4, 2) := by decide +kernel
theorem d_Mo_lengthFrom_20 : decode prog_13_method_65_code 20 = .ok (.iload 4, 2) := by decide +kernel
theorem d_Mo_lengthFrom_22 : decode prog_13_method_65_code 22 = .ok (.iload_n 2, 1) := by decide +kernel
theorem d_Mo_lengthFrom_23 : decode prog_13_method_65_code 23 = .ok (.if_icmp .ge 39, 3) := by decide +kernel
theorem d_Mo_lengthFrom_26 : decode prog_13_method_65_code 26 = .ok (.aload_n 0, 1) := by decide +kernel
theorem d_Mo_lengthFrom_27 : decode prog_13_method_65_code 27 = .ok (.getfield 7, 3) := by decide +kernel
theorem d_Mo_lengthFrom_30 : decode prog_13_method_65_code 30 = .ok (.iload_n 1, 1) := by decide +kernel
theorem d_Mo_lengthFrom_31 : decode prog_13_method_65_code 31 = .ok (.iload 4, 2) := by decide +kernel
theorem d_Mo_lengthFrom_33 : decode prog_13_method_65_code 33 = .ok (.iadd, 1) := by decide +kernel
theorem d_Mo_lengthFrom_34 : decode prog_13_method_65_code 34 = .ok (.iaload, 1) := by decide +kernel
theorem d_Mo_lengthFrom_35 : decode prog_13_method_65_code 35 = .ok (.bipush 32, 2) := by decide +kernel
theorem d_Mo_lengthFrom_37 : decode prog_13_method_65_code 37 = .ok (.if_icmp .eq 25, 3) := by decide +kernel
theorem d_Mo_lengthFrom_40 : decode prog_13_method_65_code 40 = .ok (.aload_n 0, 1) := by decide +kernel
theorem d_Mo_lengthFrom_41 : decode prog_13_method_65_code 41 = .ok (.aload_n 0, 1) := by decide +kernel
theorem d_Mo_lengthFrom_42 : decode prog_13_method_65_code 42 = .ok (.getfield 7, 3) := by decide +kernel
theorem d_Mo_lengthFrom_45 : decode prog_13_method_65_code 45 = .ok (.iload_n 1, 1) := by decide +kernel
theorem d_Mo_lengthFrom_46 : decode prog_13_method_65_code 46 = .ok (.iload 4, 2) := by decide +kernel
theorem d_Mo_lengthFrom_48 : decode prog_13_method_65_code 48 = .ok (.iadd, 1) := by decide +kernel
theorem d_Mo_lengthFrom_49 : decode prog_13_method_65_code 49 = .ok (.iaload, 1) := by decide +kernel
theorem d_Mo_lengthFrom_50 : decode prog_13_method_65_code 50 = .ok (.invokevirtual 324, 3) := by decide +kernel
theorem d_Mo_lengthFrom_53 : decode prog_13_method_65_code 53 = .ok (.ifCond .ne 9, 3) := by decide +kernel
theorem d_Mo_lengthFrom_56 : decode prog_13_method_65_code 56 = .ok (.iinc 4 1, 3) := by decide +kernel
theorem d_Mo_lengthFrom_59 : decode prog_13_method_65_code 59 = .ok (.goto (-39), 3) := by decide +kernel
theorem d_Mo_lengthFrom_62 : decode prog_13_method_65_code 62 = .ok (.iload 4, 2) := by decide +kernel
theorem d_Mo_lengthFrom_64 : decode prog_13_method_65_code 64 = .ok (.iload_n 3, 1) := by decide +kernel
theorem d_Mo_lengthFrom_65 : decode prog_13_method_65_code 65 = .ok (.isub, 1) := by decide +kernel
theorem d_Mo_lengthFrom_66 : decode prog_13_method_65_code 66 = .ok (.ireturn, 1) := by decide +kernel
theorem d_Mo_parse_0 : decode prog_13_method_67_code 0 = .ok (.aload_n 0, 1) := by decide +kernel
theorem d_Mo_parse_1 : decode prog_13_method_67_code 1 = .ok (.getfield 67, 3) := by decide +kernel
theorem d_Mo_parse_4 : decode prog_13_method_67_code 4 = .ok (.iload_n 3, 1) := by decide +kernel
theorem d_Mo_parse_5 : decode prog_13_method_67_code 5 = .ok (.iaload, 1) := by decide +kernel
theorem d_Mo_parse_6 : decode prog_13_method_67_code 6 = .ok (.istore 4, 2) := by decide +kernel
theorem d_Mo_parse_8 : decode prog_13_method_67_code 8 = .ok (.aload_n 0, 1) := by decide +kernel
theorem d_Mo_parse_9 : decode prog_13_method_67_code 9 = .ok (.getfield 70, 3) := by decide +kernel
theorem d_Mo_parse_12 : decode prog_13_method_67_code 12 = .ok (.iload_n 3, 1) := by decide +kernel
theorem d_Mo_parse_13 : decode prog_13_method_67_code 13 = .ok (.iaload, 1) := by decide +kernel
theorem d_Mo_parse_14 : decode prog_13_method_67_code 14 = .ok (.istore 5, 2) := by decide +kernel
theorem d_Mo_parse_16 : decode prog_13_method_67_code 16 = .ok (.aload_n 0, 1) := by decide +kernel
theorem d_Mo_parse_17 : decode prog_13_method_67_code 17 = .ok (.iload_n 1, 1) := by decide +kernel
theorem d_Mo_parse_18 : decode prog_13_method_67_code 18 = .ok (.iconst 1, 1) := by decide +kernel
theorem d_Mo_parse_19 : decode prog_13_method_67_code 19 = .ok (.iadd, 1) := by decide +kernel
theorem d_Mo_parse_20 : decode prog_13_method_67_code 20 = .ok (.iload 4, 2) := by decide +kernel
theorem d_Mo_parse_22 : decode prog_13_method_67_code 22 = .ok (.iadd, 1) := by decide +kernel
theorem d_Mo_parse_23 : decode prog_13_method_67_code 23 = .ok (.iload 5, 2) := by decide +kernel
theorem d_Mo_parse_25 : decode prog_13_method_67_code 25 = .ok (.invokevirtual 334, 3) := by decide +kernel
theorem d_Mo_parse_28 : decode prog_13_method_67_code 28 = .ok (.istore 6, 2) := by decide +kernel
theorem d_Mo_parse_30 : decode prog_13_method_67_code 30 = .ok (.aload_n 0, 1) := by decide +kernel
theorem d_Mo_parse_31 : decode prog_13_method_67_code 31 = .ok (.iload_n 2, 1) := by decide +kernel
theorem d_Mo_parse_32 : decode prog_13_method_67_code 32 = .ok (.iconst 2, 1) := by decide +kernel
theorem d_Mo_parse_33 : decode prog_13_method_67_code 33 = .ok (.iadd, 1) := by decide +kernel
theorem d_Mo_parse_34 : decode prog_13_method_67_code 34 = .ok (.iconst 4, 1) := by decide +kernel
theorem d_Mo_parse_35 : decode prog_13_method_67_code 35 = .ok (.iload_n 3, 1) := by decide +kernel
theorem d_Mo_parse_36 : decode prog_13_method_67_code 36 = .ok (.imul, 1) := by decide +kernel
theorem d_Mo_parse_37 : decode prog_13_method_67_code 37 = .ok (.iadd, 1) := by decide +kernel
theorem d_Mo_parse_38 : decode prog_13_method_67_code 38 = .ok (.iload 6, 2) := by decide +kernel
theorem d_Mo_parse_40 : decode prog_13_method_67_code 40 = .ok (.invokevirtual 103, 3) := by decide +kernel
theorem d_Mo_parse_43 : decode prog_13_method_67_code 43 = .ok (.aload_n 0, 1) := by decide +kernel
theorem d_Mo_parse_44 : decode prog_13_method_67_code 44 = .ok (.iload_n 2, 1) := by decide +kernel
theorem d_Mo_parse_45 : decode prog_13_method_67_code 45 = .ok (.iconst 4, 1) := by decide +kernel
theorem d_Mo_parse_46 : decode prog_13_method_67_code 46 = .ok (.iadd, 1) := by decide +kernel
theorem d_Mo_parse_47 : decode prog_13_method_67_code 47 = .ok (.iconst 4, 1) := by decide +kernel
theorem d_Mo_parse_48 : decode prog_13_method_67_code 48 = .ok (.iload_n 3, 1) := by decide +kernel
theorem d_Mo_parse_49 : decode prog_13_method_67_code 49 = .ok (.imul, 1) := by decide +kernel
theorem d_Mo_parse_50 : decode prog_13_method_67_code 50 = .ok (.iadd, 1) := by decide +kernel
theorem d_Mo_parse_51 : decode prog_13_method_67_code 51 = .ok (.iload 5, 2) := by decide +kernel
theorem d_Mo_parse_53 : decode prog_13_method_67_code 53 = .ok (.invokevirtual 145, 3) := by decide +kernel
theorem d_Mo_parse_56 : decode prog_13_method_67_code 56 = .ok (.aload_n 0, 1) := by decide +kernel
theorem d_Mo_parse_57 : decode prog_13_method_67_code 57 = .ok (.iload_n 2, 1) := by decide +kernel
theorem d_Mo_parse_58 : decode prog_13_method_67_code 58 = .ok (.iconst 5, 1) := by decide +kernel
theorem d_Mo_parse_59 : decode prog_13_method_67_code 59 = .ok (.iadd, 1) := by decide +kernel
theorem d_Mo_parse_60 : decode prog_13_method_67_code 60 = .ok (.iconst 4, 1) := by decide +kernel
theorem d_Mo_parse_61 : decode prog_13_method_67_code 61 = .ok (.iload_n 3, 1) := by decide +kernel
theorem d_Mo_parse_62 : decode prog_13_method_67_code 62 = .ok (.imul, 1) := by decide +kernel
theorem d_Mo_parse_63 : decode prog_13_method_67_code 63 = .ok (.iadd, 1) := by decide +kernel
theorem d_Mo_parse_64 : decode prog_13_method_67_code 64 = .ok (.iload 4, 2) := by decide +kernel
theorem d_Mo_parse_66 : decode prog_13_method_67_code 66 = .ok (.iconst 1, 1) := by decide +kernel
theorem d_Mo_parse_67 : decode prog_13_method_67_code 67 = .ok (.iadd, 1) := by decide +kernel
theorem d_Mo_parse_68 : decode prog_13_method_67_code 68 = .ok (.invokevirtual 145, 3) := by decide +kernel
theorem d_Mo_parse_71 : decode prog_13_method_67_code 71 = .ok (.return_, 1) := by decide +kernel
theorem d_Mo_entry_0 : decode prog_13_method_70_code 0 = .ok (.iconst 0, 1) := by decide +kernel
theorem d_Mo_entry_1 : decode prog_13_method_70_code 1 = .ok (.istore_n 3, 1) := by decide +kernel
theorem d_Mo_entry_2 : decode prog_13_method_70_code 2 = .ok (.iload_n 3, 1) := by decide +kernel
theorem d_Mo_entry_3 : decode prog_13_method_70_code 3 = .ok (.bipush 6, 2) := by decide +kernel
theorem d_Mo_entry_5 : decode prog_13_method_70_code 5 = .ok (.if_icmp .ge 16, 3) := by decide +kernel
theorem d_Mo_entry_8 : decode prog_13_method_70_code 8 = .ok (.aload_n 0, 1) := by decide +kernel
theorem d_Mo_entry_9 : decode prog_13_method_70_code 9 = .ok (.getfield 64, 3) := by decide +kernel
theorem d_Mo_entry_12 : decode prog_13_method_70_code 12 = .ok (.iload_n 3, 1) := by decide +kernel
theorem d_Mo_entry_13 : decode prog_13_method_70_code 13 = .ok (.iconst 5, 1) := by decide +kernel
theorem d_Mo_entry_14 : decode prog_13_method_70_code 14 = .ok (.iastore, 1) := by decide +kernel
theorem d_Mo_entry_15 : decode prog_13_method_70_code 15 = .ok (.iinc 3 1, 3) := by decide +kernel
theorem d_Mo_entry_18 : decode prog_13_method_70_code 18 = .ok (.goto (-16), 3) := by decide +kernel
theorem d_Mo_entry_21 : decode prog_13_method_70_code 21 = .ok (.aload_n 0, 1) := by decide +kernel
theorem d_Mo_entry_22 : decode prog_13_method_70_code 22 = .ok (.iconst 0, 1) := by decide +kernel
theorem d_Mo_entry_23 : decode prog_13_method_70_code 23 = .ok (.putfield 337, 3) := by decide +kernel
theorem d_Mo_entry_26 : decode prog_13_method_70_code 26 = .ok (.iconst 0, 1) := by decide +kernel
theorem d_Mo_entry_27 : decode prog_13_method_70_code 27 = .ok (.istore_n 3, 1) := by decide +kernel
theorem d_Mo_entry_28 : decode prog_13_method_70_code 28 = .ok (.iload_n 3, 1) := by decide +kernel
theorem d_Mo_entry_29 : decode prog_13_method_70_code 29 = .ok (.iload_n 2, 1) := by decide +kernel
theorem d_Mo_entry_30 : decode prog_13_method_70_code 30 = .ok (.if_icmp .ge 20, 3) := by decide +kernel
theorem d_Mo_entry_33 : decode prog_13_method_70_code 33 = .ok (.aload_n 0, 1) := by decide +kernel
theorem d_Mo_entry_34 : decode prog_13_method_70_code 34 = .ok (.aload_n 0, 1) := by decide +kernel
theorem d_Mo_entry_35 : decode prog_13_method_70_code 35 = .ok (.iload_n 1, 1) := by decide +kernel
theorem d_Mo_entry_36 : decode prog_13_method_70_code 36 = .ok (.iload_n 3, 1) := by decide +kernel
theorem d_Mo_entry_37 : decode prog_13_method_70_code 37 = .ok (.iadd, 1) := by decide +kernel
theorem d_Mo_entry_38 : decode prog_13_method_70_code 38 = .ok (.invokevirtual 86, 3) := by decide +kernel
theorem d_Mo_entry_41 : decode prog_13_method_70_code 41 = .ok (.invokevirtual 343, 3) := by decide +kernel
theorem d_Mo_entry_44 : decode prog_13_method_70_code 44 = .ok (.iinc 3 1, 3) := by decide +kernel
theorem d_Mo_entry_47 : decode prog_13_method_70_code 47 = .ok (.goto (-19), 3) := by decide +kernel
theorem d_Mo_entry_50 : decode prog_13_method_70_code 50 = .ok (.aload_n 0, 1) := by decide +kernel
theorem d_Mo_entry_51 : decode prog_13_method_70_code 51 = .ok (.getfield 64, 3) := by decide +kernel
theorem d_Mo_entry_54 : decode prog_13_method_70_code 54 = .ok (.iconst 0, 1) := by decide +kernel
theorem d_Mo_entry_55 : decode prog_13_method_70_code 55 = .ok (.iaload, 1) := by decide +kernel
theorem d_Mo_entry_56 : decode prog_13_method_70_code 56 = .ok (.bipush 32, 2) := by decide +kernel
theorem d_Mo_entry_58 : decode prog_13_method_70_code 58 = .ok (.imul, 1) := by decide +kernel
theorem d_Mo_entry_59 : decode prog_13_method_70_code 59 = .ok (.aload_n 0, 1) := by decide +kernel
theorem d_Mo_entry_60 : decode prog_13_method_70_code 60 = .ok (.getfield 64, 3) := by decide +kernel
theorem d_Mo_entry_63 : decode prog_13_method_70_code 63 = .ok (.iconst 1, 1) := by decide +kernel
theorem d_Mo_entry_64 : decode prog_13_method_70_code 64 = .ok (.iaload, 1) := by decide +kernel
theorem d_Mo_entry_65 : decode prog_13_method_70_code 65 = .ok (.iadd, 1) := by decide +kernel
theorem d_Mo_entry_66 : decode prog_13_method_70_code 66 = .ok (.bipush 32, 2) := by decide +kernel
theorem d_Mo_entry_68 : decode prog_13_method_70_code 68 = .ok (.imul, 1) := by decide +kernel
theorem d_Mo_entry_69 : decode prog_13_method_70_code 69 = .ok (.aload_n 0, 1) := by decide +kernel
theorem d_Mo_entry_70 : decode prog_13_method_70_code 70 = .ok (.getfield 64, 3) := by decide +kernel
theorem d_Mo_entry_73 : decode prog_13_method_70_code 73 = .ok (.iconst 2, 1) := by decide +kernel
theorem d_Mo_entry_74 : decode prog_13_method_70_code 74 = .ok (.iaload, 1) := by decide +kernel
theorem d_Mo_entry_75 : decode prog_13_method_70_code 75 = .ok (.iadd, 1) := by decide +kernel
theorem d_Mo_entry_76 : decode prog_13_method_70_code 76 = .ok (.istore_n 3, 1) := by decide +kernel
theorem d_Mo_entry_77 : decode prog_13_method_70_code 77 = .ok (.aload_n 0, 1) := by decide +kernel
theorem d_Mo_entry_78 : decode prog_13_method_70_code 78 = .ok (.getfield 64, 3) := by decide +kernel
theorem d_Mo_entry_81 : decode prog_13_method_70_code 81 = .ok (.iconst 3, 1) := by decide +kernel
theorem d_Mo_entry_82 : decode prog_13_method_70_code 82 = .ok (.iaload, 1) := by decide +kernel
theorem d_Mo_entry_83 : decode prog_13_method_70_code 83 = .ok (.bipush 32, 2) := by decide +kernel
theorem d_Mo_entry_85 : decode prog_13_method_70_code 85 = .ok (.imul, 1) := by decide +kernel
theorem d_Mo_entry_86 : decode prog_13_method_70_code 86 = .ok (.aload_n 0, 1) := by decide +kernel
theorem d_Mo_entry_87 : decode prog_13_method_70_code 87 = .ok (.getfield 64, 3) := by decide +kernel
theorem d_Mo_entry_90 : decode prog_13_method_70_code 90 = .ok (.iconst 4, 1) := by decide +kernel
theorem d_Mo_entry_91 : decode prog_13_method_70_code 91 = .ok (.iaload, 1) := by decide +kernel
theorem d_Mo_entry_92 : decode prog_13_method_70_code 92 = .ok (.iadd, 1) := by decide +kernel
theorem d_Mo_entry_93 : decode prog_13_method_70_code 93 = .ok (.bipush 32, 2) := by decide +kernel
theorem d_Mo_entry_95 : decode prog_13_method_70_code 95 = .ok (.imul, 1) := by decide +kernel
theorem d_Mo_entry_96 : decode prog_13_method_70_code 96 = .ok (.aload_n 0, 1) := by decide +kernel
theorem d_Mo_entry_97 : decode prog_13_method_70_code 97 = .ok (.getfield 64, 3) := by decide +kernel
theorem d_Mo_entry_100 : decode prog_13_method_70_code 100 = .ok (.iconst 5, 1) := by decide +kernel
theorem d_Mo_entry_101 : decode prog_13_method_70_code 101 = .ok (.iaload, 1) := by decide +kernel
theorem d_Mo_entry_102 : decode prog_13_method_70_code 102 = .ok (.iadd, 1) := by decide +kernel
theorem d_Mo_entry_103 : decode prog_13_method_70_code 103 = .ok (.ldc 138, 2) := by decide +kernel
theorem d_Mo_entry_105 : decode prog_13_method_70_code 105 = .ok (.iadd, 1) := by decide +kernel
theorem d_Mo_entry_106 : decode prog_13_method_70_code 106 = .ok (.istore 4, 2) := by decide +kernel
theorem d_Mo_entry_108 : decode prog_13_method_70_code 108 = .ok (.aload_n 0, 1) := by decide +kernel
theorem d_Mo_entry_109 : decode prog_13_method_70_code 109 = .ok (.bipush 6, 2) := by decide +kernel
theorem d_Mo_entry_111 : decode prog_13_method_70_code 111 = .ok (.invokevirtual 100, 3) := by decide +kernel
theorem d_Mo_entry_114 : decode prog_13_method_70_code 114 = .ok (.istore 5, 2) := by decide +kernel
theorem d_Mo_entry_116 : decode prog_13_method_70_code 116 = .ok (.iload 5, 2) := by decide +kernel
theorem d_Mo_entry_118 : decode prog_13_method_70_code 118 = .ok (.iconst 1, 1) := by decide +kernel
theorem d_Mo_entry_119 : decode prog_13_method_70_code 119 = .ok (.iadd, 1) := by decide +kernel
theorem d_Mo_entry_120 : decode prog_13_method_70_code 120 = .ok (.aload_n 0, 1) := by decide +kernel
theorem d_Mo_entry_121 : decode prog_13_method_70_code 121 = .ok (.iload 5, 2) := by decide +kernel
theorem d_Mo_entry_123 : decode prog_13_method_70_code 123 = .ok (.invokevirtual 86, 3) := by decide +kernel
theorem d_Mo_entry_126 : decode prog_13_method_70_code 126 = .ok (.iadd, 1) := by decide +kernel
theorem d_Mo_entry_127 : decode prog_13_method_70_code 127 = .ok (.istore 6, 2) := by decide +kernel
theorem d_Mo_entry_129 : decode prog_13_method_70_code 129 = .ok (.aload_n 0, 1) := by decide +kernel
theorem d_Mo_entry_130 : decode prog_13_method_70_code 130 = .ok (.iload 6, 2) := by decide +kernel
theorem d_Mo_entry_132 : decode prog_13_method_70_code 132 = .ok (.invokevirtual 86, 3) := by decide +kernel
theorem d_Mo_entry_135 : decode prog_13_method_70_code 135 = .ok (.istore 7, 2) := by decide +kernel
theorem d_Mo_entry_137 : decode prog_13_method_70_code 137 = .ok (.aload_n 0, 1) := by decide +kernel
theorem d_Mo_entry_138 : decode prog_13_method_70_code 138 = .ok (.iload 7, 2) := by decide +kernel
theorem d_Mo_entry_140 : decode prog_13_method_70_code 140 = .ok (.iconst 4, 1) := by decide +kernel
theorem d_Mo_entry_141 : decode prog_13_method_70_code 141 = .ok (.if_icmp .le 7, 3) := by decide +kernel
theorem d_Mo_entry_144 : decode prog_13_method_70_code 144 = .ok (.iconst 1, 1) := by decide +kernel
theorem d_Mo_entry_145 : decode prog_13_method_70_code 145 = .ok (.goto 4, 3) := by decide +kernel
theorem d_Mo_entry_148 : decode prog_13_method_70_code 148 = .ok (.iconst 0, 1) := by decide +kernel
theorem d_Mo_entry_149 : decode prog_13_method_70_code 149 = .ok (.iconst 1, 1) := by decide +kernel
theorem d_Mo_entry_150 : decode prog_13_method_70_code 150 = .ok (.invokevirtual 82, 3) := by decide +kernel
theorem d_Mo_entry_153 : decode prog_13_method_70_code 153 = .ok (.ifCond .ne 5, 3) := by decide +kernel
theorem d_Mo_entry_156 : decode prog_13_method_70_code 156 = .ok (.iconst 0, 1) := by decide +kernel
theorem d_Mo_entry_157 : decode prog_13_method_70_code 157 = .ok (.ireturn, 1) := by decide +kernel
theorem d_Mo_entry_158 : decode prog_13_method_70_code 158 = .ok (.aload_n 0, 1) := by decide +kernel
theorem d_Mo_entry_159 : decode prog_13_method_70_code 159 = .ok (.iload 6, 2) := by decide +kernel
theorem d_Mo_entry_161 : decode prog_13_method_70_code 161 = .ok (.iconst 1, 1) := by decide +kernel
theorem d_Mo_entry_162 : decode prog_13_method_70_code 162 = .ok (.iadd, 1) := by decide +kernel
theorem d_Mo_entry_163 : decode prog_13_method_70_code 163 = .ok (.invokevirtual 100, 3) := by decide +kernel
theorem d_Mo_entry_166 : decode prog_13_method_70_code 166 = .ok (.istore 8, 2) := by decide +kernel
theorem d_Mo_entry_168 : decode prog_13_method_70_code 168 = .ok (.iload 6, 2) := by decide +kernel
theorem d_Mo_entry_170 : decode prog_13_method_70_code 170 = .ok (.iconst 3, 1) := by decide +kernel
theorem d_Mo_entry_171 : decode prog_13_method_70_code 171 = .ok (.iadd, 1) := by decide +kernel
theorem d_Mo_entry_172 : decode prog_13_method_70_code 172 = .ok (.istore 9, 2) := by decide +kernel
theorem d_Mo_entry_174 : decode prog_13_method_70_code 174 = .ok (.iconst 0, 1) := by decide +kernel
theorem d_Mo_entry_175 : decode prog_13_method_70_code 175 = .ok (.istore 10, 2) := by decide +kernel
theorem d_Mo_entry_177 : decode prog_13_method_70_code 177 = .ok (.iload 10, 2) := by decide +kernel
theorem d_Mo_entry_179 : decode prog_13_method_70_code 179 = .ok (.iload 8, 2) := by decide +kernel
theorem d_Mo_entry_181 : decode prog_13_method_70_code 181 = .ok (.if_icmp .ge 63, 3) := by decide +kernel
theorem d_Mo_entry_184 : decode prog_13_method_70_code 184 = .ok (.aload_n 0, 1) := by decide +kernel
theorem d_Mo_entry_185 : decode prog_13_method_70_code 185 = .ok (.getfield 77, 3) := by decide +kernel
theorem d_Mo_entry_188 : decode prog_13_method_70_code 188 = .ok (.ifCond .ne 56, 3) := by decide +kernel
theorem d_Mo_entry_191 : decode prog_13_method_70_code 191 = .ok (.aload_n 0, 1) := by decide +kernel
theorem d_Mo_entry_192 : decode prog_13_method_70_code 192 = .ok (.iload 9, 2) := by decide +kernel
theorem d_Mo_entry_194 : decode prog_13_method_70_code 194 = .ok (.invokevirtual 100, 3) := by decide +kernel
theorem d_Mo_entry_197 : decode prog_13_method_70_code 197 = .ok (.iload_n 3, 1) := by decide +kernel
theorem d_Mo_entry_198 : decode prog_13_method_70_code 198 = .ok (.if_icmp .ne 33, 3) := by decide +kernel
theorem d_Mo_entry_201 : decode prog_13_method_70_code 201 = .ok (.aload_n 0, 1) := by decide +kernel
theorem d_Mo_entry_202 : decode prog_13_method_70_code 202 = .ok (.getfield 77, 3) := by decide +kernel
theorem d_Mo_entry_205 : decode prog_13_method_70_code 205 = .ok (.ifCond .ne 26, 3) := by decide +kernel
theorem d_Mo_entry_208 : decode prog_13_method_70_code 208 = .ok (.aload_n 0, 1) := by decide +kernel
theorem d_Mo_entry_209 : decode prog_13_method_70_code 209 = .ok (.iload 9, 2) := by decide +kernel
theorem d_Mo_entry_211 : decode prog_13_method_70_code 211 = .ok (.iconst 2, 1) := by decide +kernel
theorem d_Mo_entry_212 : decode prog_13_method_70_code 212 = .ok (.iadd, 1) := by decide +kernel
theorem d_Mo_entry_213 : decode prog_13_method_70_code 213 = .ok (.invokevirtual 100, 3) := by decide +kernel
theorem d_Mo_entry_216 : decode prog_13_method_70_code 216 = .ok (.iload 4, 2) := by decide +kernel
theorem d_Mo_entry_218 : decode prog_13_method_70_code 218 = .ok (.if_icmp .ne 13, 3) := by decide +kernel
theorem d_Mo_entry_221 : decode prog_13_method_70_code 221 = .ok (.aload_n 0, 1) := by decide +kernel
theorem d_Mo_entry_222 : decode prog_13_method_70_code 222 = .ok (.getfield 77, 3) := by decide +kernel
theorem d_Mo_entry_225 : decode prog_13_method_70_code 225 = .ok (.ifCond .ne 6, 3) := by decide +kernel
theorem d_Mo_entry_228 : decode prog_13_method_70_code 228 = .ok (.iload 9, 2) := by decide +kernel
theorem d_Mo_entry_230 : decode prog_13_method_70_code 230 = .ok (.ireturn, 1) := by decide +kernel
theorem d_Mo_entry_231 : decode prog_13_method_70_code 231 = .ok (.iload 9, 2) := by decide +kernel
theorem d_Mo_entry_233 : decode prog_13_method_70_code 233 = .ok (.iload 7, 2) := by decide +kernel
theorem d_Mo_entry_235 : decode prog_13_method_70_code 235 = .ok (.iadd, 1) := by decide +kernel
theorem d_Mo_entry_236 : decode prog_13_method_70_code 236 = .ok (.istore 9, 2) := by decide +kernel
theorem d_Mo_entry_238 : decode prog_13_method_70_code 238 = .ok (.iinc 10 1, 3) := by decide +kernel
theorem d_Mo_entry_241 : decode prog_13_method_70_code 241 = .ok (.goto (-64), 3) := by decide +kernel
theorem d_Mo_entry_244 : decode prog_13_method_70_code 244 = .ok (.iconst 0, 1) := by decide +kernel
theorem d_Mo_entry_245 : decode prog_13_method_70_code 245 = .ok (.ireturn, 1) := by decide +kernel
theorem d_Mo_addCharacter_0 : decode prog_13_method_69_code 0 = .ok (.iload_n 1, 1) := by decide +kernel
theorem d_Mo_addCharacter_1 : decode prog_13_method_69_code 1 = .ok (.bipush 96, 2) := by decide +kernel
theorem d_Mo_addCharacter_3 : decode prog_13_method_69_code 3 = .ok (.if_icmp .le 18, 3) := by decide +kernel
theorem d_Mo_addCharacter_6 : decode prog_13_method_69_code 6 = .ok (.iload_n 1, 1) := by decide +kernel
theorem d_Mo_addCharacter_7 : decode prog_13_method_69_code 7 = .ok (.bipush 123, 2) := by decide +kernel
theorem d_Mo_addCharacter_9 : decode prog_13_method_69_code 9 = .ok (.if_icmp .ge 12, 3) := by decide +kernel
theorem d_Mo_addCharacter_12 : decode prog_13_method_69_code 12 = .ok (.aload_n 0, 1) := by decide +kernel
theorem d_Mo_addCharacter_13 : decode prog_13_method_69_code 13 = .ok (.iload_n 1, 1) := by decide +kernel
theorem d_Mo_addCharacter_14 : decode prog_13_method_69_code 14 = .ok (.bipush 91, 2) := by decide +kernel
theorem d_Mo_addCharacter_16 : decode prog_13_method_69_code 16 = .ok (.isub, 1) := by decide +kernel
theorem d_Mo_addCharacter_17 : decode prog_13_method_69_code 17 = .ok (.invokevirtual 340, 3) := by decide +kernel
theorem d_Mo_addCharacter_20 : decode prog_13_method_69_code 20 = .ok (.return_, 1) := by decide +kernel
theorem d_Mo_addCharacter_21 : decode prog_13_method_69_code 21 = .ok (.aload_n 0, 1) := by decide +kernel
theorem d_Mo_addCharacter_22 : decode prog_13_method_69_code 22 = .ok (.iconst 5, 1) := by decide +kernel
theorem d_Mo_addCharacter_23 : decode prog_13_method_69_code 23 = .ok (.invokevirtual 340, 3) := by decide +kernel
theorem d_Mo_addCharacter_26 : decode prog_13_method_69_code 26 = .ok (.iconst 0, 1) := by decide +kernel
theorem d_Mo_addCharacter_27 : decode prog_13_method_69_code 27 = .ok (.istore_n 2, 1) := by decide +kernel
theorem d_Mo_addCharacter_28 : decode prog_13_method_69_code 28 = .ok (.iload_n 2, 1) := by decide +kernel
theorem d_Mo_addCharacter_29 : decode prog_13_method_69_code 29 = .ok (.bipush 24, 2) := by decide +kernel
theorem d_Mo_addCharacter_31 : decode prog_13_method_69_code 31 = .ok (.if_icmp .ge 26, 3) := by decide +kernel
theorem d_Mo_addCharacter_34 : decode prog_13_method_69_code 34 = .ok (.iload_n 2, 1) := by decide +kernel
theorem d_Mo_addCharacter_35 : decode prog_13_method_69_code 35 = .ok (.invokestatic 135, 3) := by decide +kernel
theorem d_Mo_addCharacter_38 : decode prog_13_method_69_code 38 = .ok (.iload_n 1, 1) := by decide +kernel
theorem d_Mo_addCharacter_39 : decode prog_13_method_69_code 39 = .ok (.if_icmp .ne 12, 3) := by decide +kernel
theorem d_Mo_addCharacter_42 : decode prog_13_method_69_code 42 = .ok (.aload_n 0, 1) := by decide +kernel
theorem d_Mo_addCharacter_43 : decode prog_13_method_69_code 43 = .ok (.bipush 8, 2) := by decide +kernel
theorem d_Mo_addCharacter_45 : decode prog_13_method_69_code 45 = .ok (.iload_n 2, 1) := by decide +kernel
theorem d_Mo_addCharacter_46 : decode prog_13_method_69_code 46 = .ok (.iadd, 1) := by decide +kernel
theorem d_Mo_addCharacter_47 : decode prog_13_method_69_code 47 = .ok (.invokevirtual 340, 3) := by decide +kernel
theorem d_Mo_addCharacter_50 : decode prog_13_method_69_code 50 = .ok (.return_, 1) := by decide +kernel
theorem d_Mo_addCharacter_51 : decode prog_13_method_69_code 51 = .ok (.iinc 2 1, 3) := by decide +kernel
theorem d_Mo_addCharacter_54 : decode prog_13_method_69_code 54 = .ok (.goto (-26), 3) := by decide +kernel
theorem d_Mo_addCharacter_57 : decode prog_13_method_69_code 57 = .ok (.aload_n 0, 1) := by decide +kernel
theorem d_Mo_addCharacter_58 : decode prog_13_method_69_code 58 = .ok (.bipush 6, 2) := by decide +kernel
theorem d_Mo_addCharacter_60 : decode prog_13_method_69_code 60 = .ok (.invokevirtual 340, 3) := by decide +kernel
theorem d_Mo_addCharacter_63 : decode prog_13_method_69_code 63 = .ok (.aload_n 0, 1) := by decide +kernel
theorem d_Mo_addCharacter_64 : decode prog_13_method_69_code 64 = .ok (.iload_n 1, 1) := by decide +kernel
theorem d_Mo_addCharacter_65 : decode prog_13_method_69_code 65 = .ok (.bipush 32, 2) := by decide +kernel
theorem d_Mo_addCharacter_67 : decode prog_13_method_69_code 67 = .ok (.idiv, 1) := by decide +kernel
theorem d_Mo_addCharacter_68 : decode prog_13_method_69_code 68 = .ok (.invokevirtual 340, 3) := by decide +kernel
theorem d_Mo_addCharacter_71 : decode prog_13_method_69_code 71 = .ok (.aload_n 0, 1) := by decide +kernel
theorem d_Mo_addCharacter_72 : decode prog_13_method_69_code 72 = .ok (.iload_n 1, 1) := by decide +kernel
theorem d_Mo_addCharacter_73 : decode prog_13_method_69_code 73 = .ok (.bipush 32, 2) := by decide +kernel
theorem d_Mo_addCharacter_75 : decode prog_13_method_69_code 75 = .ok (.irem, 1) := by decide +kernel
theorem d_Mo_addCharacter_76 : decode prog_13_method_69_code 76 = .ok (.invokevirtual 340, 3) := by decide +kernel
theorem d_Mo_addCharacter_79 : decode prog_13_method_69_code 79 = .ok (.return_, 1) := by decide +kernel
theorem d_Mo_addLetter_0 : decode prog_13_method_68_code 0 = .ok (.aload_n 0, 1) := by decide +kernel
theorem d_Mo_addLetter_1 : decode prog_13_method_68_code 1 = .ok (.getfield 337, 3) := by decide +kernel
theorem d_Mo_addLetter_4 : decode prog_13_method_68_code 4 = .ok (.bipush 6, 2) := by decide +kernel
theorem d_Mo_addLetter_6 : decode prog_13_method_68_code 6 = .ok (.if_icmp .ge 13, 3) := by decide +kernel
theorem d_Mo_addLetter_9 : decode prog_13_method_68_code 9 = .ok (.aload_n 0, 1) := by decide +kernel
theorem d_Mo_addLetter_10 : decode prog_13_method_68_code 10 = .ok (.getfield 64, 3) := by decide +kernel
theorem d_Mo_addLetter_13 : decode prog_13_method_68_code 13 = .ok (.aload_n 0, 1) := by decide +kernel
theorem d_Mo_addLetter_14 : decode prog_13_method_68_code 14 = .ok (.getfield 337, 3) := by decide +kernel
theorem d_Mo_addLetter_17 : decode prog_13_method_68_code 17 = .ok (.iload_n 1, 1) := by decide +kernel
theorem d_Mo_addLetter_18 : decode prog_13_method_68_code 18 = .ok (.iastore, 1) := by decide +kernel
theorem d_Mo_addLetter_19 : decode prog_13_method_68_code 19 = .ok (.aload_n 0, 1) := by decide +kernel
theorem d_Mo_addLetter_20 : decode prog_13_method_68_code 20 = .ok (.dup, 1) := by decide +kernel
theorem d_Mo_addLetter_21 : decode prog_13_method_68_code 21 = .ok (.getfield 337, 3) := by decide +kernel
theorem d_Mo_addLetter_24 : decode prog_13_method_68_code 24 = .ok (.iconst 1, 1) := by decide +kernel
theorem d_Mo_addLetter_25 : decode prog_13_method_68_code 25 = .ok (.iadd, 1) := by decide +kernel
theorem d_Mo_addLetter_26 : decode prog_13_method_68_code 26 = .ok (.putfield 337, 3) := by decide +kernel
theorem d_Mo_addLetter_29 : decode prog_13_method_68_code 29 = .ok (.return_, 1) := by decide +kernel
theorem d_Mo_sign_0 : decode prog_13_method_18_code 0 = .ok (.iload_n 0, 1) := by decide +kernel
theorem d_Mo_sign_1 : decode prog_13_method_18_code 1 = .ok (.bipush 10, 2) := by decide +kernel
theorem d_Mo_sign_3 : decode prog_13_method_18_code 3 = .ok (.if_icmp .ge 8, 3) := by decide +kernel
theorem d_Mo_sign_6 : decode prog_13_method_18_code 6 = .ok (.bipush 48, 2) := by decide +kernel
theorem d_Mo_sign_8 : decode prog_13_method_18_code 8 = .ok (.iload_n 0, 1) := by decide +kernel
theorem d_Mo_sign_9 : decode prog_13_method_18_code 9 = .ok (.iadd, 1) := by decide +kernel
theorem d_Mo_sign_10 : decode prog_13_method_18_code 10 = .ok (.ireturn, 1) := by decide +kernel
theorem d_Mo_sign_11 : decode prog_13_method_18_code 11 = .ok (.iload_n 0, 1) := by decide +kernel
theorem d_Mo_sign_12 : decode prog_13_method_18_code 12 = .ok (.bipush 17, 2) := by decide +kernel
theorem d_Mo_sign_14 : decode prog_13_method_18_code 14 = .ok (.if_icmp .ge 72, 3) := by decide +kernel
theorem d_Mo_sign_17 : decode prog_13_method_18_code 17 = .ok (.iload_n 0, 1) := by decide +kernel
theorem d_Mo_sign_18 : decode prog_13_method_18_code 18 = .ok (.bipush 10, 2) := by decide +kernel
theorem d_Mo_sign_20 : decode prog_13_method_18_code 20 = .ok (.if_icmp .ne 8, 3) := by decide +kernel
theorem d_Mo_sign_23 : decode prog_13_method_18_code 23 = .ok (.bipush 46, 2) := by decide +kernel
theorem d_Mo_sign_25 : decode prog_13_method_18_code 25 = .ok (.goto 60, 3) := by decide +kernel
theorem d_Mo_sign_28 : decode prog_13_method_18_code 28 = .ok (.iload_n 0, 1) := by decide +kernel
theorem d_Mo_sign_29 : decode prog_13_method_18_code 29 = .ok (.bipush 11, 2) := by decide +kernel
theorem d_Mo_sign_31 : decode prog_13_method_18_code 31 = .ok (.if_icmp .ne 8, 3) := by decide +kernel
theorem d_Mo_sign_34 : decode prog_13_method_18_code 34 = .ok (.bipush 44, 2) := by decide +kernel
theorem d_Mo_sign_36 : decode prog_13_method_18_code 36 = .ok (.goto 49, 3) := by decide +kernel
theorem d_Mo_sign_39 : decode prog_13_method_18_code 39 = .ok (.iload_n 0, 1) := by decide +kernel
theorem d_Mo_sign_40 : decode prog_13_method_18_code 40 = .ok (.bipush 12, 2) := by decide +kernel
theorem d_Mo_sign_42 : decode prog_13_method_18_code 42 = .ok (.if_icmp .ne 8, 3) := by decide +kernel
theorem d_Mo_sign_45 : decode prog_13_method_18_code 45 = .ok (.bipush 33, 2) := by decide +kernel
theorem d_Mo_sign_47 : decode prog_13_method_18_code 47 = .ok (.goto 38, 3) := by decide +kernel
theorem d_Mo_sign_50 : decode prog_13_method_18_code 50 = .ok (.iload_n 0, 1) := by decide +kernel
theorem d_Mo_sign_51 : decode prog_13_method_18_code 51 = .ok (.bipush 13, 2) := by decide +kernel
theorem d_Mo_sign_53 : decode prog_13_method_18_code 53 = .ok (.if_icmp .ne 8, 3) := by decide +kernel
theorem d_Mo_sign_56 : decode prog_13_method_18_code 56 = .ok (.bipush 63, 2) := by decide +kernel
theorem d_Mo_sign_58 : decode prog_13_method_18_code 58 = .ok (.goto 27, 3) := by decide +kernel
theorem d_Mo_sign_61 : decode prog_13_method_18_code 61 = .ok (.iload_n 0, 1) := by decide +kernel
theorem d_Mo_sign_62 : decode prog_13_method_18_code 62 = .ok (.bipush 14, 2) := by decide +kernel
theorem d_Mo_sign_64 : decode prog_13_method_18_code 64 = .ok (.if_icmp .ne 8, 3) := by decide +kernel
theorem d_Mo_sign_67 : decode prog_13_method_18_code 67 = .ok (.bipush 95, 2) := by decide +kernel
theorem d_Mo_sign_69 : decode prog_13_method_18_code 69 = .ok (.goto 16, 3) := by decide +kernel
theorem d_Mo_sign_72 : decode prog_13_method_18_code 72 = .ok (.iload_n 0, 1) := by decide +kernel
theorem d_Mo_sign_73 : decode prog_13_method_18_code 73 = .ok (.bipush 15, 2) := by decide +kernel
theorem d_Mo_sign_75 : decode prog_13_method_18_code 75 = .ok (.if_icmp .ne 8, 3) := by decide +kernel
theorem d_Mo_sign_78 : decode prog_13_method_18_code 78 = .ok (.bipush 35, 2) := by decide +kernel
theorem d_Mo_sign_80 : decode prog_13_method_18_code 80 = .ok (.goto 5, 3) := by decide +kernel
theorem d_Mo_sign_83 : decode prog_13_method_18_code 83 = .ok (.bipush 39, 2) := by decide +kernel
theorem d_Mo_sign_85 : decode prog_13_method_18_code 85 = .ok (.ireturn, 1) := by decide +kernel
theorem d_Mo_sign_86 : decode prog_13_method_18_code 86 = .ok (.iload_n 0, 1) := by decide +kernel
theorem d_Mo_sign_87 : decode prog_13_method_18_code 87 = .ok (.bipush 17, 2) := by decide +kernel
theorem d_Mo_sign_89 : decode prog_13_method_18_code 89 = .ok (.if_icmp .ne 8, 3) := by decide +kernel
theorem d_Mo_sign_92 : decode prog_13_method_18_code 92 = .ok (.bipush 34, 2) := by decide +kernel
theorem d_Mo_sign_94 : decode prog_13_method_18_code 94 = .ok (.goto 60, 3) := by decide +kernel
theorem d_Mo_sign_97 : decode prog_13_method_18_code 97 = .ok (.iload_n 0, 1) := by decide +kernel
theorem d_Mo_sign_98 : decode prog_13_method_18_code 98 = .ok (.bipush 18, 2) := by decide +kernel
theorem d_Mo_sign_100 : decode prog_13_method_18_code 100 = .ok (.if_icmp .ne 8, 3) := by decide +kernel
theorem d_Mo_sign_103 : decode prog_13_method_18_code 103 = .ok (.bipush 47, 2) := by decide +kernel
theorem d_Mo_sign_105 : decode prog_13_method_18_code 105 = .ok (.goto 49, 3) := by decide +kernel
theorem d_Mo_sign_108 : decode prog_13_method_18_code 108 = .ok (.iload_n 0, 1) := by decide +kernel
theorem d_Mo_sign_109 : decode prog_13_method_18_code 109 = .ok (.bipush 19, 2) := by decide +kernel
theorem d_Mo_sign_111 : decode prog_13_method_18_code 111 = .ok (.if_icmp .ne 8, 3) := by decide +kernel
theorem d_Mo_sign_114 : decode prog_13_method_18_code 114 = .ok (.bipush 92, 2) := by decide +kernel
theorem d_Mo_sign_116 : decode prog_13_method_18_code 116 = .ok (.goto 38, 3) := by decide +kernel
theorem d_Mo_sign_119 : decode prog_13_method_18_code 119 = .ok (.iload_n 0, 1) := by decide +kernel
theorem d_Mo_sign_120 : decode prog_13_method_18_code 120 = .ok (.bipush 20, 2) := by decide +kernel
theorem d_Mo_sign_122 : decode prog_13_method_18_code 122 = .ok (.if_icmp .ne 8, 3) := by decide +kernel
theorem d_Mo_sign_125 : decode prog_13_method_18_code 125 = .ok (.bipush 45, 2) := by decide +kernel
theorem d_Mo_sign_127 : decode prog_13_method_18_code 127 = .ok (.goto 27, 3) := by decide +kernel
theorem d_Mo_sign_130 : decode prog_13_method_18_code 130 = .ok (.iload_n 0, 1) := by decide +kernel
theorem d_Mo_sign_131 : decode prog_13_method_18_code 131 = .ok (.bipush 21, 2) := by decide +kernel
theorem d_Mo_sign_133 : decode prog_13_method_18_code 133 = .ok (.if_icmp .ne 8, 3) := by decide +kernel
theorem d_Mo_sign_136 : decode prog_13_method_18_code 136 = .ok (.bipush 58, 2) := by decide +kernel
theorem d_Mo_sign_138 : decode prog_13_method_18_code 138 = .ok (.goto 16, 3) := by decide +kernel
theorem d_Mo_sign_141 : decode prog_13_method_18_code 141 = .ok (.iload_n 0, 1) := by decide +kernel
theorem d_Mo_sign_142 : decode prog_13_method_18_code 142 = .ok (.bipush 22, 2) := by decide +kernel
theorem d_Mo_sign_144 : decode prog_13_method_18_code 144 = .ok (.if_icmp .ne 8, 3) := by decide +kernel
theorem d_Mo_sign_147 : decode prog_13_method_18_code 147 = .ok (.bipush 40, 2) := by decide +kernel
theorem d_Mo_sign_149 : decode prog_13_method_18_code 149 = .ok (.goto 5, 3) := by decide +kernel
theorem d_Mo_sign_152 : decode prog_13_method_18_code 152 = .ok (.bipush 41, 2) := by decide +kernel
theorem d_Mo_sign_154 : decode prog_13_method_18_code 154 = .ok (.ireturn, 1) := by decide +kernel
theorem d_Mo_setProperty_0 : decode prog_13_method_33_code 0 = .ok (.aload_n 0, 1) := by decide +kernel
theorem d_Mo_setProperty_1 : decode prog_13_method_33_code 1 = .ok (.iload_n 1, 1) := by decide +kernel
theorem d_Mo_setProperty_2 : decode prog_13_method_33_code 2 = .ok (.iload_n 2, 1) := by decide +kernel
theorem d_Mo_setProperty_3 : decode prog_13_method_33_code 3 = .ok (.invokevirtual 169, 3) := by decide +kernel
theorem d_Mo_setProperty_6 : decode prog_13_method_33_code 6 = .ok (.istore 4, 2) := by decide +kernel
theorem d_Mo_setProperty_8 : decode prog_13_method_33_code 8 = .ok (.aload_n 0, 1) := by decide +kernel
theorem d_Mo_setProperty_9 : decode prog_13_method_33_code 9 = .ok (.getfield 77, 3) := by decide +kernel
theorem d_Mo_setProperty_12 : decode prog_13_method_33_code 12 = .ok (.ifCond .gt 21, 3) := by decide +kernel
theorem d_Mo_setProperty_15 : decode prog_13_method_33_code 15 = .ok (.aload_n 0, 1) := by decide +kernel
theorem d_Mo_setProperty_16 : decode prog_13_method_33_code 16 = .ok (.iload 4, 2) := by decide +kernel
theorem d_Mo_setProperty_18 : decode prog_13_method_33_code 18 = .ok (.ifCond .le 7, 3) := by decide +kernel
theorem d_Mo_setProperty_21 : decode prog_13_method_33_code 21 = .ok (.iconst 1, 1) := by decide +kernel
theorem d_Mo_setProperty_22 : decode prog_13_method_33_code 22 = .ok (.goto 4, 3) := by decide +kernel
theorem d_Mo_setProperty_25 : decode prog_13_method_33_code 25 = .ok (.iconst 0, 1) := by decide +kernel
theorem d_Mo_setProperty_26 : decode prog_13_method_33_code 26 = .ok (.iconst 1, 1) := by decide +kernel
theorem d_Mo_setProperty_27 : decode prog_13_method_33_code 27 = .ok (.invokevirtual 82, 3) := by decide +kernel
theorem d_Mo_setProperty_30 : decode prog_13_method_33_code 30 = .ok (.ifCond .ne 4, 3) := by decide +kernel
theorem d_Mo_setProperty_33 : decode prog_13_method_33_code 33 = .ok (.return_, 1) := by decide +kernel
theorem d_Mo_setProperty_34 : decode prog_13_method_33_code 34 = .ok (.aload_n 0, 1) := by decide +kernel
theorem d_Mo_setProperty_35 : decode prog_13_method_33_code 35 = .ok (.iload 4, 2) := by decide +kernel
theorem d_Mo_setProperty_37 : decode prog_13_method_33_code 37 = .ok (.invokevirtual 172, 3) := by decide +kernel
theorem d_Mo_setProperty_40 : decode prog_13_method_33_code 40 = .ok (.istore 5, 2) := by decide +kernel
theorem d_Mo_setProperty_42 : decode prog_13_method_33_code 42 = .ok (.aload_n 0, 1) := by decide +kernel
theorem d_Mo_setProperty_43 : decode prog_13_method_33_code 43 = .ok (.iload 5, 2) := by decide +kernel
theorem d_Mo_setProperty_45 : decode prog_13_method_33_code 45 = .ok (.iconst 3, 1) := by decide +kernel
theorem d_Mo_setProperty_46 : decode prog_13_method_33_code 46 = .ok (.if_icmp .ge 7, 3) := by decide +kernel
theorem d_Mo_setProperty_49 : decode prog_13_method_33_code 49 = .ok (.iconst 1, 1) := by decide +kernel
theorem d_Mo_setProperty_50 : decode prog_13_method_33_code 50 = .ok (.goto 4, 3) := by decide +kernel
theorem d_Mo_setProperty_53 : decode prog_13_method_33_code 53 = .ok (.iconst 0, 1) := by decide +kernel
theorem d_Mo_setProperty_54 : decode prog_13_method_33_code 54 = .ok (.iconst 1, 1) := by decide +kernel
theorem d_Mo_setProperty_55 : decode prog_13_method_33_code 55 = .ok (.invokevirtual 82, 3) := by decide +kernel
theorem d_Mo_setProperty_58 : decode prog_13_method_33_code 58 = .ok (.ifCond .ne 4, 3) := by decide +kernel
theorem d_Mo_setProperty_61 : decode prog_13_method_33_code 61 = .ok (.return_, 1) := by decide +kernel
theorem d_Mo_setProperty_62 : decode prog_13_method_33_code 62 = .ok (.iload 5, 2) := by decide +kernel
theorem d_Mo_setProperty_64 : decode prog_13_method_33_code 64 = .ok (.iconst 1, 1) := by decide +kernel
theorem d_Mo_setProperty_65 : decode prog_13_method_33_code 65 = .ok (.if_icmp .ne 13, 3) := by decide +kernel
theorem d_Mo_setProperty_68 : decode prog_13_method_33_code 68 = .ok (.aload_n 0, 1) := by decide +kernel
theorem d_Mo_setProperty_69 : decode prog_13_method_33_code 69 = .ok (.iload 4, 2) := by decide +kernel
theorem d_Mo_setProperty_71 : decode prog_13_method_33_code 71 = .ok (.iload_n 3, 1) := by decide +kernel
theorem d_Mo_setProperty_72 : decode prog_13_method_33_code 72 = .ok (.invokevirtual 145, 3) := by decide +kernel
theorem d_Mo_setProperty_75 : decode prog_13_method_33_code 75 = .ok (.goto 10, 3) := by decide +kernel
theorem d_Mo_setProperty_78 : decode prog_13_method_33_code 78 = .ok (.aload_n 0, 1) := by decide +kernel
theorem d_Mo_setProperty_79 : decode prog_13_method_33_code 79 = .ok (.iload 4, 2) := by decide +kernel
theorem d_Mo_setProperty_81 : decode prog_13_method_33_code 81 = .ok (.iload_n 3, 1) := by decide +kernel
theorem d_Mo_setProperty_82 : decode prog_13_method_33_code 82 = .ok (.invokevirtual 103, 3) := by decide +kernel
theorem d_Mo_setProperty_85 : decode prog_13_method_33_code 85 = .ok (.return_, 1) := by decide +kernel
theorem d_Mo_bytesOf_0 : decode prog_13_method_30_code 0 = .ok (.aload_n 0, 1) := by decide +kernel
theorem d_Mo_bytesOf_1 : decode prog_13_method_30_code 1 = .ok (.iload_n 1, 1) := by decide +kernel
theorem d_Mo_bytesOf_2 : decode prog_13_method_30_code 2 = .ok (.iload_n 2, 1) := by decide +kernel
theorem d_Mo_bytesOf_3 : decode prog_13_method_30_code 3 = .ok (.invokevirtual 166, 3) := by decide +kernel
theorem d_Mo_bytesOf_6 : decode prog_13_method_30_code 6 = .ok (.istore_n 3, 1) := by decide +kernel
theorem d_Mo_bytesOf_7 : decode prog_13_method_30_code 7 = .ok (.aload_n 0, 1) := by decide +kernel
theorem d_Mo_bytesOf_8 : decode prog_13_method_30_code 8 = .ok (.getfield 77, 3) := by decide +kernel
theorem d_Mo_bytesOf_11 : decode prog_13_method_30_code 11 = .ok (.ifCond .gt 12, 3) := by decide +kernel
theorem d_Mo_bytesOf_14 : decode prog_13_method_30_code 14 = .ok (.aload_n 0, 1) := by decide +kernel
theorem d_Mo_bytesOf_15 : decode prog_13_method_30_code 15 = .ok (.getfield 7, 3) := by decide +kernel
theorem d_Mo_bytesOf_18 : decode prog_13_method_30_code 18 = .ok (.iload_n 3, 1) := by decide +kernel
theorem d_Mo_bytesOf_19 : decode prog_13_method_30_code 19 = .ok (.iaload, 1) := by decide +kernel
theorem d_Mo_bytesOf_20 : decode prog_13_method_30_code 20 = .ok (.ifCond .ne 7, 3) := by decide +kernel
theorem d_Mo_bytesOf_23 : decode prog_13_method_30_code 23 = .ok (.iconst 0, 1) := by decide +kernel
theorem d_Mo_bytesOf_24 : decode prog_13_method_30_code 24 = .ok (.goto 6, 3) := by decide +kernel
theorem d_Mo_bytesOf_27 : decode prog_13_method_30_code 27 = .ok (.iload_n 3, 1) := by decide +kernel
theorem d_Mo_bytesOf_28 : decode prog_13_method_30_code 28 = .ok (.iconst 1, 1) := by decide +kernel
theorem d_Mo_bytesOf_29 : decode prog_13_method_30_code 29 = .ok (.iadd, 1) := by decide +kernel
theorem d_Mo_bytesOf_30 : decode prog_13_method_30_code 30 = .ok (.ireturn, 1) := by decide +kernel
theorem d_Mo_sizeAt_0 : decode prog_13_method_29_code 0 = .ok (.aload_n 0, 1) := by decide +kernel
theorem d_Mo_sizeAt_1 : decode prog_13_method_29_code 1 = .ok (.iload_n 1, 1) := by decide +kernel
theorem d_Mo_sizeAt_2 : decode prog_13_method_29_code 2 = .ok (.invokevirtual 163, 3) := by decide +kernel
theorem d_Mo_sizeAt_5 : decode prog_13_method_29_code 5 = .ok (.istore_n 3, 1) := by decide +kernel
theorem d_Mo_sizeAt_6 : decode prog_13_method_29_code 6 = .ok (.aload_n 0, 1) := by decide +kernel
theorem d_Mo_sizeAt_7 : decode prog_13_method_29_code 7 = .ok (.getfield 77, 3) := by decide +kernel
theorem d_Mo_sizeAt_10 : decode prog_13_method_29_code 10 = .ok (.ifCond .ne 39, 3) := by decide +kernel
theorem d_Mo_sizeAt_13 : decode prog_13_method_29_code 13 = .ok (.aload_n 0, 1) := by decide +kernel
theorem d_Mo_sizeAt_14 : decode prog_13_method_29_code 14 = .ok (.iload_n 3, 1) := by decide +kernel
theorem d_Mo_sizeAt_15 : decode prog_13_method_29_code 15 = .ok (.invokevirtual 86, 3) := by decide +kernel
theorem d_Mo_sizeAt_18 : decode prog_13_method_29_code 18 = .ok (.istore 4, 2) := by decide +kernel
theorem d_Mo_sizeAt_20 : decode prog_13_method_29_code 20 = .ok (.iload 4, 2) := by decide +kernel
theorem d_Mo_sizeAt_22 : decode prog_13_method_29_code 22 = .ok (.ifCond .eq 12, 3) := by decide +kernel
theorem d_Mo_sizeAt_25 : decode prog_13_method_29_code 25 = .ok (.iload 4, 2) := by decide +kernel
theorem d_Mo_sizeAt_27 : decode prog_13_method_29_code 27 = .ok (.bipush 32, 2) := by decide +kernel
theorem d_Mo_sizeAt_29 : decode prog_13_method_29_code 29 = .ok (.irem, 1) := by decide +kernel
theorem d_Mo_sizeAt_30 : decode prog_13_method_29_code 30 = .ok (.iload_n 2, 1) := by decide +kernel
theorem d_Mo_sizeAt_31 : decode prog_13_method_29_code 31 = .ok (.if_icmp .ne 5, 3) := by decide +kernel
theorem d_Mo_sizeAt_34 : decode prog_13_method_29_code 34 = .ok (.iload_n 3, 1) := by decide +kernel
theorem d_Mo_sizeAt_35 : decode prog_13_method_29_code 35 = .ok (.ireturn, 1) := by decide +kernel
theorem d_Mo_sizeAt_36 : decode prog_13_method_29_code 36 = .ok (.iload_n 3, 1) := by decide +kernel
theorem d_Mo_sizeAt_37 : decode prog_13_method_29_code 37 = .ok (.iconst 2, 1) := by decide +kernel
theorem d_Mo_sizeAt_38 : decode prog_13_method_29_code 38 = .ok (.iadd, 1) := by decide +kernel
theorem d_Mo_sizeAt_39 : decode prog_13_method_29_code 39 = .ok (.iload 4, 2) := by decide +kernel
theorem d_Mo_sizeAt_41 : decode prog_13_method_29_code 41 = .ok (.bipush 32, 2) := by decide +kernel
theorem d_Mo_sizeAt_43 : decode prog_13_method_29_code 43 = .ok (.idiv, 1) := by decide +kernel
theorem d_Mo_sizeAt_44 : decode prog_13_method_29_code 44 = .ok (.iadd, 1) := by decide +kernel
theorem d_Mo_sizeAt_45 : decode prog_13_method_29_code 45 = .ok (.istore_n 3, 1) := by decide +kernel
theorem d_Mo_sizeAt_46 : decode prog_13_method_29_code 46 = .ok (.goto (-40), 3) := by decide +kernel
theorem d_Mo_sizeAt_49 : decode prog_13_method_29_code 49 = .ok (.iconst 0, 1) := by decide +kernel
theorem d_Mo_sizeAt_50 : decode prog_13_method_29_code 50 = .ok (.ireturn, 1) := by decide +kernel
theorem d_Mo_firstProperty_0 : decode prog_13_method_28_code 0 = .ok (.aload_n 0, 1) := by decide +kernel
theorem d_Mo_firstProperty_1 : decode prog_13_method_28_code 1 = .ok (.aload_n 0, 1) := by decide +kernel
theorem d_Mo_firstProperty_2 : decode prog_13_method_28_code 2 = .ok (.iload_n 1, 1) := by decide +kernel
theorem d_Mo_firstProperty_3 : decode prog_13_method_28_code 3 = .ok (.invokevirtual 142, 3) := by decide +kernel
theorem d_Mo_firstProperty_6 : decode prog_13_method_28_code 6 = .ok (.bipush 7, 2) := by decide +kernel
theorem d_Mo_firstProperty_8 : decode prog_13_method_28_code 8 = .ok (.iadd, 1) := by decide +kernel
theorem d_Mo_firstProperty_9 : decode prog_13_method_28_code 9 = .ok (.invokevirtual 100, 3) := by decide +kernel
theorem d_Mo_firstProperty_12 : decode prog_13_method_28_code 12 = .ok (.istore_n 2, 1) := by decide +kernel
theorem d_Mo_firstProperty_13 : decode prog_13_method_28_code 13 = .ok (.aload_n 0, 1) := by decide +kernel
theorem d_Mo_firstProperty_14 : decode prog_13_method_28_code 14 = .ok (.getfield 77, 3) := by decide +kernel
theorem d_Mo_firstProperty_17 : decode prog_13_method_28_code 17 = .ok (.ifCond .ne 17, 3) := by decide +kernel
theorem d_Mo_firstProperty_20 : decode prog_13_method_28_code 20 = .ok (.iload_n 2, 1) := by decide +kernel
theorem d_Mo_firstProperty_21 : decode prog_13_method_28_code 21 = .ok (.iconst 1, 1) := by decide +kernel
theorem d_Mo_firstProperty_22 : decode prog_13_method_28_code 22 = .ok (.iadd, 1) := by decide +kernel
theorem d_Mo_firstProperty_23 : decode prog_13_method_28_code 23 = .ok (.iconst 2, 1) := by decide +kernel
theorem d_Mo_firstProperty_24 : decode prog_13_method_28_code 24 = .ok (.aload_n 0, 1) := by decide +kernel
theorem d_Mo_firstProperty_25 : decode prog_13_method_28_code 25 = .ok (.iload_n 2, 1) := by decide +kernel
theorem d_Mo_firstProperty_26 : decode prog_13_method_28_code 26 = .ok (.invokevirtual 86, 3) := by decide +kernel
theorem d_Mo_firstProperty_29 : decode prog_13_method_28_code 29 = .ok (.imul, 1) := by decide +kernel
theorem d_Mo_firstProperty_30 : decode prog_13_method_28_code 30 = .ok (.iadd, 1) := by decide +kernel
theorem d_Mo_firstProperty_31 : decode prog_13_method_28_code 31 = .ok (.goto 4, 3) := by decide +kernel
theorem d_Mo_firstProperty_34 : decode prog_13_method_28_code 34 = .ok (.iconst 0, 1) := by decide +kernel
theorem d_Mo_firstProperty_35 : decode prog_13_method_28_code 35 = .ok (.ireturn, 1) := by decide +kernel
theorem d_Mo_objectAt_0 : decode prog_13_method_21_code 0 = .ok (.aload_n 0, 1) := by decide +kernel
theorem d_Mo_objectAt_1 : decode prog_13_method_21_code 1 = .ok (.iload_n 1, 1) := by decide +kernel
theorem d_Mo_objectAt_2 : decode prog_13_method_21_code 2 = .ok (.ifCond .le 13, 3) := by decide +kernel
theorem d_Mo_objectAt_5 : decode prog_13_method_21_code 5 = .ok (.iload_n 1, 1) := by decide +kernel
theorem d_Mo_objectAt_6 : decode prog_13_method_21_code 6 = .ok (.bipush 21, 2) := by decide +kernel
theorem d_Mo_objectAt_8 : decode prog_13_method_21_code 8 = .ok (.if_icmp .ge 7, 3) := by decide +kernel
theorem d_Mo_objectAt_11 : decode prog_13_method_21_code 11 = .ok (.iconst 1, 1) := by decide +kernel
theorem d_Mo_objectAt_12 : decode prog_13_method_21_code 12 = .ok (.goto 4, 3) := by decide +kernel
theorem d_Mo_objectAt_15 : decode prog_13_method_21_code 15 = .ok (.iconst 0, 1) := by decide +kernel
theorem d_Mo_objectAt_16 : decode prog_13_method_21_code 16 = .ok (.iconst 1, 1) := by decide +kernel
theorem d_Mo_objectAt_17 : decode prog_13_method_21_code 17 = .ok (.invokevirtual 82, 3) := by decide +kernel
theorem d_Mo_objectAt_20 : decode prog_13_method_21_code 20 = .ok (.ifCond .eq 22, 3) := by decide +kernel
theorem d_Mo_objectAt_23 : decode prog_13_method_21_code 23 = .ok (.aload_n 0, 1) := by decide +kernel
theorem d_Mo_objectAt_24 : decode prog_13_method_21_code 24 = .ok (.bipush 8, 2) := by decide +kernel
theorem d_Mo_objectAt_26 : decode prog_13_method_21_code 26 = .ok (.invokevirtual 100, 3) := by decide +kernel
theorem d_Mo_objectAt_29 : decode prog_13_method_21_code 29 = .ok (.bipush 14, 2) := by decide +kernel
theorem d_Mo_objectAt_31 : decode prog_13_method_21_code 31 = .ok (.iadd, 1) := by decide +kernel
theorem d_Mo_objectAt_32 : decode prog_13_method_21_code 32 = .ok (.bipush 9, 2) := by decide +kernel
theorem d_Mo_objectAt_34 : decode prog_13_method_21_code 34 = .ok (.iload_n 1, 1) := by decide +kernel
theorem d_Mo_objectAt_35 : decode prog_13_method_21_code 35 = .ok (.iconst 1, 1) := by decide +kernel
theorem d_Mo_objectAt_36 : decode prog_13_method_21_code 36 = .ok (.isub, 1) := by decide +kernel
theorem d_Mo_objectAt_37 : decode prog_13_method_21_code 37 = .ok (.imul, 1) := by decide +kernel
theorem d_Mo_objectAt_38 : decode prog_13_method_21_code 38 = .ok (.iadd, 1) := by decide +kernel
theorem d_Mo_objectAt_39 : decode prog_13_method_21_code 39 = .ok (.goto 4, 3) := by decide +kernel
theorem d_Mo_objectAt_42 : decode prog_13_method_21_code 42 = .ok (.iconst 0, 1) := by decide +kernel
theorem d_Mo_objectAt_43 : decode prog_13_method_21_code 43 = .ok (.ireturn, 1) := by decide +kernel
theorem d_Mo_lengthAt_0 : decode prog_13_method_31_code 0 = .ok (.iconst 1, 1) := by decide +kernel
theorem d_Mo_lengthAt_1 : decode prog_13_method_31_code 1 = .ok (.aload_n 0, 1) := by decide +kernel
theorem d_Mo_lengthAt_2 : decode prog_13_method_31_code 2 = .ok (.iload_n 1, 1) := by decide +kernel
theorem d_Mo_lengthAt_3 : decode prog_13_method_31_code 3 = .ok (.iconst 1, 1) := by decide +kernel
theorem d_Mo_lengthAt_4 : decode prog_13_method_31_code 4 = .ok (.isub, 1) := by decide +kernel
theorem d_Mo_lengthAt_5 : decode prog_13_method_31_code 5 = .ok (.invokevirtual 86, 3) := by decide +kernel
theorem d_Mo_lengthAt_8 : decode prog_13_method_31_code 8 = .ok (.bipush 32, 2) := by decide +kernel
theorem d_Mo_lengthAt_10 : decode prog_13_method_31_code 10 = .ok (.idiv, 1) := by decide +kernel
theorem d_Mo_lengthAt_11 : decode prog_13_method_31_code 11 = .ok (.iadd, 1) := by decide +kernel
theorem d_Mo_lengthAt_12 : decode prog_13_method_31_code 12 = .ok (.ireturn, 1) := by decide +kernel
theorem d_Mo_call_0 : decode prog_13_method_46_code 0 = .ok (.aload_n 0, 1) := by decide +kernel
theorem d_Mo_call_1 : decode prog_13_method_46_code 1 = .ok (.getfield 61, 3) := by decide +kernel
theorem d_Mo_call_4 : decode prog_13_method_46_code 4 = .ok (.iconst 0, 1) := by decide +kernel
theorem d_Mo_call_5 : decode prog_13_method_46_code 5 = .ok (.iaload, 1) := by decide +kernel
theorem d_Mo_call_6 : decode prog_13_method_46_code 6 = .ok (.istore_n 1, 1) := by decide +kernel
theorem d_Mo_call_7 : decode prog_13_method_46_code 7 = .ok (.iload_n 1, 1) := by decide +kernel
theorem d_Mo_call_8 : decode prog_13_method_46_code 8 = .ok (.ifCond .ne 9, 3) := by decide +kernel
theorem d_Mo_call_11 : decode prog_13_method_46_code 11 = .ok (.aload_n 0, 1) := by decide +kernel
theorem d_Mo_call_12 : decode prog_13_method_46_code 12 = .ok (.iconst 0, 1) := by decide +kernel
theorem d_Mo_call_13 : decode prog_13_method_46_code 13 = .ok (.invokevirtual 216, 3) := by decide +kernel
theorem d_Mo_call_16 : decode prog_13_method_46_code 16 = .ok (.return_, 1) := by decide +kernel
theorem d_Mo_call_17 : decode prog_13_method_46_code 17 = .ok (.aload_n 0, 1) := by decide +kernel
theorem d_Mo_call_18 : decode prog_13_method_46_code 18 = .ok (.aload_n 0, 1) := by decide +kernel
theorem d_Mo_call_19 : decode prog_13_method_46_code 19 = .ok (.getfield 97, 3) := by decide +kernel
theorem d_Mo_call_22 : decode prog_13_method_46_code 22 = .ok (.bipush 10, 2) := by decide +kernel
theorem d_Mo_call_24 : decode prog_13_method_46_code 24 = .ok (.if_icmp .ge 7, 3) := by decide +kernel
theorem d_Mo_call_27 : decode prog_13_method_46_code 27 = .ok (.iconst 1, 1) := by decide +kernel
theorem d_Mo_call_28 : decode prog_13_method_46_code 28 = .ok (.goto 4, 3) := by decide +kernel
theorem d_Mo_call_31 : decode prog_13_method_46_code 31 = .ok (.iconst 0, 1) := by decide +kernel
theorem d_Mo_call_32 : decode prog_13_method_46_code 32 = .ok (.iconst 2, 1) := by decide +kernel
theorem d_Mo_call_33 : decode prog_13_method_46_code 33 = .ok (.invokevirtual 82, 3) := by decide +kernel
theorem d_Mo_call_36 : decode prog_13_method_46_code 36 = .ok (.ifCond .ne 4, 3) := by decide +kernel
theorem d_Mo_call_39 : decode prog_13_method_46_code 39 = .ok (.return_, 1) := by decide +kernel
theorem d_Mo_call_40 : decode prog_13_method_46_code 40 = .ok (.aload_n 0, 1) := by decide +kernel
theorem d_Mo_call_41 : decode prog_13_method_46_code 41 = .ok (.iconst 2, 1) := by decide +kernel
theorem d_Mo_call_42 : decode prog_13_method_46_code 42 = .ok (.iload_n 1, 1) := by decide +kernel
theorem d_Mo_call_43 : decode prog_13_method_46_code 43 = .ok (.imul, 1) := by decide +kernel
theorem d_Mo_call_44 : decode prog_13_method_46_code 44 = .ok (.invokevirtual 86, 3) := by decide +kernel
theorem d_Mo_call_47 : decode prog_13_method_46_code 47 = .ok (.istore_n 2, 1) := by decide +kernel
theorem d_Mo_call_48 : decode prog_13_method_46_code 48 = .ok (.aload_n 0, 1) := by decide +kernel
theorem d_Mo_call_49 : decode prog_13_method_46_code 49 = .ok (.iload_n 2, 1) := by decide +kernel
theorem d_Mo_call_50 : decode prog_13_method_46_code 50 = .ok (.bipush 16, 2) := by decide +kernel
theorem d_Mo_call_52 : decode prog_13_method_46_code 52 = .ok (.if_icmp .ge 7, 3) := by decide +kernel
theorem d_Mo_call_55 : decode prog_13_method_46_code 55 = .ok (.iconst 1, 1) := by decide +kernel
theorem d_Mo_call_56 : decode prog_13_method_46_code 56 = .ok (.goto 4, 3) := by decide +kernel
theorem d_Mo_call_59 : decode prog_13_method_46_code 59 = .ok (.iconst 0, 1) := by decide +kernel
theorem d_Mo_call_60 : decode prog_13_method_46_code 60 = .ok (.iconst 1, 1) := by decide +kernel
theorem d_Mo_call_61 : decode prog_13_method_46_code 61 = .ok (.invokevirtual 82, 3) := by decide +kernel
theorem d_Mo_call_64 : decode prog_13_method_46_code 64 = .ok (.ifCond .ne 4, 3) := by decide +kernel
theorem d_Mo_call_67 : decode prog_13_method_46_code 67 = .ok (.return_, 1) := by decide +kernel
theorem d_Mo_call_68 : decode prog_13_method_46_code 68 = .ok (.iconst 0, 1) := by decide +kernel
theorem d_Mo_call_69 : decode prog_13_method_46_code 69 = .ok (.istore_n 3, 1) := by decide +kernel
theorem d_Mo_call_70 : decode prog_13_method_46_code 70 = .ok (.iload_n 3, 1) := by decide +kernel
theorem d_Mo_call_71 : decode prog_13_method_46_code 71 = .ok (.iload_n 2, 1) := by decide +kernel
theorem d_Mo_call_72 : decode prog_13_method_46_code 72 = .ok (.if_icmp .ge 63, 3) := by decide +kernel
theorem d_Mo_call_75 : decode prog_13_method_46_code 75 = .ok (.aload_n 0, 1) := by decide +kernel
theorem d_Mo_call_76 : decode prog_13_method_46_code 76 = .ok (.iconst 2, 1) := by decide +kernel
theorem d_Mo_call_77 : decode prog_13_method_46_code 77 = .ok (.iload_n 1, 1) := by decide +kernel
theorem d_Mo_call_78 : decode prog_13_method_46_code 78 = .ok (.imul, 1) := by decide +kernel
theorem d_Mo_call_79 : decode prog_13_method_46_code 79 = .ok (.iconst 1, 1) := by decide +kernel
theorem d_Mo_call_80 : decode prog_13_method_46_code 80 = .ok (.iadd, 1) := by decide +kernel
theorem d_Mo_call_81 : decode prog_13_method_46_code 81 = .ok (.iconst 2, 1) := by decide +kernel
theorem d_Mo_call_82 : decode prog_13_method_46_code 82 = .ok (.iload_n 3, 1) := by decide +kernel
theorem d_Mo_call_83 : decode prog_13_method_46_code 83 = .ok (.imul, 1) := by decide +kernel
theorem d_Mo_call_84 : decode prog_13_method_46_code 84 = .ok (.iadd, 1) := by decide +kernel
theorem d_Mo_call_85 : decode prog_13_method_46_code 85 = .ok (.invokevirtual 100, 3) := by decide +kernel
theorem d_Mo_call_88 : decode prog_13_method_46_code 88 = .ok (.istore 4, 2) := by decide +kernel
theorem d_Mo_call_90 : decode prog_13_method_46_code 90 = .ok (.aload_n 0, 1) := by decide +kernel
theorem d_Mo_call_91 : decode prog_13_method_46_code 91 = .ok (.getfield 28, 3) := by decide +kernel
theorem d_Mo_call_94 : decode prog_13_method_46_code 94 = .ok (.bipush 15, 2) := by decide +kernel
theorem d_Mo_call_96 : decode prog_13_method_46_code 96 = .ok (.aload_n 0, 1) := by decide +kernel
theorem d_Mo_call_97 : decode prog_13_method_46_code 97 = .ok (.getfield 97, 3) := by decide +kernel
theorem d_Mo_call_100 : decode prog_13_method_46_code 100 = .ok (.iconst 1, 1) := by decide +kernel
theorem d_Mo_call_101 : decode prog_13_method_46_code 101 = .ok (.iadd, 1) := by decide +kernel
theorem d_Mo_call_102 : decode prog_13_method_46_code 102 = .ok (.imul, 1) := by decide +kernel
theorem d_Mo_call_103 : decode prog_13_method_46_code 103 = .ok (.iload_n 3, 1) := by decide +kernel
theorem d_Mo_call_104 : decode prog_13_method_46_code 104 = .ok (.iadd, 1) := by decide +kernel
theorem d_Mo_call_105 : decode prog_13_method_46_code 105 = .ok (.iload_n 3, 1) := by decide +kernel
theorem d_Mo_call_106 : decode prog_13_method_46_code 106 = .ok (.iconst 1, 1) := by decide +kernel
theorem d_Mo_call_107 : decode prog_13_method_46_code 107 = .ok (.iadd, 1) := by decide +kernel
theorem d_Mo_call_108 : decode prog_13_method_46_code 108 = .ok (.aload_n 0, 1) := by decide +kernel
theorem d_Mo_call_109 : decode prog_13_method_46_code 109 = .ok (.getfield 191, 3) := by decide +kernel
theorem d_Mo_call_112 : decode prog_13_method_46_code 112 = .ok (.if_icmp .ge 14, 3) := by decide +kernel
theorem d_Mo_call_115 : decode prog_13_method_46_code 115 = .ok (.aload_n 0, 1) := by decide +kernel
theorem d_Mo_call_116 : decode prog_13_method_46_code 116 = .ok (.getfield 61, 3) := by decide +kernel
theorem d_Mo_call_119 : decode prog_13_method_46_code 119 = .ok (.iload_n 3, 1) := by decide +kernel
theorem d_Mo_call_120 : decode prog_13_method_46_code 120 = .ok (.iconst 1, 1) := by decide +kernel
theorem d_Mo_call_121 : decode prog_13_method_46_code 121 = .ok (.iadd, 1) := by decide +kernel
theorem d_Mo_call_122 : decode prog_13_method_46_code 122 = .ok (.iaload, 1) := by decide +kernel
theorem d_Mo_call_123 : decode prog_13_method_46_code 123 = .ok (.goto 5, 3) := by decide +kernel
theorem d_Mo_call_126 : decode prog_13_method_46_code 126 = .ok (.iload 4, 2) := by decide +kernel
theorem d_Mo_call_128 : decode prog_13_method_46_code 128 = .ok (.iastore, 1) := by decide +kernel
theorem d_Mo_call_129 : decode prog_13_method_46_code 129 = .ok (.iinc 3 1, 3) := by decide +kernel
theorem d_Mo_call_132 : decode prog_13_method_46_code 132 = .ok (.goto (-62), 3) := by decide +kernel
theorem d_Mo_call_135 : decode prog_13_method_46_code 135 = .ok (.aload_n 0, 1) := by decide +kernel
theorem d_Mo_call_136 : decode prog_13_method_46_code 136 = .ok (.getfield 77, 3) := by decide +kernel
theorem d_Mo_call_139 : decode prog_13_method_46_code 139 = .ok (.ifCond .le 4, 3) := by decide +kernel
theorem d_Mo_call_142 : decode prog_13_method_46_code 142 = .ok (.return_, 1) := by decide +kernel
theorem d_Mo_call_143 : decode prog_13_method_46_code 143 = .ok (.aload_n 0, 1) := by decide +kernel
theorem d_Mo_call_144 : decode prog_13_method_46_code 144 = .ok (.dup, 1) := by decide +kernel
theorem d_Mo_call_145 : decode prog_13_method_46_code 145 = .ok (.getfield 97, 3) := by decide +kernel
theorem d_Mo_call_148 : decode prog_13_method_46_code 148 = .ok (.iconst 1, 1) := by decide +kernel
theorem d_Mo_call_149 : decode prog_13_method_46_code 149 = .ok (.iadd, 1) := by decide +kernel
theorem d_Mo_call_150 : decode prog_13_method_46_code 150 = .ok (.putfield 97, 3) := by decide +kernel
theorem d_Mo_call_153 : decode prog_13_method_46_code 153 = .ok (.aload_n 0, 1) := by decide +kernel
theorem d_Mo_call_154 : decode prog_13_method_46_code 154 = .ok (.getfield 16, 3) := by decide +kernel
theorem d_Mo_call_157 : decode prog_13_method_46_code 157 = .ok (.aload_n 0, 1) := by decide +kernel
theorem d_Mo_call_158 : decode prog_13_method_46_code 158 = .ok (.getfield 97, 3) := by decide +kernel
theorem d_Mo_call_161 : decode prog_13_method_46_code 161 = .ok (.iload_n 2, 1) := by decide +kernel
theorem d_Mo_call_162 : decode prog_13_method_46_code 162 = .ok (.iastore, 1) := by decide +kernel
theorem d_Mo_call_163 : decode prog_13_method_46_code 163 = .ok (.aload_n 0, 1) := by decide +kernel
theorem d_Mo_call_164 : decode prog_13_method_46_code 164 = .ok (.getfield 19, 3) := by decide +kernel
theorem d_Mo_call_167 : decode prog_13_method_46_code 167 = .ok (.aload_n 0, 1) := by decide +kernel
theorem d_Mo_call_168 : decode prog_13_method_46_code 168 = .ok (.getfield 97, 3) := by decide +kernel
theorem d_Mo_call_171 : decode prog_13_method_46_code 171 = .ok (.aload_n 0, 1) := by decide +kernel
theorem d_Mo_call_172 : decode prog_13_method_46_code 172 = .ok (.getfield 94, 3) := by decide +kernel
theorem d_Mo_call_175 : decode prog_13_method_46_code 175 = .ok (.iastore, 1) := by decide +kernel
theorem d_Mo_call_176 : decode prog_13_method_46_code 176 = .ok (.aload_n 0, 1) := by decide +kernel
theorem d_Mo_call_177 : decode prog_13_method_46_code 177 = .ok (.getfield 22, 3) := by decide +kernel
theorem d_Mo_call_180 : decode prog_13_method_46_code 180 = .ok (.aload_n 0, 1) := by decide +kernel
theorem d_Mo_call_181 : decode prog_13_method_46_code 181 = .ok (.getfield 97, 3) := by decide +kernel
theorem d_Mo_call_184 : decode prog_13_method_46_code 184 = .ok (.aload_n 0, 1) := by decide +kernel
theorem d_Mo_call_185 : decode prog_13_method_46_code 185 = .ok (.getfield 210, 3) := by decide +kernel
theorem d_Mo_call_188 : decode prog_13_method_46_code 188 = .ok (.iastore, 1) := by decide +kernel
theorem d_Mo_call_189 : decode prog_13_method_46_code 189 = .ok (.aload_n 0, 1) := by decide +kernel
theorem d_Mo_call_190 : decode prog_13_method_46_code 190 = .ok (.getfield 25, 3) := by decide +kernel
theorem d_Mo_call_193 : decode prog_13_method_46_code 193 = .ok (.aload_n 0, 1) := by decide +kernel
theorem d_Mo_call_194 : decode prog_13_method_46_code 194 = .ok (.getfield 97, 3) := by decide +kernel
theorem d_Mo_call_197 : decode prog_13_method_46_code 197 = .ok (.aload_n 0, 1) := by decide +kernel
theorem d_Mo_call_198 : decode prog_13_method_46_code 198 = .ok (.getfield 114, 3) := by decide +kernel
theorem d_Mo_call_201 : decode prog_13_method_46_code 201 = .ok (.iastore, 1) := by decide +kernel
theorem d_Mo_call_202 : decode prog_13_method_46_code 202 = .ok (.aload_n 0, 1) := by decide +kernel
theorem d_Mo_call_203 : decode prog_13_method_46_code 203 = .ok (.iconst 2, 1) := by decide +kernel
theorem d_Mo_call_204 : decode prog_13_method_46_code 204 = .ok (.iload_n 1, 1) := by decide +kernel
theorem d_Mo_call_205 : decode prog_13_method_46_code 205 = .ok (.imul, 1) := by decide +kernel
theorem d_Mo_call_206 : decode prog_13_method_46_code 206 = .ok (.iconst 1, 1) := by decide +kernel
theorem d_Mo_call_207 : decode prog_13_method_46_code 207 = .ok (.iadd, 1) := by decide +kernel
theorem d_Mo_call_208 : decode prog_13_method_46_code 208 = .ok (.iconst 2, 1) := by decide +kernel
theorem d_Mo_call_209 : decode prog_13_method_46_code 209 = .ok (.iload_n 2, 1) := by decide +kernel
theorem d_Mo_call_210 : decode prog_13_method_46_code 210 = .ok (.imul, 1) := by decide +kernel
theorem d_Mo_call_211 : decode prog_13_method_46_code 211 = .ok (.iadd, 1) := by decide +kernel
theorem d_Mo_call_212 : decode prog_13_method_46_code 212 = .ok (.putfield 175, 3) := by decide +kernel
theorem d_Mo_call_215 : decode prog_13_method_46_code 215 = .ok (.return_, 1) := by decide +kernel
theorem d_Mo_none_0 : decode prog_13_method_54_code 0 = .ok (.iload_n 1, 1) := by decide +kernel
theorem d_Mo_none_1 : decode prog_13_method_54_code 1 = .ok (.iconst 2, 1) := by decide +kernel
theorem d_Mo_none_2 : decode prog_13_method_54_code 2 = .ok (.if_icmp .ge 13, 3) := by decide +kernel
theorem d_Mo_none_5 : decode prog_13_method_54_code 5 = .ok (.aload_n 0, 1) := by decide +kernel
theorem d_Mo_none_6 : decode prog_13_method_54_code 6 = .ok (.iconst 1, 1) := by decide +kernel
theorem d_Mo_none_7 : decode prog_13_method_54_code 7 = .ok (.iload_n 1, 1) := by decide +kernel
theorem d_Mo_none_8 : decode prog_13_method_54_code 8 = .ok (.isub, 1) := by decide +kernel
theorem d_Mo_none_9 : decode prog_13_method_54_code 9 = .ok (.invokevirtual 213, 3) := by decide +kernel
theorem d_Mo_none_12 : decode prog_13_method_54_code 12 = .ok (.goto 105, 3) := by decide +kernel
theorem d_Mo_none_15 : decode prog_13_method_54_code 15 = .ok (.iload_n 1, 1) := by decide +kernel
theorem d_Mo_none_16 : decode prog_13_method_54_code 16 = .ok (.iconst 4, 1) := by decide +kernel
theorem d_Mo_none_17 : decode prog_13_method_54_code 17 = .ok (.if_icmp .ge 18, 3) := by decide +kernel
theorem d_Mo_none_20 : decode prog_13_method_54_code 20 = .ok (.aload_n 0, 1) := by decide +kernel
theorem d_Mo_none_21 : decode prog_13_method_54_code 21 = .ok (.aload_n 0, 1) := by decide +kernel
theorem d_Mo_none_22 : decode prog_13_method_54_code 22 = .ok (.aload_n 0, 1) := by decide +kernel
theorem d_Mo_none_23 : decode prog_13_method_54_code 23 = .ok (.getfield 210, 3) := by decide +kernel
theorem d_Mo_none_26 : decode prog_13_method_54_code 26 = .ok (.invokevirtual 251, 3) := by decide +kernel
theorem d_Mo_none_29 : decode prog_13_method_54_code 29 = .ok (.putfield 175, 3) := by decide +kernel
theorem d_Mo_none_32 : decode prog_13_method_54_code 32 = .ok (.goto 85, 3) := by decide +kernel
theorem d_Mo_none_35 : decode prog_13_method_54_code 35 = .ok (.iload_n 1, 1) := by decide +kernel
theorem d_Mo_none_36 : decode prog_13_method_54_code 36 = .ok (.iconst 5, 1) := by decide +kernel
theorem d_Mo_none_37 : decode prog_13_method_54_code 37 = .ok (.if_icmp .ne 10, 3) := by decide +kernel
theorem d_Mo_none_40 : decode prog_13_method_54_code 40 = .ok (.aload_n 0, 1) := by decide +kernel
theorem d_Mo_none_41 : decode prog_13_method_54_code 41 = .ok (.invokevirtual 257, 3) := by decide +kernel
theorem d_Mo_none_44 : decode prog_13_method_54_code 44 = .ok (.goto 73, 3) := by decide +kernel
theorem d_Mo_none_47 : decode prog_13_method_54_code 47 = .ok (.iload_n 1, 1) := by decide +kernel
theorem d_Mo_none_48 : decode prog_13_method_54_code 48 = .ok (.bipush 6, 2) := by decide +kernel
theorem d_Mo_none_50 : decode prog_13_method_54_code 50 = .ok (.if_icmp .ne 10, 3) := by decide +kernel
theorem d_Mo_none_53 : decode prog_13_method_54_code 53 = .ok (.aload_n 0, 1) := by decide +kernel
theorem d_Mo_none_54 : decode prog_13_method_54_code 54 = .ok (.invokevirtual 260, 3) := by decide +kernel
theorem d_Mo_none_57 : decode prog_13_method_54_code 57 = .ok (.goto 60, 3) := by decide +kernel
theorem d_Mo_none_60 : decode prog_13_method_54_code 60 = .ok (.iload_n 1, 1) := by decide +kernel
theorem d_Mo_none_61 : decode prog_13_method_54_code 61 = .ok (.bipush 8, 2) := by decide +kernel
theorem d_Mo_none_63 : decode prog_13_method_54_code 63 = .ok (.if_icmp .ne 14, 3) := by decide +kernel
theorem d_Mo_none_66 : decode prog_13_method_54_code 66 = .ok (.aload_n 0, 1) := by decide +kernel
theorem d_Mo_none_67 : decode prog_13_method_54_code 67 = .ok (.aload_n 0, 1) := by decide +kernel
theorem d_Mo_none_68 : decode prog_13_method_54_code 68 = .ok (.invokevirtual 178, 3) := by decide +kernel
theorem d_Mo_none_71 : decode prog_13_method_54_code 71 = .ok (.invokevirtual 263, 3) := by decide +kernel
theorem d_Mo_none_74 : decode prog_13_method_54_code 74 = .ok (.goto 43, 3) := by decide +kernel
theorem d_Mo_none_77 : decode prog_13_method_54_code 77 = .ok (.iload_n 1, 1) := by decide +kernel
theorem d_Mo_none_78 : decode prog_13_method_54_code 78 = .ok (.bipush 9, 2) := by decide +kernel
theorem d_Mo_none_80 : decode prog_13_method_54_code 80 = .ok (.if_icmp .ne 11, 3) := by decide +kernel
theorem d_Mo_none_83 : decode prog_13_method_54_code 83 = .ok (.aload_n 0, 1) := by decide +kernel
theorem d_Mo_none_84 : decode prog_13_method_54_code 84 = .ok (.invokevirtual 178, 3) := by decide +kernel
theorem d_Mo_none_87 : decode prog_13_method_54_code 87 = .ok (.pop, 1) := by decide +kernel
theorem d_Mo_none_88 : decode prog_13_method_54_code 88 = .ok (.goto 29, 3) := by decide +kernel
theorem d_Mo_none_91 : decode prog_13_method_54_code 91 = .ok (.iload_n 1, 1) := by decide +kernel
theorem d_Mo_none_92 : decode prog_13_method_54_code 92 = .ok (.bipush 10, 2) := by decide +kernel
theorem d_Mo_none_94 : decode prog_13_method_54_code 94 = .ok (.if_icmp .ne 11, 3) := by decide +kernel
theorem d_Mo_none_97 : decode prog_13_method_54_code 97 = .ok (.aload_n 0, 1) := by decide +kernel
theorem d_Mo_none_98 : decode prog_13_method_54_code 98 = .ok (.iconst 1, 1) := by decide +kernel
theorem d_Mo_none_99 : decode prog_13_method_54_code 99 = .ok (.putfield 266, 3) := by decide +kernel
theorem d_Mo_none_102 : decode prog_13_method_54_code 102 = .ok (.goto 15, 3) := by decide +kernel
theorem d_Mo_none_105 : decode prog_13_method_54_code 105 = .ok (.iload_n 1, 1) := by decide +kernel
theorem d_Mo_none_106 : decode prog_13_method_54_code 106 = .ok (.bipush 11, 2) := by decide +kernel
theorem d_Mo_none_108 : decode prog_13_method_54_code 108 = .ok (.if_icmp .ne 9, 3) := by decide +kernel
theorem d_Mo_none_111 : decode prog_13_method_54_code 111 = .ok (.aload_n 0, 1) := by decide +kernel
theorem d_Mo_none_112 : decode prog_13_method_54_code 112 = .ok (.bipush 13, 2) := by decide +kernel
theorem d_Mo_none_114 : decode prog_13_method_54_code 114 = .ok (.invokevirtual 123, 3) := by decide +kernel
theorem d_Mo_none_117 : decode prog_13_method_54_code 117 = .ok (.iload_n 1, 1) := by decide +kernel
theorem d_Mo_none_118 : decode prog_13_method_54_code 118 = .ok (.iconst 3, 1) := by decide +kernel
theorem d_Mo_none_119 : decode prog_13_method_54_code 119 = .ok (.if_icmp .ne 21, 3) := by decide +kernel
theorem d_Mo_none_122 : decode prog_13_method_54_code 122 = .ok (.aload_n 0, 1) := by decide +kernel
theorem d_Mo_none_123 : decode prog_13_method_54_code 123 = .ok (.getfield 77, 3) := by decide +kernel
theorem d_Mo_none_126 : decode prog_13_method_54_code 126 = .ok (.ifCond .ne 14, 3) := by decide +kernel
theorem d_Mo_none_129 : decode prog_13_method_54_code 129 = .ok (.aload_n 0, 1) := by decide +kernel
theorem d_Mo_none_130 : decode prog_13_method_54_code 130 = .ok (.bipush 13, 2) := by decide +kernel
theorem d_Mo_none_132 : decode prog_13_method_54_code 132 = .ok (.invokevirtual 123, 3) := by decide +kernel
theorem d_Mo_none_135 : decode prog_13_method_54_code 135 = .ok (.aload_n 0, 1) := by decide +kernel
theorem d_Mo_none_136 : decode prog_13_method_54_code 136 = .ok (.iconst 1, 1) := by decide +kernel
theorem d_Mo_none_137 : decode prog_13_method_54_code 137 = .ok (.invokevirtual 213, 3) := by decide +kernel
theorem d_Mo_none_140 : decode prog_13_method_54_code 140 = .ok (.return_, 1) := by decide +kernel
theorem d_Mo_leaveWith_0 : decode prog_13_method_55_code 0 = .ok (.aload_n 0, 1) := by decide +kernel
theorem d_Mo_leaveWith_1 : decode prog_13_method_55_code 1 = .ok (.getfield 77, 3) := by decide +kernel
theorem d_Mo_leaveWith_4 : decode prog_13_method_55_code 4 = .ok (.ifCond .ne 8, 3) := by decide +kernel
theorem d_Mo_leaveWith_7 : decode prog_13_method_55_code 7 = .ok (.aload_n 0, 1) := by decide +kernel
theorem d_Mo_leaveWith_8 : decode prog_13_method_55_code 8 = .ok (.iload_n 1, 1) := by decide +kernel
theorem d_Mo_leaveWith_9 : decode prog_13_method_55_code 9 = .ok (.invokevirtual 213, 3) := by decide +kernel
theorem d_Mo_leaveWith_12 : decode prog_13_method_55_code 12 = .ok (.return_, 1) := by decide +kernel
theorem d_Mo_leave_0 : decode prog_13_method_44_code 0 = .ok (.aload_n 0, 1) := by decide +kernel
theorem d_Mo_leave_1 : decode prog_13_method_44_code 1 = .ok (.aload_n 0, 1) := by decide +kernel
theorem d_Mo_leave_2 : decode prog_13_method_44_code 2 = .ok (.getfield 97, 3) := by decide +kernel
theorem d_Mo_leave_5 : decode prog_13_method_44_code 5 = .ok (.ifCond .le 7, 3) := by decide +kernel
theorem d_Mo_leave_8 : decode prog_13_method_44_code 8 = .ok (.iconst 1, 1) := by decide +kernel
theorem d_Mo_leave_9 : decode prog_13_method_44_code 9 = .ok (.goto 4, 3) := by decide +kernel
theorem d_Mo_leave_12 : decode prog_13_method_44_code 12 = .ok (.iconst 0, 1) := by decide +kernel
theorem d_Mo_leave_13 : decode prog_13_method_44_code 13 = .ok (.iconst 1, 1) := by decide +kernel
theorem d_Mo_leave_14 : decode prog_13_method_44_code 14 = .ok (.invokevirtual 82, 3) := by decide +kernel
theorem d_Mo_leave_17 : decode prog_13_method_44_code 17 = .ok (.ifCond .ne 4, 3) := by decide +kernel
theorem d_Mo_leave_20 : decode prog_13_method_44_code 20 = .ok (.return_, 1) := by decide +kernel
theorem d_Mo_leave_21 : decode prog_13_method_44_code 21 = .ok (.aload_n 0, 1) := by decide +kernel
theorem d_Mo_leave_22 : decode prog_13_method_44_code 22 = .ok (.aload_n 0, 1) := by decide +kernel
theorem d_Mo_leave_23 : decode prog_13_method_44_code 23 = .ok (.getfield 19, 3) := by decide +kernel
theorem d_Mo_leave_26 : decode prog_13_method_44_code 26 = .ok (.aload_n 0, 1) := by decide +kernel
theorem d_Mo_leave_27 : decode prog_13_method_44_code 27 = .ok (.getfield 97, 3) := by decide +kernel
theorem d_Mo_leave_30 : decode prog_13_method_44_code 30 = .ok (.iaload, 1) := by decide +kernel
theorem d_Mo_leave_31 : decode prog_13_method_44_code 31 = .ok (.putfield 94, 3) := by decide +kernel
theorem d_Mo_leave_34 : decode prog_13_method_44_code 34 = .ok (.aload_n 0, 1) := by decide +kernel
theorem d_Mo_leave_35 : decode prog_13_method_44_code 35 = .ok (.aload_n 0, 1) := by decide +kernel
theorem d_Mo_leave_36 : decode prog_13_method_44_code 36 = .ok (.getfield 22, 3) := by decide +kernel
theorem d_Mo_leave_39 : decode prog_13_method_44_code 39 = .ok (.aload_n 0, 1) := by decide +kernel
theorem d_Mo_leave_40 : decode prog_13_method_44_code 40 = .ok (.getfield 97, 3) := by decide +kernel
theorem d_Mo_leave_43 : decode prog_13_method_44_code 43 = .ok (.iaload, 1) := by decide +kernel
theorem d_Mo_leave_44 : decode prog_13_method_44_code 44 = .ok (.putfield 175, 3) := by decide +kernel
theorem d_Mo_leave_47 : decode prog_13_method_44_code 47 = .ok (.aload_n 0, 1) := by decide +kernel
theorem d_Mo_leave_48 : decode prog_13_method_44_code 48 = .ok (.getfield 25, 3) := by decide +kernel
theorem d_Mo_leave_51 : decode prog_13_method_44_code 51 = .ok (.aload_n 0, 1) := by decide +kernel
theorem d_Mo_leave_52 : decode prog_13_method_44_code 52 = .ok (.getfield 97, 3) := by decide +kernel
theorem d_Mo_leave_55 : decode prog_13_method_44_code 55 = .ok (.iaload, 1) := by decide +kernel
theorem d_Mo_leave_56 : decode prog_13_method_44_code 56 = .ok (.istore_n 2, 1) := by decide +kernel
theorem d_Mo_leave_57 : decode prog_13_method_44_code 57 = .ok (.aload_n 0, 1) := by decide +kernel
theorem d_Mo_leave_58 : decode prog_13_method_44_code 58 = .ok (.dup, 1) := by decide +kernel
theorem d_Mo_leave_59 : decode prog_13_method_44_code 59 = .ok (.getfield 97, 3) := by decide +kernel
theorem d_Mo_leave_62 : decode prog_13_method_44_code 62 = .ok (.iconst 1, 1) := by decide +kernel
theorem d_Mo_leave_63 : decode prog_13_method_44_code 63 = .ok (.isub, 1) := by decide +kernel
theorem d_Mo_leave_64 : decode prog_13_method_44_code 64 = .ok (.putfield 97, 3) := by decide +kernel
theorem d_Mo_leave_67 : decode prog_13_method_44_code 67 = .ok (.aload_n 0, 1) := by decide +kernel
theorem d_Mo_leave_68 : decode prog_13_method_44_code 68 = .ok (.iload_n 2, 1) := by decide +kernel
theorem d_Mo_leave_69 : decode prog_13_method_44_code 69 = .ok (.iload_n 1, 1) := by decide +kernel
theorem d_Mo_leave_70 : decode prog_13_method_44_code 70 = .ok (.invokevirtual 117, 3) := by decide +kernel
theorem d_Mo_leave_73 : decode prog_13_method_44_code 73 = .ok (.return_, 1) := by decide +kernel
theorem d_Mo_restore_0 : decode prog_13_method_58_code 0 = .ok (.aload_n 0, 1) := by decide +kernel
theorem d_Mo_restore_1 : decode prog_13_method_58_code 1 = .ok (.getfield 269, 3) := by decide +kernel
theorem d_Mo_restore_4 : decode prog_13_method_58_code 4 = .ok (.ifCond .ne 9, 3) := by decide +kernel
theorem d_Mo_restore_7 : decode prog_13_method_58_code 7 = .ok (.aload_n 0, 1) := by decide +kernel
theorem d_Mo_restore_8 : decode prog_13_method_58_code 8 = .ok (.iconst 0, 1) := by decide +kernel
theorem d_Mo_restore_9 : decode prog_13_method_58_code 9 = .ok (.invokevirtual 222, 3) := by decide +kernel
theorem d_Mo_restore_12 : decode prog_13_method_58_code 12 = .ok (.return_, 1) := by decide +kernel
theorem d_Mo_restore_13 : decode prog_13_method_58_code 13 = .ok (.aload_n 0, 1) := by decide +kernel
theorem d_Mo_restore_14 : decode prog_13_method_58_code 14 = .ok (.getfield 31, 3) := by decide +kernel
theorem d_Mo_restore_17 : decode prog_13_method_58_code 17 = .ok (.aload_n 0, 1) := by decide +kernel
theorem d_Mo_restore_18 : decode prog_13_method_58_code 18 = .ok (.getfield 7, 3) := by decide +kernel
theorem d_Mo_restore_21 : decode prog_13_method_58_code 21 = .ok (.sipush 512, 3) := by decide +kernel
theorem d_Mo_restore_24 : decode prog_13_method_58_code 24 = .ok (.invokestatic 272, 3) := by decide +kernel
theorem d_Mo_restore_27 : decode prog_13_method_58_code 27 = .ok (.aload_n 0, 1) := by decide +kernel
theorem d_Mo_restore_28 : decode prog_13_method_58_code 28 = .ok (.getfield 34, 3) := by decide +kernel
theorem d_Mo_restore_31 : decode prog_13_method_58_code 31 = .ok (.aload_n 0, 1) := by decide +kernel
theorem d_Mo_restore_32 : decode prog_13_method_58_code 32 = .ok (.getfield 13, 3) := by decide +kernel
theorem d_Mo_restore_35 : decode prog_13_method_58_code 35 = .ok (.bipush 48, 2) := by decide +kernel
theorem d_Mo_restore_37 : decode prog_13_method_58_code 37 = .ok (.invokestatic 272, 3) := by decide +kernel
theorem d_Mo_restore_40 : decode prog_13_method_58_code 40 = .ok (.aload_n 0, 1) := by decide +kernel
theorem d_Mo_restore_41 : decode prog_13_method_58_code 41 = .ok (.getfield 37, 3) := by decide +kernel
theorem d_Mo_restore_44 : decode prog_13_method_58_code 44 = .ok (.aload_n 0, 1) := by decide +kernel
theorem d_Mo_restore_45 : decode prog_13_method_58_code 45 = .ok (.getfield 16, 3) := by decide +kernel
theorem d_Mo_restore_48 : decode prog_13_method_58_code 48 = .ok (.bipush 11, 2) := by decide +kernel
theorem d_Mo_restore_50 : decode prog_13_method_58_code 50 = .ok (.invokestatic 272, 3) := by decide +kernel
theorem d_Mo_restore_53 : decode prog_13_method_58_code 53 = .ok (.aload_n 0, 1) := by decide +kernel
theorem d_Mo_restore_54 : decode prog_13_method_58_code 54 = .ok (.getfield 40, 3) := by decide +kernel
theorem d_Mo_restore_57 : decode prog_13_method_58_code 57 = .ok (.aload_n 0, 1) := by decide +kernel
theorem d_Mo_restore_58 : decode prog_13_method_58_code 58 = .ok (.getfield 19, 3) := by decide +kernel
theorem d_Mo_restore_61 : decode prog_13_method_58_code 61 = .ok (.bipush 11, 2) := by decide +kernel
theorem d_Mo_restore_63 : decode prog_13_method_58_code 63 = .ok (.invokestatic 272, 3) := by decide +kernel
theorem d_Mo_restore_66 : decode prog_13_method_58_code 66 = .ok (.aload_n 0, 1) := by decide +kernel
theorem d_Mo_restore_67 : decode prog_13_method_58_code 67 = .ok (.getfield 43, 3) := by decide +kernel
theorem d_Mo_restore_70 : decode prog_13_method_58_code 70 = .ok (.aload_n 0, 1) := by decide +kernel
theorem d_Mo_restore_71 : decode prog_13_method_58_code 71 = .ok (.getfield 22, 3) := by decide +kernel
theorem d_Mo_restore_74 : decode prog_13_method_58_code 74 = .ok (.bipush 11, 2) := by decide +kernel
theorem d_Mo_restore_76 : decode prog_13_method_58_code 76 = .ok (.invokestatic 272, 3) := by decide +kernel
theorem d_Mo_restore_79 : decode prog_13_method_58_code 79 = .ok (.aload_n 0, 1) := by decide +kernel
theorem d_Mo_restore_80 : decode prog_13_method_58_code 80 = .ok (.getfield 46, 3) := by decide +kernel
theorem d_Mo_restore_83 : decode prog_13_method_58_code 83 = .ok (.aload_n 0, 1) := by decide +kernel
theorem d_Mo_restore_84 : decode prog_13_method_58_code 84 = .ok (.getfield 25, 3) := by decide +kernel
theorem d_Mo_restore_87 : decode prog_13_method_58_code 87 = .ok (.bipush 11, 2) := by decide +kernel
theorem d_Mo_restore_89 : decode prog_13_method_58_code 89 = .ok (.invokestatic 272, 3) := by decide +kernel
theorem d_Mo_restore_92 : decode prog_13_method_58_code 92 = .ok (.aload_n 0, 1) := by decide +kernel
theorem d_Mo_restore_93 : decode prog_13_method_58_code 93 = .ok (.getfield 49, 3) := by decide +kernel
theorem d_Mo_restore_96 : decode prog_13_method_58_code 96 = .ok (.aload_n 0, 1) := by decide +kernel
theorem d_Mo_restore_97 : decode prog_13_method_58_code 97 = .ok (.getfield 28, 3) := by decide +kernel
theorem d_Mo_restore_100 : decode prog_13_method_58_code 100 = .ok (.sipush 165, 3) := by decide +kernel
theorem d_Mo_restore_103 : decode prog_13_method_58_code 103 = .ok (.invokestatic 272, 3) := by decide +kernel
theorem d_Mo_restore_106 : decode prog_13_method_58_code 106 = .ok (.aload_n 0, 1) := by decide +kernel
theorem d_Mo_restore_107 : decode prog_13_method_58_code 107 = .ok (.aload_n 0, 1) := by decide +kernel
theorem d_Mo_restore_108 : decode prog_13_method_58_code 108 = .ok (.getfield 276, 3) := by decide +kernel
theorem d_Mo_restore_111 : decode prog_13_method_58_code 111 = .ok (.putfield 94, 3) := by decide +kernel
theorem d_Mo_restore_114 : decode prog_13_method_58_code 114 = .ok (.aload_n 0, 1) := by decide +kernel
theorem d_Mo_restore_115 : decode prog_13_method_58_code 115 = .ok (.aload_n 0, 1) := by decide +kernel
theorem d_Mo_restore_116 : decode prog_13_method_58_code 116 = .ok (.getfield 279, 3) := by decide +kernel
theorem d_Mo_restore_119 : decode prog_13_method_58_code 119 = .ok (.putfield 97, 3) := by decide +kernel
theorem d_Mo_restore_122 : decode prog_13_method_58_code 122 = .ok (.aload_n 0, 1) := by decide +kernel
theorem d_Mo_restore_123 : decode prog_13_method_58_code 123 = .ok (.aload_n 0, 1) := by decide +kernel
theorem d_Mo_restore_124 : decode prog_13_method_58_code 124 = .ok (.getfield 282, 3) := by decide +kernel
theorem d_Mo_restore_127 : decode prog_13_method_58_code 127 = .ok (.putfield 210, 3) := by decide +kernel
theorem d_Mo_restore_130 : decode prog_13_method_58_code 130 = .ok (.aload_n 0, 1) := by decide +kernel
theorem d_Mo_restore_131 : decode prog_13_method_58_code 131 = .ok (.aload_n 0, 1) := by decide +kernel
theorem d_Mo_restore_132 : decode prog_13_method_58_code 132 = .ok (.getfield 285, 3) := by decide +kernel
theorem d_Mo_restore_135 : decode prog_13_method_58_code 135 = .ok (.putfield 203, 3) := by decide +kernel
theorem d_Mo_restore_138 : decode prog_13_method_58_code 138 = .ok (.aload_n 0, 1) := by decide +kernel
theorem d_Mo_restore_139 : decode prog_13_method_58_code 139 = .ok (.aload_n 0, 1) := by decide +kernel
theorem d_Mo_restore_140 : decode prog_13_method_58_code 140 = .ok (.getfield 288, 3) := by decide +kernel
theorem d_Mo_restore_143 : decode prog_13_method_58_code 143 = .ok (.putfield 207, 3) := by decide +kernel
theorem d_Mo_restore_146 : decode prog_13_method_58_code 146 = .ok (.aload_n 0, 1) := by decide +kernel
theorem d_Mo_restore_147 : decode prog_13_method_58_code 147 = .ok (.aload_n 0, 1) := by decide +kernel
theorem d_Mo_restore_148 : decode prog_13_method_58_code 148 = .ok (.getfield 210, 3) := by decide +kernel
theorem d_Mo_restore_151 : decode prog_13_method_58_code 151 = .ok (.putfield 175, 3) := by decide +kernel
theorem d_Mo_restore_154 : decode prog_13_method_58_code 154 = .ok (.aload_n 0, 1) := by decide +kernel
theorem d_Mo_restore_155 : decode prog_13_method_58_code 155 = .ok (.iconst 1, 1) := by decide +kernel
theorem d_Mo_restore_156 : decode prog_13_method_58_code 156 = .ok (.invokevirtual 222, 3) := by decide +kernel
theorem d_Mo_restore_159 : decode prog_13_method_58_code 159 = .ok (.return_, 1) := by decide +kernel
theorem d_Mo_branch_0 : decode prog_13_method_45_code 0 = .ok (.aload_n 0, 1) := by decide +kernel
theorem d_Mo_branch_1 : decode prog_13_method_45_code 1 = .ok (.getfield 77, 3) := by decide +kernel
theorem d_Mo_branch_4 : decode prog_13_method_45_code 4 = .ok (.ifCond .gt 11, 3) := by decide +kernel
theorem d_Mo_branch_7 : decode prog_13_method_45_code 7 = .ok (.iload_n 1, 1) := by decide +kernel
theorem d_Mo_branch_8 : decode prog_13_method_45_code 8 = .ok (.aload_n 0, 1) := by decide +kernel
theorem d_Mo_branch_9 : decode prog_13_method_45_code 9 = .ok (.getfield 203, 3) := by decide +kernel
theorem d_Mo_branch_12 : decode prog_13_method_45_code 12 = .ok (.if_icmp .eq 4, 3) := by decide +kernel
theorem d_Mo_branch_15 : decode prog_13_method_45_code 15 = .ok (.return_, 1) := by decide +kernel
theorem d_Mo_branch_16 : decode prog_13_method_45_code 16 = .ok (.aload_n 0, 1) := by decide +kernel
theorem d_Mo_branch_17 : decode prog_13_method_45_code 17 = .ok (.getfield 207, 3) := by decide +kernel
theorem d_Mo_branch_20 : decode prog_13_method_45_code 20 = .ok (.ifCond .eq 11, 3) := by decide +kernel
theorem d_Mo_branch_23 : decode prog_13_method_45_code 23 = .ok (.aload_n 0, 1) := by decide +kernel
theorem d_Mo_branch_24 : decode prog_13_method_45_code 24 = .ok (.getfield 207, 3) := by decide +kernel
theorem d_Mo_branch_27 : decode prog_13_method_45_code 27 = .ok (.iconst 1, 1) := by decide +kernel
theorem d_Mo_branch_28 : decode prog_13_method_45_code 28 = .ok (.if_icmp .ne 14, 3) := by decide +kernel
theorem d_Mo_branch_31 : decode prog_13_method_45_code 31 = .ok (.aload_n 0, 1) := by decide +kernel
theorem d_Mo_branch_32 : decode prog_13_method_45_code 32 = .ok (.aload_n 0, 1) := by decide +kernel
theorem d_Mo_branch_33 : decode prog_13_method_45_code 33 = .ok (.getfield 207, 3) := by decide +kernel
theorem d_Mo_branch_36 : decode prog_13_method_45_code 36 = .ok (.invokevirtual 213, 3) := by decide +kernel
theorem d_Mo_branch_39 : decode prog_13_method_45_code 39 = .ok (.goto 18, 3) := by decide +kernel
theorem d_Mo_branch_42 : decode prog_13_method_45_code 42 = .ok (.aload_n 0, 1) := by decide +kernel
theorem d_Mo_branch_43 : decode prog_13_method_45_code 43 = .ok (.aload_n 0, 1) := by decide +kernel
theorem d_Mo_branch_44 : decode prog_13_method_45_code 44 = .ok (.getfield 210, 3) := by decide +kernel
theorem d_Mo_branch_47 : decode prog_13_method_45_code 47 = .ok (.aload_n 0, 1) := by decide +kernel
theorem d_Mo_branch_48 : decode prog_13_method_45_code 48 = .ok (.getfield 207, 3) := by decide +kernel
theorem d_Mo_branch_51 : decode prog_13_method_45_code 51 = .ok (.iadd, 1) := by decide +kernel
theorem d_Mo_branch_52 : decode prog_13_method_45_code 52 = .ok (.iconst 2, 1) := by decide +kernel
theorem d_Mo_branch_53 : decode prog_13_method_45_code 53 = .ok (.isub, 1) := by decide +kernel
theorem d_Mo_branch_54 : decode prog_13_method_45_code 54 = .ok (.putfield 175, 3) := by decide +kernel
theorem d_Mo_branch_57 : decode prog_13_method_45_code 57 = .ok (.return_, 1) := by decide +kernel
theorem d_Mo_save_0 : decode prog_13_method_57_code 0 = .ok (.aload_n 0, 1) := by decide +kernel
theorem d_Mo_save_1 : decode prog_13_method_57_code 1 = .ok (.iconst 1, 1) := by decide +kernel
theorem d_Mo_save_2 : decode prog_13_method_57_code 2 = .ok (.putfield 269, 3) := by decide +kernel
theorem d_Mo_save_5 : decode prog_13_method_57_code 5 = .ok (.aload_n 0, 1) := by decide +kernel
theorem d_Mo_save_6 : decode prog_13_method_57_code 6 = .ok (.getfield 7, 3) := by decide +kernel
theorem d_Mo_save_9 : decode prog_13_method_57_code 9 = .ok (.aload_n 0, 1) := by decide +kernel
theorem d_Mo_save_10 : decode prog_13_method_57_code 10 = .ok (.getfield 31, 3) := by decide +kernel
theorem d_Mo_save_13 : decode prog_13_method_57_code 13 = .ok (.sipush 512, 3) := by decide +kernel
theorem d_Mo_save_16 : decode prog_13_method_57_code 16 = .ok (.invokestatic 272, 3) := by decide +kernel
theorem d_Mo_save_19 : decode prog_13_method_57_code 19 = .ok (.aload_n 0, 1) := by decide +kernel
theorem d_Mo_save_20 : decode prog_13_method_57_code 20 = .ok (.getfield 13, 3) := by decide +kernel
theorem d_Mo_save_23 : decode prog_13_method_57_code 23 = .ok (.aload_n 0, 1) := by decide +kernel
theorem d_Mo_save_24 : decode prog_13_method_57_code 24 = .ok (.getfield 34, 3) := by decide +kernel
theorem d_Mo_save_27 : decode prog_13_method_57_code 27 = .ok (.bipush 48, 2) := by decide +kernel
theorem d_Mo_save_29 : decode prog_13_method_57_code 29 = .ok (.invokestatic 272, 3) := by decide +kernel
theorem d_Mo_save_32 : decode prog_13_method_57_code 32 = .ok (.aload_n 0, 1) := by decide +kernel
theorem d_Mo_save_33 : decode prog_13_method_57_code 33 = .ok (.getfield 16, 3) := by decide +kernel
theorem d_Mo_save_36 : decode prog_13_method_57_code 36 = .ok (.aload_n 0, 1) := by decide +kernel
theorem d_Mo_save_37 : decode prog_13_method_57_code 37 = .ok (.getfield 37, 3) := by decide +kernel
theorem d_Mo_save_40 : decode prog_13_method_57_code 40 = .ok (.bipush 11, 2) := by decide +kernel
theorem d_Mo_save_42 : decode prog_13_method_57_code 42 = .ok (.invokestatic 272, 3) := by decide +kernel
theorem d_Mo_save_45 : decode prog_13_method_57_code 45 = .ok (.aload_n 0, 1) := by decide +kernel
theorem d_Mo_save_46 : decode prog_13_method_57_code 46 = .ok (.getfield 19, 3) := by decide +kernel
theorem d_Mo_save_49 : decode prog_13_method_57_code 49 = .ok (.aload_n 0, 1) := by decide +kernel
theorem d_Mo_save_50 : decode prog_13_method_57_code 50 = .ok (.getfield 40, 3) := by decide +kernel
theorem d_Mo_save_53 : decode prog_13_method_57_code 53 = .ok (.bipush 11, 2) := by decide +kernel
theorem d_Mo_save_55 : decode prog_13_method_57_code 55 = .ok (.invokestatic 272, 3) := by decide +kernel
theorem d_Mo_save_58 : decode prog_13_method_57_code 58 = .ok (.aload_n 0, 1) := by decide +kernel
theorem d_Mo_save_59 : decode prog_13_method_57_code 59 = .ok (.getfield 22, 3) := by decide +kernel
theorem d_Mo_save_62 : decode prog_13_method_57_code 62 = .ok (.aload_n 0, 1) := by decide +kernel
theorem d_Mo_save_63 : decode prog_13_method_57_code 63 = .ok (.getfield 43, 3) := by decide +kernel
theorem d_Mo_save_66 : decode prog_13_method_57_code 66 = .ok (.bipush 11, 2) := by decide +kernel
theorem d_Mo_save_68 : decode prog_13_method_57_code 68 = .ok (.invokestatic 272, 3) := by decide +kernel
theorem d_Mo_save_71 : decode prog_13_method_57_code 71 = .ok (.aload_n 0, 1) := by decide +kernel
theorem d_Mo_save_72 : decode prog_13_method_57_code 72 = .ok (.getfield 25, 3) := by decide +kernel
theorem d_Mo_save_75 : decode prog_13_method_57_code 75 = .ok (.aload_n 0, 1) := by decide +kernel
theorem d_Mo_save_76 : decode prog_13_method_57_code 76 = .ok (.getfield 46, 3) := by decide +kernel
theorem d_Mo_save_79 : decode prog_13_method_57_code 79 = .ok (.bipush 11, 2) := by decide +kernel
theorem d_Mo_save_81 : decode prog_13_method_57_code 81 = .ok (.invokestatic 272, 3) := by decide +kernel
theorem d_Mo_save_84 : decode prog_13_method_57_code 84 = .ok (.aload_n 0, 1) := by decide +kernel
theorem d_Mo_save_85 : decode prog_13_method_57_code 85 = .ok (.getfield 28, 3) := by decide +kernel
theorem d_Mo_save_88 : decode prog_13_method_57_code 88 = .ok (.aload_n 0, 1) := by decide +kernel
theorem d_Mo_save_89 : decode prog_13_method_57_code 89 = .ok (.getfield 49, 3) := by decide +kernel
theorem d_Mo_save_92 : decode prog_13_method_57_code 92 = .ok (.sipush 165, 3) := by decide +kernel
theorem d_Mo_save_95 : decode prog_13_method_57_code 95 = .ok (.invokestatic 272, 3) := by decide +kernel
theorem d_Mo_save_98 : decode prog_13_method_57_code 98 = .ok (.aload_n 0, 1) := by decide +kernel
theorem d_Mo_save_99 : decode prog_13_method_57_code 99 = .ok (.aload_n 0, 1) := by decide +kernel
theorem d_Mo_save_100 : decode prog_13_method_57_code 100 = .ok (.getfield 94, 3) := by decide +kernel
theorem d_Mo_save_103 : decode prog_13_method_57_code 103 = .ok (.putfield 276, 3) := by decide +kernel
theorem d_Mo_save_106 : decode prog_13_method_57_code 106 = .ok (.aload_n 0, 1) := by decide +kernel
theorem d_Mo_save_107 : decode prog_13_method_57_code 107 = .ok (.aload_n 0, 1) := by decide +kernel
theorem d_Mo_save_108 : decode prog_13_method_57_code 108 = .ok (.getfield 97, 3) := by decide +kernel
theorem d_Mo_save_111 : decode prog_13_method_57_code 111 = .ok (.putfield 279, 3) := by decide +kernel
theorem d_Mo_save_114 : decode prog_13_method_57_code 114 = .ok (.aload_n 0, 1) := by decide +kernel
theorem d_Mo_save_115 : decode prog_13_method_57_code 115 = .ok (.aload_n 0, 1) := by decide +kernel
theorem d_Mo_save_116 : decode prog_13_method_57_code 116 = .ok (.getfield 210, 3) := by decide +kernel
theorem d_Mo_save_119 : decode prog_13_method_57_code 119 = .ok (.putfield 282, 3) := by decide +kernel
theorem d_Mo_save_122 : decode prog_13_method_57_code 122 = .ok (.aload_n 0, 1) := by decide +kernel
theorem d_Mo_save_123 : decode prog_13_method_57_code 123 = .ok (.aload_n 0, 1) := by decide +kernel
theorem d_Mo_save_124 : decode prog_13_method_57_code 124 = .ok (.getfield 203, 3) := by decide +kernel
theorem d_Mo_save_127 : decode prog_13_method_57_code 127 = .ok (.putfield 285, 3) := by decide +kernel
theorem d_Mo_save_130 : decode prog_13_method_57_code 130 = .ok (.aload_n 0, 1) := by decide +kernel
theorem d_Mo_save_131 : decode prog_13_method_57_code 131 = .ok (.aload_n 0, 1) := by decide +kernel
theorem d_Mo_save_132 : decode prog_13_method_57_code 132 = .ok (.getfield 207, 3) := by decide +kernel
theorem d_Mo_save_135 : decode prog_13_method_57_code 135 = .ok (.putfield 288, 3) := by decide +kernel
theorem d_Mo_save_138 : decode prog_13_method_57_code 138 = .ok (.aload_n 0, 1) := by decide +kernel
theorem d_Mo_save_139 : decode prog_13_method_57_code 139 = .ok (.iconst 1, 1) := by decide +kernel
theorem d_Mo_save_140 : decode prog_13_method_57_code 140 = .ok (.invokevirtual 222, 3) := by decide +kernel
theorem d_Mo_save_143 : decode prog_13_method_57_code 143 = .ok (.return_, 1) := by decide +kernel
theorem d_Mo_showText_0 : decode prog_13_method_20_code 0 = .ok (.aload_n 0, 1) := by decide +kernel
theorem d_Mo_showText_1 : decode prog_13_method_20_code 1 = .ok (.iconst 0, 1) := by decide +kernel
theorem d_Mo_showText_2 : decode prog_13_method_20_code 2 = .ok (.putfield 132, 3) := by decide +kernel
theorem d_Mo_showText_5 : decode prog_13_method_20_code 5 = .ok (.aload_n 0, 1) := by decide +kernel
theorem d_Mo_showText_6 : decode prog_13_method_20_code 6 = .ok (.iconst 0, 1) := by decide +kernel
theorem d_Mo_showText_7 : decode prog_13_method_20_code 7 = .ok (.putfield 126, 3) := by decide +kernel
theorem d_Mo_showText_10 : decode prog_13_method_20_code 10 = .ok (.iload_n 1, 1) := by decide +kernel
theorem d_Mo_showText_11 : decode prog_13_method_20_code 11 = .ok (.istore_n 2, 1) := by decide +kernel
theorem d_Mo_showText_12 : decode prog_13_method_20_code 12 = .ok (.iconst 1, 1) := by decide +kernel
theorem d_Mo_showText_13 : decode prog_13_method_20_code 13 = .ok (.istore_n 3, 1) := by decide +kernel
theorem d_Mo_showText_14 : decode prog_13_method_20_code 14 = .ok (.iload_n 3, 1) := by decide +kernel
theorem d_Mo_showText_15 : decode prog_13_method_20_code 15 = .ok (.ifCond .eq 78, 3) := by decide +kernel
theorem d_Mo_showText_18 : decode prog_13_method_20_code 18 = .ok (.aload_n 0, 1) := by decide +kernel
theorem d_Mo_showText_19 : decode prog_13_method_20_code 19 = .ok (.getfield 77, 3) := by decide +kernel
theorem d_Mo_showText_22 : decode prog_13_method_20_code 22 = .ok (.ifCond .ne 71, 3) := by decide +kernel
theorem d_Mo_showText_25 : decode prog_13_method_20_code 25 = .ok (.aload_n 0, 1) := by decide +kernel
theorem d_Mo_showText_26 : decode prog_13_method_20_code 26 = .ok (.iload_n 2, 1) := by decide +kernel
theorem d_Mo_showText_27 : decode prog_13_method_20_code 27 = .ok (.invokevirtual 100, 3) := by decide +kernel
theorem d_Mo_showText_30 : decode prog_13_method_20_code 30 = .ok (.istore 4, 2) := by decide +kernel
theorem d_Mo_showText_32 : decode prog_13_method_20_code 32 = .ok (.iload_n 2, 1) := by decide +kernel
theorem d_Mo_showText_33 : decode prog_13_method_20_code 33 = .ok (.iconst 2, 1) := by decide +kernel
theorem d_Mo_showText_34 : decode prog_13_method_20_code 34 = .ok (.iadd, 1) := by decide +kernel
theorem d_Mo_showText_35 : decode prog_13_method_20_code 35 = .ok (.istore_n 2, 1) := by decide +kernel
theorem d_Mo_showText_36 : decode prog_13_method_20_code 36 = .ok (.iload 4, 2) := by decide +kernel
theorem d_Mo_showText_38 : decode prog_13_method_20_code 38 = .ok (.ldc 138, 2) := by decide +kernel
theorem d_Mo_showText_40 : decode prog_13_method_20_code 40 = .ok (.if_icmp .ge 7, 3) := by decide +kernel
theorem d_Mo_showText_43 : decode prog_13_method_20_code 43 = .ok (.iconst 1, 1) := by decide +kernel
theorem d_Mo_showText_44 : decode prog_13_method_20_code 44 = .ok (.goto 4, 3) := by decide +kernel
theorem d_Mo_showText_47 : decode prog_13_method_20_code 47 = .ok (.iconst 0, 1) := by decide +kernel
theorem d_Mo_showText_48 : decode prog_13_method_20_code 48 = .ok (.istore_n 3, 1) := by decide +kernel
theorem d_Mo_showText_49 : decode prog_13_method_20_code 49 = .ok (.aload_n 0, 1) := by decide +kernel
theorem d_Mo_showText_50 : decode prog_13_method_20_code 50 = .ok (.getfield 77, 3) := by decide +kernel
theorem d_Mo_showText_53 : decode prog_13_method_20_code 53 = .ok (.ifCond .ne 37, 3) := by decide +kernel
theorem d_Mo_showText_56 : decode prog_13_method_20_code 56 = .ok (.aload_n 0, 1) := by decide +kernel
theorem d_Mo_showText_57 : decode prog_13_method_20_code 57 = .ok (.iload 4, 2) := by decide +kernel
theorem d_Mo_showText_59 : decode prog_13_method_20_code 59 = .ok (.sipush 1024, 3) := by decide +kernel
theorem d_Mo_showText_62 : decode prog_13_method_20_code 62 = .ok (.idiv, 1) := by decide +kernel
theorem d_Mo_showText_63 : decode prog_13_method_20_code 63 = .ok (.bipush 32, 2) := by decide +kernel
theorem d_Mo_showText_65 : decode prog_13_method_20_code 65 = .ok (.irem, 1) := by decide +kernel
theorem d_Mo_showText_66 : decode prog_13_method_20_code 66 = .ok (.invokevirtual 139, 3) := by decide +kernel
theorem d_Mo_showText_69 : decode prog_13_method_20_code 69 = .ok (.aload_n 0, 1) := by decide +kernel
theorem d_Mo_showText_70 : decode prog_13_method_20_code 70 = .ok (.iload 4, 2) := by decide +kernel
theorem d_Mo_showText_72 : decode prog_13_method_20_code 72 = .ok (.bipush 32, 2) := by decide +kernel
theorem d_Mo_showText_74 : decode prog_13_method_20_code 74 = .ok (.idiv, 1) := by decide +kernel
theorem d_Mo_showText_75 : decode prog_13_method_20_code 75 = .ok (.bipush 32, 2) := by decide +kernel
theorem d_Mo_showText_77 : decode prog_13_method_20_code 77 = .ok (.irem, 1) := by decide +kernel
theorem d_Mo_showText_78 : decode prog_13_method_20_code 78 = .ok (.invokevirtual 139, 3) := by decide +kernel
theorem d_Mo_showText_81 : decode prog_13_method_20_code 81 = .ok (.aload_n 0, 1) := by decide +kernel
theorem d_Mo_showText_82 : decode prog_13_method_20_code 82 = .ok (.iload 4, 2) := by decide +kernel
theorem d_Mo_showText_84 : decode prog_13_method_20_code 84 = .ok (.bipush 32, 2) := by decide +kernel
theorem d_Mo_showText_86 : decode prog_13_method_20_code 86 = .ok (.irem, 1) := by decide +kernel
theorem d_Mo_showText_87 : decode prog_13_method_20_code 87 = .ok (.invokevirtual 139, 3) := by decide +kernel
theorem d_Mo_showText_90 : decode prog_13_method_20_code 90 = .ok (.goto (-76), 3) := by decide +kernel
theorem d_Mo_showText_93 : decode prog_13_method_20_code 93 = .ok (.iload_n 2, 1) := by decide +kernel
theorem d_Mo_showText_94 : decode prog_13_method_20_code 94 = .ok (.ireturn, 1) := by decide +kernel
theorem d_Mo_letter_0 : decode prog_13_method_19_code 0 = .ok (.aload_n 0, 1) := by decide +kernel
theorem d_Mo_letter_1 : decode prog_13_method_19_code 1 = .ok (.getfield 126, 3) := by decide +kernel
theorem d_Mo_letter_4 : decode prog_13_method_19_code 4 = .ok (.iconst 2, 1) := by decide +kernel
theorem d_Mo_letter_5 : decode prog_13_method_19_code 5 = .ok (.if_icmp .ne 14, 3) := by decide +kernel
theorem d_Mo_letter_8 : decode prog_13_method_19_code 8 = .ok (.aload_n 0, 1) := by decide +kernel
theorem d_Mo_letter_9 : decode prog_13_method_19_code 9 = .ok (.iload_n 1, 1) := by decide +kernel
theorem d_Mo_letter_10 : decode prog_13_method_19_code 10 = .ok (.putfield 129, 3) := by decide +kernel
theorem d_Mo_letter_13 : decode prog_13_method_19_code 13 = .ok (.aload_n 0, 1) := by decide +kernel
theorem d_Mo_letter_14 : decode prog_13_method_19_code 14 = .ok (.iconst 1, 1) := by decide +kernel
theorem d_Mo_letter_15 : decode prog_13_method_19_code 15 = .ok (.putfield 126, 3) := by decide +kernel
theorem d_Mo_letter_18 : decode prog_13_method_19_code 18 = .ok (.return_, 1) := by decide +kernel
theorem d_Mo_letter_19 : decode prog_13_method_19_code 19 = .ok (.aload_n 0, 1) := by decide +kernel
theorem d_Mo_letter_20 : decode prog_13_method_19_code 20 = .ok (.getfield 126, 3) := by decide +kernel
theorem d_Mo_letter_23 : decode prog_13_method_19_code 23 = .ok (.iconst 1, 1) := by decide +kernel
theorem d_Mo_letter_24 : decode prog_13_method_19_code 24 = .ok (.if_icmp .ne 26, 3) := by decide +kernel
theorem d_Mo_letter_27 : decode prog_13_method_19_code 27 = .ok (.aload_n 0, 1) := by decide +kernel
theorem d_Mo_letter_28 : decode prog_13_method_19_code 28 = .ok (.iconst 0, 1) := by decide +kernel
theorem d_Mo_letter_29 : decode prog_13_method_19_code 29 = .ok (.putfield 126, 3) := by decide +kernel
theorem d_Mo_letter_32 : decode prog_13_method_19_code 32 = .ok (.aload_n 0, 1) := by decide +kernel
theorem d_Mo_letter_33 : decode prog_13_method_19_code 33 = .ok (.bipush 32, 2) := by decide +kernel
theorem d_Mo_letter_35 : decode prog_13_method_19_code 35 = .ok (.aload_n 0, 1) := by decide +kernel
theorem d_Mo_letter_36 : decode prog_13_method_19_code 36 = .ok (.getfield 129, 3) := by decide +kernel
theorem d_Mo_letter_39 : decode prog_13_method_19_code 39 = .ok (.imul, 1) := by decide +kernel
theorem d_Mo_letter_40 : decode prog_13_method_19_code 40 = .ok (.iload_n 1, 1) := by decide +kernel
theorem d_Mo_letter_41 : decode prog_13_method_19_code 41 = .ok (.iadd, 1) := by decide +kernel
theorem d_Mo_letter_42 : decode prog_13_method_19_code 42 = .ok (.sipush 256, 3) := by decide +kernel
theorem d_Mo_letter_45 : decode prog_13_method_19_code 45 = .ok (.irem, 1) := by decide +kernel
theorem d_Mo_letter_46 : decode prog_13_method_19_code 46 = .ok (.invokevirtual 123, 3) := by decide +kernel
theorem d_Mo_letter_49 : decode prog_13_method_19_code 49 = .ok (.return_, 1) := by decide +kernel
theorem d_Mo_letter_50 : decode prog_13_method_19_code 50 = .ok (.aload_n 0, 1) := by decide +kernel
theorem d_Mo_letter_51 : decode prog_13_method_19_code 51 = .ok (.getfield 132, 3) := by decide +kernel
theorem d_Mo_letter_54 : decode prog_13_method_19_code 54 = .ok (.istore_n 2, 1) := by decide +kernel
theorem d_Mo_letter_55 : decode prog_13_method_19_code 55 = .ok (.aload_n 0, 1) := by decide +kernel
theorem d_Mo_letter_56 : decode prog_13_method_19_code 56 = .ok (.iload_n 1, 1) := by decide +kernel
theorem d_Mo_letter_57 : decode prog_13_method_19_code 57 = .ok (.iconst 4, 1) := by decide +kernel
theorem d_Mo_letter_58 : decode prog_13_method_19_code 58 = .ok (.if_icmp .eq 8, 3) := by decide +kernel
theorem d_Mo_letter_61 : decode prog_13_method_19_code 61 = .ok (.iload_n 1, 1) := by decide +kernel
theorem d_Mo_letter_62 : decode prog_13_method_19_code 62 = .ok (.iconst 5, 1) := by decide +kernel
theorem d_Mo_letter_63 : decode prog_13_method_19_code 63 = .ok (.if_icmp .ne 9, 3) := by decide +kernel
theorem d_Mo_letter_66 : decode prog_13_method_19_code 66 = .ok (.iload_n 1, 1) := by decide +kernel
theorem d_Mo_letter_67 : decode prog_13_method_19_code 67 = .ok (.iconst 3, 1) := by decide +kernel
theorem d_Mo_letter_68 : decode prog_13_method_19_code 68 = .ok (.isub, 1) := by decide +kernel
theorem d_Mo_letter_69 : decode prog_13_method_19_code 69 = .ok (.goto 4, 3) := by decide +kernel
theorem d_Mo_letter_72 : decode prog_13_method_19_code 72 = .ok (.iconst 0, 1) := by decide +kernel
theorem d_Mo_letter_73 : decode prog_13_method_19_code 73 = .ok (.putfield 132, 3) := by decide +kernel
theorem d_Mo_letter_76 : decode prog_13_method_19_code 76 = .ok (.iload_n 1, 1) := by decide +kernel
theorem d_Mo_letter_77 : decode prog_13_method_19_code 77 = .ok (.ifCond .ne 9, 3) := by decide +kernel
theorem d_Mo_letter_80 : decode prog_13_method_19_code 80 = .ok (.aload_n 0, 1) := by decide +kernel
theorem d_Mo_letter_81 : decode prog_13_method_19_code 81 = .ok (.bipush 32, 2) := by decide +kernel
theorem d_Mo_letter_83 : decode prog_13_method_19_code 83 = .ok (.invokevirtual 123, 3) := by decide +kernel
theorem d_Mo_letter_86 : decode prog_13_method_19_code 86 = .ok (.iload_n 1, 1) := by decide +kernel
theorem d_Mo_letter_87 : decode prog_13_method_19_code 87 = .ok (.bipush 6, 2) := by decide +kernel
theorem d_Mo_letter_89 : decode prog_13_method_19_code 89 = .ok (.if_icmp .ge 4, 3) := by decide +kernel
theorem d_Mo_letter_92 : decode prog_13_method_19_code 92 = .ok (.return_, 1) := by decide +kernel
theorem d_Mo_letter_93 : decode prog_13_method_19_code 93 = .ok (.iload_n 2, 1) := by decide +kernel
theorem d_Mo_letter_94 : decode prog_13_method_19_code 94 = .ok (.ifCond .ne 14, 3) := by decide +kernel
theorem d_Mo_letter_97 : decode prog_13_method_19_code 97 = .ok (.aload_n 0, 1) := by decide +kernel
theorem d_Mo_letter_98 : decode prog_13_method_19_code 98 = .ok (.bipush 91, 2) := by decide +kernel
theorem d_Mo_letter_100 : decode prog_13_method_19_code 100 = .ok (.iload_n 1, 1) := by decide +kernel
theorem d_Mo_letter_101 : decode prog_13_method_19_code 101 = .ok (.iadd, 1) := by decide +kernel
theorem d_Mo_letter_102 : decode prog_13_method_19_code 102 = .ok (.invokevirtual 123, 3) := by decide +kernel
theorem d_Mo_letter_105 : decode prog_13_method_19_code 105 = .ok (.goto 55, 3) := by decide +kernel
theorem d_Mo_letter_108 : decode prog_13_method_19_code 108 = .ok (.iload_n 2, 1) := by decide +kernel
theorem d_Mo_letter_109 : decode prog_13_method_19_code 109 = .ok (.iconst 1, 1) := by decide +kernel
theorem d_Mo_letter_110 : decode prog_13_method_19_code 110 = .ok (.if_icmp .ne 14, 3) := by decide +kernel
theorem d_Mo_letter_113 : decode prog_13_method_19_code 113 = .ok (.aload_n 0, 1) := by decide +kernel
theorem d_Mo_letter_114 : decode prog_13_method_19_code 114 = .ok (.bipush 59, 2) := by decide +kernel
theorem d_Mo_letter_116 : decode prog_13_method_19_code 116 = .ok (.iload_n 1, 1) := by decide +kernel
theorem d_Mo_letter_117 : decode prog_13_method_19_code 117 = .ok (.iadd, 1) := by decide +kernel
theorem d_Mo_letter_118 : decode prog_13_method_19_code 118 = .ok (.invokevirtual 123, 3) := by decide +kernel
theorem d_Mo_letter_121 : decode prog_13_method_19_code 121 = .ok (.goto 39, 3) := by decide +kernel
theorem d_Mo_letter_124 : decode prog_13_method_19_code 124 = .ok (.iload_n 1, 1) := by decide +kernel
theorem d_Mo_letter_125 : decode prog_13_method_19_code 125 = .ok (.bipush 6, 2) := by decide +kernel
theorem d_Mo_letter_127 : decode prog_13_method_19_code 127 = .ok (.if_icmp .ne 11, 3) := by decide +kernel
theorem d_Mo_letter_130 : decode prog_13_method_19_code 130 = .ok (.aload_n 0, 1) := by decide +kernel
theorem d_Mo_letter_131 : decode prog_13_method_19_code 131 = .ok (.iconst 2, 1) := by decide +kernel
theorem d_Mo_letter_132 : decode prog_13_method_19_code 132 = .ok (.putfield 126, 3) := by decide +kernel
theorem d_Mo_letter_135 : decode prog_13_method_19_code 135 = .ok (.goto 25, 3) := by decide +kernel
theorem d_Mo_letter_138 : decode prog_13_method_19_code 138 = .ok (.aload_n 0, 1) := by decide +kernel
theorem d_Mo_letter_139 : decode prog_13_method_19_code 139 = .ok (.iload_n 1, 1) := by decide +kernel
theorem d_Mo_letter_140 : decode prog_13_method_19_code 140 = .ok (.bipush 7, 2) := by decide +kernel
theorem d_Mo_letter_142 : decode prog_13_method_19_code 142 = .ok (.if_icmp .ne 8, 3) := by decide +kernel
theorem d_Mo_letter_145 : decode prog_13_method_19_code 145 = .ok (.bipush 13, 2) := by decide +kernel
theorem d_Mo_letter_147 : decode prog_13_method_19_code 147 = .ok (.goto 10, 3) := by decide +kernel
theorem d_Mo_letter_150 : decode prog_13_method_19_code 150 = .ok (.iload_n 1, 1) := by decide +kernel
theorem d_Mo_letter_151 : decode prog_13_method_19_code 151 = .ok (.bipush 8, 2) := by decide +kernel
theorem d_Mo_letter_153 : decode prog_13_method_19_code 153 = .ok (.isub, 1) := by decide +kernel
theorem d_Mo_letter_154 : decode prog_13_method_19_code 154 = .ok (.invokestatic 135, 3) := by decide +kernel
theorem d_Mo_letter_157 : decode prog_13_method_19_code 157 = .ok (.invokevirtual 123, 3) := by decide +kernel
theorem d_Mo_letter_160 : decode prog_13_method_19_code 160 = .ok (.return_, 1) := by decide +kernel
theorem d_Mo_first_0 : decode prog_13_method_50_code 0 = .ok (.iload_n 1, 1) := by decide +kernel
theorem d_Mo_first_1 : decode prog_13_method_50_code 1 = .ok (.ifCond .ne 19, 3) := by decide +kernel
theorem d_Mo_first_4 : decode prog_13_method_50_code 4 = .ok (.aload_n 0, 1) := by decide +kernel
theorem d_Mo_first_5 : decode prog_13_method_50_code 5 = .ok (.iload_n 2, 1) := by decide +kernel
theorem d_Mo_first_6 : decode prog_13_method_50_code 6 = .ok (.ifCond .ne 7, 3) := by decide +kernel
theorem d_Mo_first_9 : decode prog_13_method_50_code 9 = .ok (.iconst 1, 1) := by decide +kernel
theorem d_Mo_first_10 : decode prog_13_method_50_code 10 = .ok (.goto 4, 3) := by decide +kernel
theorem d_Mo_first_13 : decode prog_13_method_50_code 13 = .ok (.iconst 0, 1) := by decide +kernel
theorem d_Mo_first_14 : decode prog_13_method_50_code 14 = .ok (.invokevirtual 222, 3) := by decide +kernel
theorem d_Mo_first_17 : decode prog_13_method_50_code 17 = .ok (.goto 203, 3) := by decide +kernel
theorem d_Mo_first_20 : decode prog_13_method_50_code 20 = .ok (.iload_n 1, 1) := by decide +kernel
theorem d_Mo_first_21 : decode prog_13_method_50_code 21 = .ok (.iconst 3, 1) := by decide +kernel
theorem d_Mo_first_22 : decode prog_13_method_50_code 22 = .ok (.if_icmp .ge 18, 3) := by decide +kernel
theorem d_Mo_first_25 : decode prog_13_method_50_code 25 = .ok (.aload_n 0, 1) := by decide +kernel
theorem d_Mo_first_26 : decode prog_13_method_50_code 26 = .ok (.aload_n 0, 1) := by decide +kernel
theorem d_Mo_first_27 : decode prog_13_method_50_code 27 = .ok (.iload_n 2, 1) := by decide +kernel
theorem d_Mo_first_28 : decode prog_13_method_50_code 28 = .ok (.iload_n 1, 1) := by decide +kernel
theorem d_Mo_first_29 : decode prog_13_method_50_code 29 = .ok (.iconst 4, 1) := by decide +kernel
theorem d_Mo_first_30 : decode prog_13_method_50_code 30 = .ok (.iadd, 1) := by decide +kernel
theorem d_Mo_first_31 : decode prog_13_method_50_code 31 = .ok (.invokevirtual 152, 3) := by decide +kernel
theorem d_Mo_first_34 : decode prog_13_method_50_code 34 = .ok (.invokevirtual 245, 3) := by decide +kernel
theorem d_Mo_first_37 : decode prog_13_method_50_code 37 = .ok (.goto 183, 3) := by decide +kernel
theorem d_Mo_first_40 : decode prog_13_method_50_code 40 = .ok (.iload_n 1, 1) := by decide +kernel
theorem d_Mo_first_41 : decode prog_13_method_50_code 41 = .ok (.iconst 3, 1) := by decide +kernel
theorem d_Mo_first_42 : decode prog_13_method_50_code 42 = .ok (.if_icmp .ne 16, 3) := by decide +kernel
theorem d_Mo_first_45 : decode prog_13_method_50_code 45 = .ok (.aload_n 0, 1) := by decide +kernel
theorem d_Mo_first_46 : decode prog_13_method_50_code 46 = .ok (.aload_n 0, 1) := by decide +kernel
theorem d_Mo_first_47 : decode prog_13_method_50_code 47 = .ok (.iload_n 2, 1) := by decide +kernel
theorem d_Mo_first_48 : decode prog_13_method_50_code 48 = .ok (.iconst 4, 1) := by decide +kernel
theorem d_Mo_first_49 : decode prog_13_method_50_code 49 = .ok (.invokevirtual 152, 3) := by decide +kernel
theorem d_Mo_first_52 : decode prog_13_method_50_code 52 = .ok (.invokevirtual 248, 3) := by decide +kernel
theorem d_Mo_first_55 : decode prog_13_method_50_code 55 = .ok (.goto 165, 3) := by decide +kernel
theorem d_Mo_first_58 : decode prog_13_method_50_code 58 = .ok (.iload_n 1, 1) := by decide +kernel
theorem d_Mo_first_59 : decode prog_13_method_50_code 59 = .ok (.iconst 4, 1) := by decide +kernel
theorem d_Mo_first_60 : decode prog_13_method_50_code 60 = .ok (.if_icmp .ne 15, 3) := by decide +kernel
theorem d_Mo_first_63 : decode prog_13_method_50_code 63 = .ok (.aload_n 0, 1) := by decide +kernel
theorem d_Mo_first_64 : decode prog_13_method_50_code 64 = .ok (.aload_n 0, 1) := by decide +kernel
theorem d_Mo_first_65 : decode prog_13_method_50_code 65 = .ok (.iload_n 2, 1) := by decide +kernel
theorem d_Mo_first_66 : decode prog_13_method_50_code 66 = .ok (.invokevirtual 172, 3) := by decide +kernel
theorem d_Mo_first_69 : decode prog_13_method_50_code 69 = .ok (.invokevirtual 248, 3) := by decide +kernel
theorem d_Mo_first_72 : decode prog_13_method_50_code 72 = .ok (.goto 148, 3) := by decide +kernel
theorem d_Mo_first_75 : decode prog_13_method_50_code 75 = .ok (.iload_n 1, 1) := by decide +kernel
theorem d_Mo_first_76 : decode prog_13_method_50_code 76 = .ok (.bipush 7, 2) := by decide +kernel
theorem d_Mo_first_78 : decode prog_13_method_50_code 78 = .ok (.if_icmp .ge 22, 3) := by decide +kernel
theorem d_Mo_first_81 : decode prog_13_method_50_code 81 = .ok (.aload_n 0, 1) := by decide +kernel
theorem d_Mo_first_82 : decode prog_13_method_50_code 82 = .ok (.iload_n 2, 1) := by decide +kernel
theorem d_Mo_first_83 : decode prog_13_method_50_code 83 = .ok (.iload_n 1, 1) := by decide +kernel
theorem d_Mo_first_84 : decode prog_13_method_50_code 84 = .ok (.iconst 5, 1) := by decide +kernel
theorem d_Mo_first_85 : decode prog_13_method_50_code 85 = .ok (.if_icmp .ne 7, 3) := by decide +kernel
theorem d_Mo_first_88 : decode prog_13_method_50_code 88 = .ok (.iconst 1, 1) := by decide +kernel
theorem d_Mo_first_89 : decode prog_13_method_50_code 89 = .ok (.goto 4, 3) := by decide +kernel
theorem d_Mo_first_92 : decode prog_13_method_50_code 92 = .ok (.iconst (-1), 1) := by decide +kernel
theorem d_Mo_first_93 : decode prog_13_method_50_code 93 = .ok (.invokevirtual 226, 3) := by decide +kernel
theorem d_Mo_first_96 : decode prog_13_method_50_code 96 = .ok (.pop, 1) := by decide +kernel
theorem d_Mo_first_97 : decode prog_13_method_50_code 97 = .ok (.goto 123, 3) := by decide +kernel
theorem d_Mo_first_100 : decode prog_13_method_50_code 100 = .ok (.iload_n 1, 1) := by decide +kernel
theorem d_Mo_first_101 : decode prog_13_method_50_code 101 = .ok (.bipush 7, 2) := by decide +kernel
theorem d_Mo_first_103 : decode prog_13_method_50_code 103 = .ok (.if_icmp .ne 12, 3) := by decide +kernel
theorem d_Mo_first_106 : decode prog_13_method_50_code 106 = .ok (.aload_n 0, 1) := by decide +kernel
theorem d_Mo_first_107 : decode prog_13_method_50_code 107 = .ok (.iload_n 2, 1) := by decide +kernel
theorem d_Mo_first_108 : decode prog_13_method_50_code 108 = .ok (.invokevirtual 251, 3) := by decide +kernel
theorem d_Mo_first_111 : decode prog_13_method_50_code 111 = .ok (.pop, 1) := by decide +kernel
theorem d_Mo_first_112 : decode prog_13_method_50_code 112 = .ok (.goto 108, 3) := by decide +kernel
theorem d_Mo_first_115 : decode prog_13_method_50_code 115 = .ok (.iload_n 1, 1) := by decide +kernel
theorem d_Mo_first_116 : decode prog_13_method_50_code 116 = .ok (.bipush 9, 2) := by decide +kernel
theorem d_Mo_first_118 : decode prog_13_method_50_code 118 = .ok (.if_icmp .ne 11, 3) := by decide +kernel
theorem d_Mo_first_121 : decode prog_13_method_50_code 121 = .ok (.aload_n 0, 1) := by decide +kernel
theorem d_Mo_first_122 : decode prog_13_method_50_code 122 = .ok (.iload_n 2, 1) := by decide +kernel
theorem d_Mo_first_123 : decode prog_13_method_50_code 123 = .ok (.invokevirtual 160, 3) := by decide +kernel
theorem d_Mo_first_126 : decode prog_13_method_50_code 126 = .ok (.goto 94, 3) := by decide +kernel
theorem d_Mo_first_129 : decode prog_13_method_50_code 129 = .ok (.iload_n 1, 1) := by decide +kernel
theorem d_Mo_first_130 : decode prog_13_method_50_code 130 = .ok (.bipush 10, 2) := by decide +kernel
theorem d_Mo_first_132 : decode prog_13_method_50_code 132 = .ok (.if_icmp .ne 11, 3) := by decide +kernel
theorem d_Mo_first_135 : decode prog_13_method_50_code 135 = .ok (.aload_n 0, 1) := by decide +kernel
theorem d_Mo_first_136 : decode prog_13_method_50_code 136 = .ok (.iload_n 2, 1) := by decide +kernel
theorem d_Mo_first_137 : decode prog_13_method_50_code 137 = .ok (.invokevirtual 254, 3) := by decide +kernel
theorem d_Mo_first_140 : decode prog_13_method_50_code 140 = .ok (.goto 80, 3) := by decide +kernel
theorem d_Mo_first_143 : decode prog_13_method_50_code 143 = .ok (.iload_n 1, 1) := by decide +kernel
theorem d_Mo_first_144 : decode prog_13_method_50_code 144 = .ok (.bipush 11, 2) := by decide +kernel
theorem d_Mo_first_146 : decode prog_13_method_50_code 146 = .ok (.if_icmp .ne 11, 3) := by decide +kernel
theorem d_Mo_first_149 : decode prog_13_method_50_code 149 = .ok (.aload_n 0, 1) := by decide +kernel
theorem d_Mo_first_150 : decode prog_13_method_50_code 150 = .ok (.iload_n 2, 1) := by decide +kernel
theorem d_Mo_first_151 : decode prog_13_method_50_code 151 = .ok (.invokevirtual 213, 3) := by decide +kernel
theorem d_Mo_first_154 : decode prog_13_method_50_code 154 = .ok (.goto 66, 3) := by decide +kernel
theorem d_Mo_first_157 : decode prog_13_method_50_code 157 = .ok (.iload_n 1, 1) := by decide +kernel
theorem d_Mo_first_158 : decode prog_13_method_50_code 158 = .ok (.bipush 12, 2) := by decide +kernel
theorem d_Mo_first_160 : decode prog_13_method_50_code 160 = .ok (.if_icmp .ne 21, 3) := by decide +kernel
theorem d_Mo_first_163 : decode prog_13_method_50_code 163 = .ok (.aload_n 0, 1) := by decide +kernel
theorem d_Mo_first_164 : decode prog_13_method_50_code 164 = .ok (.aload_n 0, 1) := by decide +kernel
theorem d_Mo_first_165 : decode prog_13_method_50_code 165 = .ok (.getfield 210, 3) := by decide +kernel
theorem d_Mo_first_168 : decode prog_13_method_50_code 168 = .ok (.iload_n 2, 1) := by decide +kernel
theorem d_Mo_first_169 : decode prog_13_method_50_code 169 = .ok (.invokestatic 219, 3) := by decide +kernel
theorem d_Mo_first_172 : decode prog_13_method_50_code 172 = .ok (.iadd, 1) := by decide +kernel
theorem d_Mo_first_173 : decode prog_13_method_50_code 173 = .ok (.iconst 2, 1) := by decide +kernel
theorem d_Mo_first_174 : decode prog_13_method_50_code 174 = .ok (.isub, 1) := by decide +kernel
theorem d_Mo_first_175 : decode prog_13_method_50_code 175 = .ok (.putfield 175, 3) := by decide +kernel
theorem d_Mo_first_178 : decode prog_13_method_50_code 178 = .ok (.goto 42, 3) := by decide +kernel
theorem d_Mo_first_181 : decode prog_13_method_50_code 181 = .ok (.iload_n 1, 1) := by decide +kernel
theorem d_Mo_first_182 : decode prog_13_method_50_code 182 = .ok (.bipush 13, 2) := by decide +kernel
theorem d_Mo_first_184 : decode prog_13_method_50_code 184 = .ok (.if_icmp .ne 14, 3) := by decide +kernel
theorem d_Mo_first_187 : decode prog_13_method_50_code 187 = .ok (.aload_n 0, 1) := by decide +kernel
theorem d_Mo_first_188 : decode prog_13_method_50_code 188 = .ok (.iconst 2, 1) := by decide +kernel
theorem d_Mo_first_189 : decode prog_13_method_50_code 189 = .ok (.iload_n 2, 1) := by decide +kernel
theorem d_Mo_first_190 : decode prog_13_method_50_code 190 = .ok (.imul, 1) := by decide +kernel
theorem d_Mo_first_191 : decode prog_13_method_50_code 191 = .ok (.invokevirtual 251, 3) := by decide +kernel
theorem d_Mo_first_194 : decode prog_13_method_50_code 194 = .ok (.pop, 1) := by decide +kernel
theorem d_Mo_first_195 : decode prog_13_method_50_code 195 = .ok (.goto 25, 3) := by decide +kernel
theorem d_Mo_first_198 : decode prog_13_method_50_code 198 = .ok (.aload_n 0, 1) := by decide +kernel
theorem d_Mo_first_199 : decode prog_13_method_50_code 199 = .ok (.iload_n 1, 1) := by decide +kernel
theorem d_Mo_first_200 : decode prog_13_method_50_code 200 = .ok (.bipush 14, 2) := by decide +kernel
theorem d_Mo_first_202 : decode prog_13_method_50_code 202 = .ok (.if_icmp .ne 11, 3) := by decide +kernel
theorem d_Mo_first_205 : decode prog_13_method_50_code 205 = .ok (.aload_n 0, 1) := by decide +kernel
theorem d_Mo_first_206 : decode prog_13_method_50_code 206 = .ok (.iload_n 2, 1) := by decide +kernel
theorem d_Mo_first_207 : decode prog_13_method_50_code 207 = .ok (.invokevirtual 182, 3) := by decide +kernel
theorem d_Mo_first_210 : decode prog_13_method_50_code 210 = .ok (.goto 7, 3) := by decide +kernel
theorem d_Mo_first_213 : decode prog_13_method_50_code 213 = .ok (.ldc 80, 2) := by decide +kernel
theorem d_Mo_first_215 : decode prog_13_method_50_code 215 = .ok (.iload_n 2, 1) := by decide +kernel
theorem d_Mo_first_216 : decode prog_13_method_50_code 216 = .ok (.isub, 1) := by decide +kernel
theorem d_Mo_first_217 : decode prog_13_method_50_code 217 = .ok (.invokevirtual 248, 3) := by decide +kernel
theorem d_Mo_first_220 : decode prog_13_method_50_code 220 = .ok (.return_, 1) := by decide +kernel
theorem d_Mo_giveIf_0 : decode prog_13_method_51_code 0 = .ok (.aload_n 0, 1) := by decide +kernel
theorem d_Mo_giveIf_1 : decode prog_13_method_51_code 1 = .ok (.getfield 77, 3) := by decide +kernel
theorem d_Mo_giveIf_4 : decode prog_13_method_51_code 4 = .ok (.ifCond .ne 8, 3) := by decide +kernel
theorem d_Mo_giveIf_7 : decode prog_13_method_51_code 7 = .ok (.aload_n 0, 1) := by decide +kernel
theorem d_Mo_giveIf_8 : decode prog_13_method_51_code 8 = .ok (.iload_n 1, 1) := by decide +kernel
theorem d_Mo_giveIf_9 : decode prog_13_method_51_code 9 = .ok (.invokevirtual 216, 3) := by decide +kernel
theorem d_Mo_giveIf_12 : decode prog_13_method_51_code 12 = .ok (.return_, 1) := by decide +kernel
theorem d_Mo_showName_0 : decode prog_13_method_53_code 0 = .ok (.aload_n 0, 1) := by decide +kernel
theorem d_Mo_showName_1 : decode prog_13_method_53_code 1 = .ok (.aload_n 0, 1) := by decide +kernel
theorem d_Mo_showName_2 : decode prog_13_method_53_code 2 = .ok (.iload_n 1, 1) := by decide +kernel
theorem d_Mo_showName_3 : decode prog_13_method_53_code 3 = .ok (.invokevirtual 142, 3) := by decide +kernel
theorem d_Mo_showName_6 : decode prog_13_method_53_code 6 = .ok (.bipush 7, 2) := by decide +kernel
theorem d_Mo_showName_8 : decode prog_13_method_53_code 8 = .ok (.iadd, 1) := by decide +kernel
theorem d_Mo_showName_9 : decode prog_13_method_53_code 9 = .ok (.invokevirtual 100, 3) := by decide +kernel
theorem d_Mo_showName_12 : decode prog_13_method_53_code 12 = .ok (.istore_n 2, 1) := by decide +kernel
theorem d_Mo_showName_13 : decode prog_13_method_53_code 13 = .ok (.aload_n 0, 1) := by decide +kernel
theorem d_Mo_showName_14 : decode prog_13_method_53_code 14 = .ok (.getfield 77, 3) := by decide +kernel
theorem d_Mo_showName_17 : decode prog_13_method_53_code 17 = .ok (.ifCond .ne 19, 3) := by decide +kernel
theorem d_Mo_showName_20 : decode prog_13_method_53_code 20 = .ok (.aload_n 0, 1) := by decide +kernel
theorem d_Mo_showName_21 : decode prog_13_method_53_code 21 = .ok (.iload_n 2, 1) := by decide +kernel
theorem d_Mo_showName_22 : decode prog_13_method_53_code 22 = .ok (.invokevirtual 86, 3) := by decide +kernel
theorem d_Mo_showName_25 : decode prog_13_method_53_code 25 = .ok (.ifCond .le 11, 3) := by decide +kernel
theorem d_Mo_showName_28 : decode prog_13_method_53_code 28 = .ok (.aload_n 0, 1) := by decide +kernel
theorem d_Mo_showName_29 : decode prog_13_method_53_code 29 = .ok (.iload_n 2, 1) := by decide +kernel
theorem d_Mo_showName_30 : decode prog_13_method_53_code 30 = .ok (.iconst 1, 1) := by decide +kernel
theorem d_Mo_showName_31 : decode prog_13_method_53_code 31 = .ok (.iadd, 1) := by decide +kernel
theorem d_Mo_showName_32 : decode prog_13_method_53_code 32 = .ok (.invokevirtual 251, 3) := by decide +kernel
theorem d_Mo_showName_35 : decode prog_13_method_53_code 35 = .ok (.pop, 1) := by decide +kernel
theorem d_Mo_showName_36 : decode prog_13_method_53_code 36 = .ok (.return_, 1) := by decide +kernel
theorem d_Mo_take_0 : decode prog_13_method_26_code 0 = .ok (.aload_n 0, 1) := by decide +kernel
theorem d_Mo_take_1 : decode prog_13_method_26_code 1 = .ok (.iload_n 1, 1) := by decide +kernel
theorem d_Mo_take_2 : decode prog_13_method_26_code 2 = .ok (.iconst 4, 1) := by decide +kernel
theorem d_Mo_take_3 : decode prog_13_method_26_code 3 = .ok (.invokevirtual 152, 3) := by decide +kernel
theorem d_Mo_take_6 : decode prog_13_method_26_code 6 = .ok (.istore_n 2, 1) := by decide +kernel
theorem d_Mo_take_7 : decode prog_13_method_26_code 7 = .ok (.iload_n 2, 1) := by decide +kernel
theorem d_Mo_take_8 : decode prog_13_method_26_code 8 = .ok (.ifCond .ne 4, 3) := by decide +kernel
theorem d_Mo_take_11 : decode prog_13_method_26_code 11 = .ok (.return_, 1) := by decide +kernel
theorem d_Mo_take_12 : decode prog_13_method_26_code 12 = .ok (.aload_n 0, 1) := by decide +kernel
theorem d_Mo_take_13 : decode prog_13_method_26_code 13 = .ok (.iload_n 1, 1) := by decide +kernel
theorem d_Mo_take_14 : decode prog_13_method_26_code 14 = .ok (.iconst 5, 1) := by decide +kernel
theorem d_Mo_take_15 : decode prog_13_method_26_code 15 = .ok (.invokevirtual 152, 3) := by decide +kernel
theorem d_Mo_take_18 : decode prog_13_method_26_code 18 = .ok (.istore_n 3, 1) := by decide +kernel
theorem d_Mo_take_19 : decode prog_13_method_26_code 19 = .ok (.aload_n 0, 1) := by decide +kernel
theorem d_Mo_take_20 : decode prog_13_method_26_code 20 = .ok (.iload_n 2, 1) := by decide +kernel
theorem d_Mo_take_21 : decode prog_13_method_26_code 21 = .ok (.bipush 6, 2) := by decide +kernel
theorem d_Mo_take_23 : decode prog_13_method_26_code 23 = .ok (.invokevirtual 152, 3) := by decide +kernel
theorem d_Mo_take_26 : decode prog_13_method_26_code 26 = .ok (.istore 4, 2) := by decide +kernel
theorem d_Mo_take_28 : decode prog_13_method_26_code 28 = .ok (.aload_n 0, 1) := by decide +kernel
theorem d_Mo_take_29 : decode prog_13_method_26_code 29 = .ok (.getfield 77, 3) := by decide +kernel
theorem d_Mo_take_32 : decode prog_13_method_26_code 32 = .ok (.ifCond .le 4, 3) := by decide +kernel
theorem d_Mo_take_35 : decode prog_13_method_26_code 35 = .ok (.return_, 1) := by decide +kernel
theorem d_Mo_take_36 : decode prog_13_method_26_code 36 = .ok (.iload 4, 2) := by decide +kernel
theorem d_Mo_take_38 : decode prog_13_method_26_code 38 = .ok (.iload_n 1, 1) := by decide +kernel
theorem d_Mo_take_39 : decode prog_13_method_26_code 39 = .ok (.if_icmp .ne 14, 3) := by decide +kernel
theorem d_Mo_take_42 : decode prog_13_method_26_code 42 = .ok (.aload_n 0, 1) := by decide +kernel
theorem d_Mo_take_43 : decode prog_13_method_26_code 43 = .ok (.iload_n 2, 1) := by decide +kernel
theorem d_Mo_take_44 : decode prog_13_method_26_code 44 = .ok (.bipush 6, 2) := by decide +kernel
theorem d_Mo_take_46 : decode prog_13_method_26_code 46 = .ok (.iload_n 3, 1) := by decide +kernel
theorem d_Mo_take_47 : decode prog_13_method_26_code 47 = .ok (.invokevirtual 156, 3) := by decide +kernel
theorem d_Mo_take_50 : decode prog_13_method_26_code 50 = .ok (.goto 86, 3) := by decide +kernel
theorem d_Mo_take_53 : decode prog_13_method_26_code 53 = .ok (.iconst 0, 1) := by decide +kernel
theorem d_Mo_take_54 : decode prog_13_method_26_code 54 = .ok (.istore 5, 2) := by decide +kernel
theorem d_Mo_take_56 : decode prog_13_method_26_code 56 = .ok (.iload 5, 2) := by decide +kernel
theorem d_Mo_take_58 : decode prog_13_method_26_code 58 = .ok (.bipush 20, 2) := by decide +kernel
theorem d_Mo_take_60 : decode prog_13_method_26_code 60 = .ok (.if_icmp .ge 36, 3) := by decide +kernel
theorem d_Mo_take_63 : decode prog_13_method_26_code 63 = .ok (.aload_n 0, 1) := by decide +kernel
theorem d_Mo_take_64 : decode prog_13_method_26_code 64 = .ok (.getfield 77, 3) := by decide +kernel
theorem d_Mo_take_67 : decode prog_13_method_26_code 67 = .ok (.ifCond .ne 29, 3) := by decide +kernel
theorem d_Mo_take_70 : decode prog_13_method_26_code 70 = .ok (.aload_n 0, 1) := by decide +kernel
theorem d_Mo_take_71 : decode prog_13_method_26_code 71 = .ok (.iload 4, 2) := by decide +kernel
theorem d_Mo_take_73 : decode prog_13_method_26_code 73 = .ok (.iconst 5, 1) := by decide +kernel
theorem d_Mo_take_74 : decode prog_13_method_26_code 74 = .ok (.invokevirtual 152, 3) := by decide +kernel
theorem d_Mo_take_77 : decode prog_13_method_26_code 77 = .ok (.iload_n 1, 1) := by decide +kernel
theorem d_Mo_take_78 : decode prog_13_method_26_code 78 = .ok (.if_icmp .eq 18, 3) := by decide +kernel
theorem d_Mo_take_81 : decode prog_13_method_26_code 81 = .ok (.aload_n 0, 1) := by decide +kernel
theorem d_Mo_take_82 : decode prog_13_method_26_code 82 = .ok (.iload 4, 2) := by decide +kernel
theorem d_Mo_take_84 : decode prog_13_method_26_code 84 = .ok (.iconst 5, 1) := by decide +kernel
theorem d_Mo_take_85 : decode prog_13_method_26_code 85 = .ok (.invokevirtual 152, 3) := by decide +kernel
theorem d_Mo_take_88 : decode prog_13_method_26_code 88 = .ok (.istore 4, 2) := by decide +kernel
theorem d_Mo_take_90 : decode prog_13_method_26_code 90 = .ok (.iinc 5 1, 3) := by decide +kernel
theorem d_Mo_take_93 : decode prog_13_method_26_code 93 = .ok (.goto (-37), 3) := by decide +kernel
theorem d_Mo_take_96 : decode prog_13_method_26_code 96 = .ok (.aload_n 0, 1) := by decide +kernel
theorem d_Mo_take_97 : decode prog_13_method_26_code 97 = .ok (.aload_n 0, 1) := by decide +kernel
theorem d_Mo_take_98 : decode prog_13_method_26_code 98 = .ok (.getfield 77, 3) := by decide +kernel
theorem d_Mo_take_101 : decode prog_13_method_26_code 101 = .ok (.ifCond .gt 14, 3) := by decide +kernel
theorem d_Mo_take_104 : decode prog_13_method_26_code 104 = .ok (.aload_n 0, 1) := by decide +kernel
theorem d_Mo_take_105 : decode prog_13_method_26_code 105 = .ok (.iload 4, 2) := by decide +kernel
theorem d_Mo_take_107 : decode prog_13_method_26_code 107 = .ok (.iconst 5, 1) := by decide +kernel
theorem d_Mo_take_108 : decode prog_13_method_26_code 108 = .ok (.invokevirtual 152, 3) := by decide +kernel
theorem d_Mo_take_111 : decode prog_13_method_26_code 111 = .ok (.iload_n 1, 1) := by decide +kernel
theorem d_Mo_take_112 : decode prog_13_method_26_code 112 = .ok (.if_icmp .ne 7, 3) := by decide +kernel
theorem d_Mo_take_115 : decode prog_13_method_26_code 115 = .ok (.iconst 1, 1) := by decide +kernel
theorem d_Mo_take_116 : decode prog_13_method_26_code 116 = .ok (.goto 4, 3) := by decide +kernel
theorem d_Mo_take_119 : decode prog_13_method_26_code 119 = .ok (.iconst 0, 1) := by decide +kernel
theorem d_Mo_take_120 : decode prog_13_method_26_code 120 = .ok (.iconst 1, 1) := by decide +kernel
theorem d_Mo_take_121 : decode prog_13_method_26_code 121 = .ok (.invokevirtual 82, 3) := by decide +kernel
theorem d_Mo_take_124 : decode prog_13_method_26_code 124 = .ok (.ifCond .ne 4, 3) := by decide +kernel
theorem d_Mo_take_127 : decode prog_13_method_26_code 127 = .ok (.return_, 1) := by decide +kernel
theorem d_Mo_take_128 : decode prog_13_method_26_code 128 = .ok (.aload_n 0, 1) := by decide +kernel
theorem d_Mo_take_129 : decode prog_13_method_26_code 129 = .ok (.iload 4, 2) := by decide +kernel
theorem d_Mo_take_131 : decode prog_13_method_26_code 131 = .ok (.iconst 5, 1) := by decide +kernel
theorem d_Mo_take_132 : decode prog_13_method_26_code 132 = .ok (.iload_n 3, 1) := by decide +kernel
theorem d_Mo_take_133 : decode prog_13_method_26_code 133 = .ok (.invokevirtual 156, 3) := by decide +kernel
theorem d_Mo_take_136 : decode prog_13_method_26_code 136 = .ok (.aload_n 0, 1) := by decide +kernel
theorem d_Mo_take_137 : decode prog_13_method_26_code 137 = .ok (.iload_n 1, 1) := by decide +kernel
theorem d_Mo_take_138 : decode prog_13_method_26_code 138 = .ok (.iconst 4, 1) := by decide +kernel
theorem d_Mo_take_139 : decode prog_13_method_26_code 139 = .ok (.iconst 0, 1) := by decide +kernel
theorem d_Mo_take_140 : decode prog_13_method_26_code 140 = .ok (.invokevirtual 156, 3) := by decide +kernel
theorem d_Mo_take_143 : decode prog_13_method_26_code 143 = .ok (.aload_n 0, 1) := by decide +kernel
theorem d_Mo_take_144 : decode prog_13_method_26_code 144 = .ok (.iload_n 1, 1) := by decide +kernel
theorem d_Mo_take_145 : decode prog_13_method_26_code 145 = .ok (.iconst 5, 1) := by decide +kernel
theorem d_Mo_take_146 : decode prog_13_method_26_code 146 = .ok (.iconst 0, 1) := by decide +kernel
theorem d_Mo_take_147 : decode prog_13_method_26_code 147 = .ok (.invokevirtual 156, 3) := by decide +kernel
theorem d_Mo_take_150 : decode prog_13_method_26_code 150 = .ok (.return_, 1) := by decide +kernel
theorem d_Mo_of_0 : decode prog_13_method_22_code 0 = .ok (.aload_n 0, 1) := by decide +kernel
theorem d_Mo_of_1 : decode prog_13_method_22_code 1 = .ok (.iload_n 1, 1) := by decide +kernel
theorem d_Mo_of_2 : decode prog_13_method_22_code 2 = .ok (.invokevirtual 142, 3) := by decide +kernel
theorem d_Mo_of_5 : decode prog_13_method_22_code 5 = .ok (.istore_n 3, 1) := by decide +kernel
theorem d_Mo_of_6 : decode prog_13_method_22_code 6 = .ok (.aload_n 0, 1) := by decide +kernel
theorem d_Mo_of_7 : decode prog_13_method_22_code 7 = .ok (.getfield 77, 3) := by decide +kernel
theorem d_Mo_of_10 : decode prog_13_method_22_code 10 = .ok (.ifCond .ne 13, 3) := by decide +kernel
theorem d_Mo_of_13 : decode prog_13_method_22_code 13 = .ok (.aload_n 0, 1) := by decide +kernel
theorem d_Mo_of_14 : decode prog_13_method_22_code 14 = .ok (.iload_n 3, 1) := by decide +kernel
theorem d_Mo_of_15 : decode prog_13_method_22_code 15 = .ok (.iload_n 2, 1) := by decide +kernel
theorem d_Mo_of_16 : decode prog_13_method_22_code 16 = .ok (.iadd, 1) := by decide +kernel
theorem d_Mo_of_17 : decode prog_13_method_22_code 17 = .ok (.invokevirtual 86, 3) := by decide +kernel
theorem d_Mo_of_20 : decode prog_13_method_22_code 20 = .ok (.goto 4, 3) := by decide +kernel
theorem d_Mo_of_23 : decode prog_13_method_22_code 23 = .ok (.iconst 0, 1) := by decide +kernel
theorem d_Mo_of_24 : decode prog_13_method_22_code 24 = .ok (.ireturn, 1) := by decide +kernel
theorem d_Mo_setOf_0 : decode prog_13_method_23_code 0 = .ok (.aload_n 0, 1) := by decide +kernel
theorem d_Mo_setOf_1 : decode prog_13_method_23_code 1 = .ok (.iload_n 1, 1) := by decide +kernel
theorem d_Mo_setOf_2 : decode prog_13_method_23_code 2 = .ok (.invokevirtual 142, 3) := by decide +kernel
theorem d_Mo_setOf_5 : decode prog_13_method_23_code 5 = .ok (.istore 4, 2) := by decide +kernel
theorem d_Mo_setOf_7 : decode prog_13_method_23_code 7 = .ok (.aload_n 0, 1) := by decide +kernel
theorem d_Mo_setOf_8 : decode prog_13_method_23_code 8 = .ok (.getfield 77, 3) := by decide +kernel
theorem d_Mo_setOf_11 : decode prog_13_method_23_code 11 = .ok (.ifCond .ne 12, 3) := by decide +kernel
theorem d_Mo_setOf_14 : decode prog_13_method_23_code 14 = .ok (.aload_n 0, 1) := by decide +kernel
theorem d_Mo_setOf_15 : decode prog_13_method_23_code 15 = .ok (.iload 4, 2) := by decide +kernel
theorem d_Mo_setOf_17 : decode prog_13_method_23_code 17 = .ok (.iload_n 2, 1) := by decide +kernel
theorem d_Mo_setOf_18 : decode prog_13_method_23_code 18 = .ok (.iadd, 1) := by decide +kernel
theorem d_Mo_setOf_19 : decode prog_13_method_23_code 19 = .ok (.iload_n 3, 1) := by decide +kernel
theorem d_Mo_setOf_20 : decode prog_13_method_23_code 20 = .ok (.invokevirtual 145, 3) := by decide +kernel
theorem d_Mo_setOf_23 : decode prog_13_method_23_code 23 = .ok (.return_, 1) := by decide +kernel
theorem d_Mo_change_0 : decode prog_13_method_47_code 0 = .ok (.aload_n 0, 1) := by decide +kernel
theorem d_Mo_change_1 : decode prog_13_method_47_code 1 = .ok (.iload_n 1, 1) := by decide +kernel
theorem d_Mo_change_2 : decode prog_13_method_47_code 2 = .ok (.invokevirtual 182, 3) := by decide +kernel
theorem d_Mo_change_5 : decode prog_13_method_47_code 5 = .ok (.iload_n 2, 1) := by decide +kernel
theorem d_Mo_change_6 : decode prog_13_method_47_code 6 = .ok (.iadd, 1) := by decide +kernel
theorem d_Mo_change_7 : decode prog_13_method_47_code 7 = .ok (.istore_n 3, 1) := by decide +kernel
theorem d_Mo_change_8 : decode prog_13_method_47_code 8 = .ok (.aload_n 0, 1) := by decide +kernel
theorem d_Mo_change_9 : decode prog_13_method_47_code 9 = .ok (.getfield 77, 3) := by decide +kernel
theorem d_Mo_change_12 : decode prog_13_method_47_code 12 = .ok (.ifCond .ne 9, 3) := by decide +kernel
theorem d_Mo_change_15 : decode prog_13_method_47_code 15 = .ok (.aload_n 0, 1) := by decide +kernel
theorem d_Mo_change_16 : decode prog_13_method_47_code 16 = .ok (.iload_n 1, 1) := by decide +kernel
theorem d_Mo_change_17 : decode prog_13_method_47_code 17 = .ok (.iload_n 3, 1) := by decide +kernel
theorem d_Mo_change_18 : decode prog_13_method_47_code 18 = .ok (.invokevirtual 111, 3) := by decide +kernel
theorem d_Mo_change_21 : decode prog_13_method_47_code 21 = .ok (.iload_n 3, 1) := by decide +kernel
theorem d_Mo_change_22 : decode prog_13_method_47_code 22 = .ok (.invokestatic 219, 3) := by decide +kernel
theorem d_Mo_change_25 : decode prog_13_method_47_code 25 = .ok (.ireturn, 1) := by decide +kernel
theorem d_Mo_giveAndAsk_0 : decode prog_13_method_52_code 0 = .ok (.aload_n 0, 1) := by decide +kernel
theorem d_Mo_giveAndAsk_1 : decode prog_13_method_52_code 1 = .ok (.iload_n 1, 1) := by decide +kernel
theorem d_Mo_giveAndAsk_2 : decode prog_13_method_52_code 2 = .ok (.invokevirtual 248, 3) := by decide +kernel
theorem d_Mo_giveAndAsk_5 : decode prog_13_method_52_code 5 = .ok (.aload_n 0, 1) := by decide +kernel
theorem d_Mo_giveAndAsk_6 : decode prog_13_method_52_code 6 = .ok (.iload_n 1, 1) := by decide +kernel
theorem d_Mo_giveAndAsk_7 : decode prog_13_method_52_code 7 = .ok (.ifCond .eq 7, 3) := by decide +kernel
theorem d_Mo_giveAndAsk_10 : decode prog_13_method_52_code 10 = .ok (.iconst 1, 1) := by decide +kernel
theorem d_Mo_giveAndAsk_11 : decode prog_13_method_52_code 11 = .ok (.goto 4, 3) := by decide +kernel
theorem d_Mo_giveAndAsk_14 : decode prog_13_method_52_code 14 = .ok (.iconst 0, 1) := by decide +kernel
theorem d_Mo_giveAndAsk_15 : decode prog_13_method_52_code 15 = .ok (.invokevirtual 222, 3) := by decide +kernel
theorem d_Mo_giveAndAsk_18 : decode prog_13_method_52_code 18 = .ok (.return_, 1) := by decide +kernel
theorem d_Mo_second_0 : decode prog_13_method_48_code 0 = .ok (.iconst 0, 1) := by decide +kernel
theorem d_Mo_second_1 : decode prog_13_method_48_code 1 = .ok (.istore 4, 2) := by decide +kernel
theorem d_Mo_second_3 : decode prog_13_method_48_code 3 = .ok (.iconst 1, 1) := by decide +kernel
theorem d_Mo_second_4 : decode prog_13_method_48_code 4 = .ok (.istore 5, 2) := by decide +kernel
theorem d_Mo_second_6 : decode prog_13_method_48_code 6 = .ok (.iload 5, 2) := by decide +kernel
theorem d_Mo_second_8 : decode prog_13_method_48_code 8 = .ok (.aload_n 0, 1) := by decide +kernel
theorem d_Mo_second_9 : decode prog_13_method_48_code 9 = .ok (.getfield 191, 3) := by decide +kernel
theorem d_Mo_second_12 : decode prog_13_method_48_code 12 = .ok (.if_icmp .ge 32, 3) := by decide +kernel
theorem d_Mo_second_15 : decode prog_13_method_48_code 15 = .ok (.iload 4, 2) := by decide +kernel
theorem d_Mo_second_17 : decode prog_13_method_48_code 17 = .ok (.ifCond .ne 14, 3) := by decide +kernel
theorem d_Mo_second_20 : decode prog_13_method_48_code 20 = .ok (.aload_n 0, 1) := by decide +kernel
theorem d_Mo_second_21 : decode prog_13_method_48_code 21 = .ok (.getfield 61, 3) := by decide +kernel
theorem d_Mo_second_24 : decode prog_13_method_48_code 24 = .ok (.iload 5, 2) := by decide +kernel
theorem d_Mo_second_26 : decode prog_13_method_48_code 26 = .ok (.iaload, 1) := by decide +kernel
theorem d_Mo_second_27 : decode prog_13_method_48_code 27 = .ok (.iload_n 2, 1) := by decide +kernel
theorem d_Mo_second_28 : decode prog_13_method_48_code 28 = .ok (.if_icmp .ne 7, 3) := by decide +kernel
theorem d_Mo_second_31 : decode prog_13_method_48_code 31 = .ok (.iconst 1, 1) := by decide +kernel
theorem d_Mo_second_32 : decode prog_13_method_48_code 32 = .ok (.goto 4, 3) := by decide +kernel
theorem d_Mo_second_35 : decode prog_13_method_48_code 35 = .ok (.iconst 0, 1) := by decide +kernel
theorem d_Mo_second_36 : decode prog_13_method_48_code 36 = .ok (.istore 4, 2) := by decide +kernel
theorem d_Mo_second_38 : decode prog_13_method_48_code 38 = .ok (.iinc 5 1, 3) := by decide +kernel
theorem d_Mo_second_41 : decode prog_13_method_48_code 41 = .ok (.goto (-35), 3) := by decide +kernel
theorem d_Mo_second_44 : decode prog_13_method_48_code 44 = .ok (.iload_n 1, 1) := by decide +kernel
theorem d_Mo_second_45 : decode prog_13_method_48_code 45 = .ok (.iconst 1, 1) := by decide +kernel
theorem d_Mo_second_46 : decode prog_13_method_48_code 46 = .ok (.if_icmp .ne 12, 3) := by decide +kernel
theorem d_Mo_second_49 : decode prog_13_method_48_code 49 = .ok (.aload_n 0, 1) := by decide +kernel
theorem d_Mo_second_50 : decode prog_13_method_48_code 50 = .ok (.iload 4, 2) := by decide +kernel
theorem d_Mo_second_52 : decode prog_13_method_48_code 52 = .ok (.invokevirtual 222, 3) := by decide +kernel
theorem d_Mo_second_55 : decode prog_13_method_48_code 55 = .ok (.goto 286, 3) := by decide +kernel
theorem d_Mo_second_58 : decode prog_13_method_48_code 58 = .ok (.iload_n 1, 1) := by decide +kernel
theorem d_Mo_second_59 : decode prog_13_method_48_code 59 = .ok (.iconst 2, 1) := by decide +kernel
theorem d_Mo_second_60 : decode prog_13_method_48_code 60 = .ok (.if_icmp .ne 26, 3) := by decide +kernel
theorem d_Mo_second_63 : decode prog_13_method_48_code 63 = .ok (.aload_n 0, 1) := by decide +kernel
theorem d_Mo_second_64 : decode prog_13_method_48_code 64 = .ok (.iload_n 2, 1) := by decide +kernel
theorem d_Mo_second_65 : decode prog_13_method_48_code 65 = .ok (.invokestatic 219, 3) := by decide +kernel
theorem d_Mo_second_68 : decode prog_13_method_48_code 68 = .ok (.iload_n 3, 1) := by decide +kernel
theorem d_Mo_second_69 : decode prog_13_method_48_code 69 = .ok (.invokestatic 219, 3) := by decide +kernel
theorem d_Mo_second_72 : decode prog_13_method_48_code 72 = .ok (.if_icmp .ge 7, 3) := by decide +kernel
theorem d_Mo_second_75 : decode prog_13_method_48_code 75 = .ok (.iconst 1, 1) := by decide +kernel
theorem d_Mo_second_76 : decode prog_13_method_48_code 76 = .ok (.goto 4, 3) := by decide +kernel
theorem d_Mo_second_79 : decode prog_13_method_48_code 79 = .ok (.iconst 0, 1) := by decide +kernel
theorem d_Mo_second_80 : decode prog_13_method_48_code 80 = .ok (.invokevirtual 222, 3) := by decide +kernel
theorem d_Mo_second_83 : decode prog_13_method_48_code 83 = .ok (.goto 258, 3) := by decide +kernel
theorem d_Mo_second_86 : decode prog_13_method_48_code 86 = .ok (.iload_n 1, 1) := by decide +kernel
theorem d_Mo_second_87 : decode prog_13_method_48_code 87 = .ok (.iconst 3, 1) := by decide +kernel
theorem d_Mo_second_88 : decode prog_13_method_48_code 88 = .ok (.if_icmp .ne 26, 3) := by decide +kernel
theorem d_Mo_second_91 : decode prog_13_method_48_code 91 = .ok (.aload_n 0, 1) := by decide +kernel
theorem d_Mo_second_92 : decode prog_13_method_48_code 92 = .ok (.iload_n 2, 1) := by decide +kernel
theorem d_Mo_second_93 : decode prog_13_method_48_code 93 = .ok (.invokestatic 219, 3) := by decide +kernel
theorem d_Mo_second_96 : decode prog_13_method_48_code 96 = .ok (.iload_n 3, 1) := by decide +kernel
theorem d_Mo_second_97 : decode prog_13_method_48_code 97 = .ok (.invokestatic 219, 3) := by decide +kernel
theorem d_Mo_second_100 : decode prog_13_method_48_code 100 = .ok (.if_icmp .le 7, 3) := by decide +kernel
theorem d_Mo_second_103 : decode prog_13_method_48_code 103 = .ok (.iconst 1, 1) := by decide +kernel
theorem d_Mo_second_104 : decode prog_13_method_48_code 104 = .ok (.goto 4, 3) := by decide +kernel
theorem d_Mo_second_107 : decode prog_13_method_48_code 107 = .ok (.iconst 0, 1) := by decide +kernel
theorem d_Mo_second_108 : decode prog_13_method_48_code 108 = .ok (.invokevirtual 222, 3) := by decide +kernel
theorem d_Mo_second_111 : decode prog_13_method_48_code 111 = .ok (.goto 230, 3) := by decide +kernel
theorem d_Mo_second_114 : decode prog_13_method_48_code 114 = .ok (.iload_n 1, 1) := by decide +kernel
theorem d_Mo_second_115 : decode prog_13_method_48_code 115 = .ok (.iconst 4, 1) := by decide +kernel
theorem d_Mo_second_116 : decode prog_13_method_48_code 116 = .ok (.if_icmp .ne 28, 3) := by decide +kernel
theorem d_Mo_second_119 : decode prog_13_method_48_code 119 = .ok (.aload_n 0, 1) := by decide +kernel
theorem d_Mo_second_120 : decode prog_13_method_48_code 120 = .ok (.aload_n 0, 1) := by decide +kernel
theorem d_Mo_second_121 : decode prog_13_method_48_code 121 = .ok (.iload_n 2, 1) := by decide +kernel
theorem d_Mo_second_122 : decode prog_13_method_48_code 122 = .ok (.iconst (-1), 1) := by decide +kernel
theorem d_Mo_second_123 : decode prog_13_method_48_code 123 = .ok (.invokevirtual 226, 3) := by decide +kernel
theorem d_Mo_second_126 : decode prog_13_method_48_code 126 = .ok (.iload_n 3, 1) := by decide +kernel
theorem d_Mo_second_127 : decode prog_13_method_48_code 127 = .ok (.invokestatic 219, 3) := by decide +kernel
theorem d_Mo_second_130 : decode prog_13_method_48_code 130 = .ok (.if_icmp .ge 7, 3) := by decide +kernel
theorem d_Mo_second_133 : decode prog_13_method_48_code 133 = .ok (.iconst 1, 1) := by decide +kernel
theorem d_Mo_second_134 : decode prog_13_method_48_code 134 = .ok (.goto 4, 3) := by decide +kernel
theorem d_Mo_second_137 : decode prog_13_method_48_code 137 = .ok (.iconst 0, 1) := by decide +kernel
theorem d_Mo_second_138 : decode prog_13_method_48_code 138 = .ok (.invokevirtual 222, 3) := by decide +kernel
theorem d_Mo_second_141 : decode prog_13_method_48_code 141 = .ok (.goto 200, 3) := by decide +kernel
theorem d_Mo_second_144 : decode prog_13_method_48_code 144 = .ok (.iload_n 1, 1) := by decide +kernel
theorem d_Mo_second_145 : decode prog_13_method_48_code 145 = .ok (.iconst 5, 1) := by decide +kernel
theorem d_Mo_second_146 : decode prog_13_method_48_code 146 = .ok (.if_icmp .ne 28, 3) := by decide +kernel
theorem d_Mo_second_149 : decode prog_13_method_48_code 149 = .ok (.aload_n 0, 1) := by decide +kernel
theorem d_Mo_second_150 : decode prog_13_method_48_code 150 = .ok (.aload_n 0, 1) := by decide +kernel
theorem d_Mo_second_151 : decode prog_13_method_48_code 151 = .ok (.iload_n 2, 1) := by decide +kernel
theorem d_Mo_second_152 : decode prog_13_method_48_code 152 = .ok (.iconst 1, 1) := by decide +kernel
theorem d_Mo_second_153 : decode prog_13_method_48_code 153 = .ok (.invokevirtual 226, 3) := by decide +kernel
theorem d_Mo_second_156 : decode prog_13_method_48_code 156 = .ok (.iload_n 3, 1) := by decide +kernel
theorem d_Mo_second_157 : decode prog_13_method_48_code 157 = .ok (.invokestatic 219, 3) := by decide +kernel
theorem d_Mo_second_160 : decode prog_13_method_48_code 160 = .ok (.if_icmp .le 7, 3) := by decide +kernel
theorem d_Mo_second_163 : decode prog_13_method_48_code 163 = .ok (.iconst 1, 1) := by decide +kernel
theorem d_Mo_second_164 : decode prog_13_method_48_code 164 = .ok (.goto 4, 3) := by decide +kernel
theorem d_Mo_second_167 : decode prog_13_method_48_code 167 = .ok (.iconst 0, 1) := by decide +kernel
theorem d_Mo_second_168 : decode prog_13_method_48_code 168 = .ok (.invokevirtual 222, 3) := by decide +kernel
theorem d_Mo_second_171 : decode prog_13_method_48_code 171 = .ok (.goto 170, 3) := by decide +kernel
theorem d_Mo_second_174 : decode prog_13_method_48_code 174 = .ok (.iload_n 1, 1) := by decide +kernel
theorem d_Mo_second_175 : decode prog_13_method_48_code 175 = .ok (.bipush 6, 2) := by decide +kernel
theorem d_Mo_second_177 : decode prog_13_method_48_code 177 = .ok (.if_icmp .ne 25, 3) := by decide +kernel
theorem d_Mo_second_180 : decode prog_13_method_48_code 180 = .ok (.aload_n 0, 1) := by decide +kernel
theorem d_Mo_second_181 : decode prog_13_method_48_code 181 = .ok (.aload_n 0, 1) := by decide +kernel
theorem d_Mo_second_182 : decode prog_13_method_48_code 182 = .ok (.iload_n 2, 1) := by decide +kernel
theorem d_Mo_second_183 : decode prog_13_method_48_code 183 = .ok (.iconst 4, 1) := by decide +kernel
theorem d_Mo_second_184 : decode prog_13_method_48_code 184 = .ok (.invokevirtual 152, 3) := by decide +kernel
theorem d_Mo_second_187 : decode prog_13_method_48_code 187 = .ok (.iload_n 3, 1) := by decide +kernel
theorem d_Mo_second_188 : decode prog_13_method_48_code 188 = .ok (.if_icmp .ne 7, 3) := by decide +kernel
theorem d_Mo_second_191 : decode prog_13_method_48_code 191 = .ok (.iconst 1, 1) := by decide +kernel
theorem d_Mo_second_192 : decode prog_13_method_48_code 192 = .ok (.goto 4, 3) := by decide +kernel
theorem d_Mo_second_195 : decode prog_13_method_48_code 195 = .ok (.iconst 0, 1) := by decide +kernel
theorem d_Mo_second_196 : decode prog_13_method_48_code 196 = .ok (.invokevirtual 222, 3) := by decide +kernel
theorem d_Mo_second_199 : decode prog_13_method_48_code 199 = .ok (.goto 142, 3) := by decide +kernel
theorem d_Mo_second_202 : decode prog_13_method_48_code 202 = .ok (.iload_n 1, 1) := by decide +kernel
theorem d_Mo_second_203 : decode prog_13_method_48_code 203 = .ok (.bipush 7, 2) := by decide +kernel
theorem d_Mo_second_205 : decode prog_13_method_48_code 205 = .ok (.if_icmp .ne 22, 3) := by decide +kernel
theorem d_Mo_second_208 : decode prog_13_method_48_code 208 = .ok (.aload_n 0, 1) := by decide +kernel
theorem d_Mo_second_209 : decode prog_13_method_48_code 209 = .ok (.iload_n 2, 1) := by decide +kernel
theorem d_Mo_second_210 : decode prog_13_method_48_code 210 = .ok (.iload_n 3, 1) := by decide +kernel
theorem d_Mo_second_211 : decode prog_13_method_48_code 211 = .ok (.iand, 1) := by decide +kernel
theorem d_Mo_second_212 : decode prog_13_method_48_code 212 = .ok (.iload_n 3, 1) := by decide +kernel
theorem d_Mo_second_213 : decode prog_13_method_48_code 213 = .ok (.if_icmp .ne 7, 3) := by decide +kernel
theorem d_Mo_second_216 : decode prog_13_method_48_code 216 = .ok (.iconst 1, 1) := by decide +kernel
theorem d_Mo_second_217 : decode prog_13_method_48_code 217 = .ok (.goto 4, 3) := by decide +kernel
theorem d_Mo_second_220 : decode prog_13_method_48_code 220 = .ok (.iconst 0, 1) := by decide +kernel
theorem d_Mo_second_221 : decode prog_13_method_48_code 221 = .ok (.invokevirtual 222, 3) := by decide +kernel
theorem d_Mo_second_224 : decode prog_13_method_48_code 224 = .ok (.goto 117, 3) := by decide +kernel
theorem d_Mo_second_227 : decode prog_13_method_48_code 227 = .ok (.iload_n 1, 1) := by decide +kernel
theorem d_Mo_second_228 : decode prog_13_method_48_code 228 = .ok (.bipush 8, 2) := by decide +kernel
theorem d_Mo_second_230 : decode prog_13_method_48_code 230 = .ok (.if_icmp .ne 13, 3) := by decide +kernel
theorem d_Mo_second_233 : decode prog_13_method_48_code 233 = .ok (.aload_n 0, 1) := by decide +kernel
theorem d_Mo_second_234 : decode prog_13_method_48_code 234 = .ok (.iload_n 2, 1) := by decide +kernel
theorem d_Mo_second_235 : decode prog_13_method_48_code 235 = .ok (.iload_n 3, 1) := by decide +kernel
theorem d_Mo_second_236 : decode prog_13_method_48_code 236 = .ok (.ior, 1) := by decide +kernel
theorem d_Mo_second_237 : decode prog_13_method_48_code 237 = .ok (.invokevirtual 216, 3) := by decide +kernel
theorem d_Mo_second_240 : decode prog_13_method_48_code 240 = .ok (.goto 101, 3) := by decide +kernel
theorem d_Mo_second_243 : decode prog_13_method_48_code 243 = .ok (.iload_n 1, 1) := by decide +kernel
theorem d_Mo_second_244 : decode prog_13_method_48_code 244 = .ok (.bipush 9, 2) := by decide +kernel
theorem d_Mo_second_246 : decode prog_13_method_48_code 246 = .ok (.if_icmp .ne 13, 3) := by decide +kernel
theorem d_Mo_second_249 : decode prog_13_method_48_code 249 = .ok (.aload_n 0, 1) := by decide +kernel
theorem d_Mo_second_250 : decode prog_13_method_48_code 250 = .ok (.iload_n 2, 1) := by decide +kernel
theorem d_Mo_second_251 : decode prog_13_method_48_code 251 = .ok (.iload_n 3, 1) := by decide +kernel
theorem d_Mo_second_252 : decode prog_13_method_48_code 252 = .ok (.iand, 1) := by decide +kernel
theorem d_Mo_second_253 : decode prog_13_method_48_code 253 = .ok (.invokevirtual 216, 3) := by decide +kernel
theorem d_Mo_second_256 : decode prog_13_method_48_code 256 = .ok (.goto 85, 3) := by decide +kernel
theorem d_Mo_second_259 : decode prog_13_method_48_code 259 = .ok (.iload_n 1, 1) := by decide +kernel
theorem d_Mo_second_260 : decode prog_13_method_48_code 260 = .ok (.bipush 10, 2) := by decide +kernel
theorem d_Mo_second_262 : decode prog_13_method_48_code 262 = .ok (.if_icmp .ne 16, 3) := by decide +kernel
theorem d_Mo_second_265 : decode prog_13_method_48_code 265 = .ok (.aload_n 0, 1) := by decide +kernel
theorem d_Mo_second_266 : decode prog_13_method_48_code 266 = .ok (.aload_n 0, 1) := by decide +kernel
theorem d_Mo_second_267 : decode prog_13_method_48_code 267 = .ok (.iload_n 2, 1) := by decide +kernel
theorem d_Mo_second_268 : decode prog_13_method_48_code 268 = .ok (.iload_n 3, 1) := by decide +kernel
theorem d_Mo_second_269 : decode prog_13_method_48_code 269 = .ok (.invokevirtual 148, 3) := by decide +kernel
theorem d_Mo_second_272 : decode prog_13_method_48_code 272 = .ok (.invokevirtual 222, 3) := by decide +kernel
theorem d_Mo_second_275 : decode prog_13_method_48_code 275 = .ok (.goto 66, 3) := by decide +kernel
theorem d_Mo_second_278 : decode prog_13_method_48_code 278 = .ok (.iload_n 1, 1) := by decide +kernel
theorem d_Mo_second_279 : decode prog_13_method_48_code 279 = .ok (.bipush 13, 2) := by decide +kernel
theorem d_Mo_second_281 : decode prog_13_method_48_code 281 = .ok (.if_icmp .ne 12, 3) := by decide +kernel
theorem d_Mo_second_284 : decode prog_13_method_48_code 284 = .ok (.aload_n 0, 1) := by decide +kernel
theorem d_Mo_second_285 : decode prog_13_method_48_code 285 = .ok (.iload_n 2, 1) := by decide +kernel
theorem d_Mo_second_286 : decode prog_13_method_48_code 286 = .ok (.iload_n 3, 1) := by decide +kernel
theorem d_Mo_second_287 : decode prog_13_method_48_code 287 = .ok (.invokevirtual 111, 3) := by decide +kernel
theorem d_Mo_second_290 : decode prog_13_method_48_code 290 = .ok (.goto 51, 3) := by decide +kernel
theorem d_Mo_second_293 : decode prog_13_method_48_code 293 = .ok (.iload_n 1, 1) := by decide +kernel
theorem d_Mo_second_294 : decode prog_13_method_48_code 294 = .ok (.bipush 14, 2) := by decide +kernel
theorem d_Mo_second_296 : decode prog_13_method_48_code 296 = .ok (.if_icmp .ne 12, 3) := by decide +kernel
theorem d_Mo_second_299 : decode prog_13_method_48_code 299 = .ok (.aload_n 0, 1) := by decide +kernel
theorem d_Mo_second_300 : decode prog_13_method_48_code 300 = .ok (.iload_n 2, 1) := by decide +kernel
theorem d_Mo_second_301 : decode prog_13_method_48_code 301 = .ok (.iload_n 3, 1) := by decide +kernel
theorem d_Mo_second_302 : decode prog_13_method_48_code 302 = .ok (.invokevirtual 229, 3) := by decide +kernel
theorem d_Mo_second_305 : decode prog_13_method_48_code 305 = .ok (.goto 36, 3) := by decide +kernel
theorem d_Mo_second_308 : decode prog_13_method_48_code 308 = .ok (.iload_n 1, 1) := by decide +kernel
theorem d_Mo_second_309 : decode prog_13_method_48_code 309 = .ok (.bipush 15, 2) := by decide +kernel
theorem d_Mo_second_311 : decode prog_13_method_48_code 311 = .ok (.if_icmp .ge 23, 3) := by decide +kernel
theorem d_Mo_second_314 : decode prog_13_method_48_code 314 = .ok (.aload_n 0, 1) := by decide +kernel
theorem d_Mo_second_315 : decode prog_13_method_48_code 315 = .ok (.iload_n 2, 1) := by decide +kernel
theorem d_Mo_second_316 : decode prog_13_method_48_code 316 = .ok (.iload_n 3, 1) := by decide +kernel
theorem d_Mo_second_317 : decode prog_13_method_48_code 317 = .ok (.iload_n 1, 1) := by decide +kernel
theorem d_Mo_second_318 : decode prog_13_method_48_code 318 = .ok (.bipush 11, 2) := by decide +kernel
theorem d_Mo_second_320 : decode prog_13_method_48_code 320 = .ok (.if_icmp .ne 7, 3) := by decide +kernel
theorem d_Mo_second_323 : decode prog_13_method_48_code 323 = .ok (.iconst 1, 1) := by decide +kernel
theorem d_Mo_second_324 : decode prog_13_method_48_code 324 = .ok (.goto 4, 3) := by decide +kernel
theorem d_Mo_second_327 : decode prog_13_method_48_code 327 = .ok (.iconst 0, 1) := by decide +kernel
theorem d_Mo_second_328 : decode prog_13_method_48_code 328 = .ok (.invokevirtual 232, 3) := by decide +kernel
theorem d_Mo_second_331 : decode prog_13_method_48_code 331 = .ok (.goto 10, 3) := by decide +kernel
theorem d_Mo_second_334 : decode prog_13_method_48_code 334 = .ok (.aload_n 0, 1) := by decide +kernel
theorem d_Mo_second_335 : decode prog_13_method_48_code 335 = .ok (.iload_n 1, 1) := by decide +kernel
theorem d_Mo_second_336 : decode prog_13_method_48_code 336 = .ok (.iload_n 2, 1) := by decide +kernel
theorem d_Mo_second_337 : decode prog_13_method_48_code 337 = .ok (.iload_n 3, 1) := by decide +kernel
theorem d_Mo_second_338 : decode prog_13_method_48_code 338 = .ok (.invokevirtual 236, 3) := by decide +kernel
theorem d_Mo_second_341 : decode prog_13_method_48_code 341 = .ok (.return_, 1) := by decide +kernel
theorem d_Mo_reckon_0 : decode prog_13_method_49_code 0 = .ok (.iconst 0, 1) := by decide +kernel
theorem d_Mo_reckon_1 : decode prog_13_method_49_code 1 = .ok (.istore 4, 2) := by decide +kernel
theorem d_Mo_reckon_3 : decode prog_13_method_49_code 3 = .ok (.iload_n 1, 1) := by decide +kernel
theorem d_Mo_reckon_4 : decode prog_13_method_49_code 4 = .ok (.bipush 15, 2) := by decide +kernel
theorem d_Mo_reckon_6 : decode prog_13_method_49_code 6 = .ok (.if_icmp .ne 17, 3) := by decide +kernel
theorem d_Mo_reckon_9 : decode prog_13_method_49_code 9 = .ok (.aload_n 0, 1) := by decide +kernel
theorem d_Mo_reckon_10 : decode prog_13_method_49_code 10 = .ok (.iload_n 2, 1) := by decide +kernel
theorem d_Mo_reckon_11 : decode prog_13_method_49_code 11 = .ok (.iconst 2, 1) := by decide +kernel
theorem d_Mo_reckon_12 : decode prog_13_method_49_code 12 = .ok (.iload_n 3, 1) := by decide +kernel
theorem d_Mo_reckon_13 : decode prog_13_method_49_code 13 = .ok (.imul, 1) := by decide +kernel
theorem d_Mo_reckon_14 : decode prog_13_method_49_code 14 = .ok (.iadd, 1) := by decide +kernel
theorem d_Mo_reckon_15 : decode prog_13_method_49_code 15 = .ok (.invokevirtual 100, 3) := by decide +kernel
theorem d_Mo_reckon_18 : decode prog_13_method_49_code 18 = .ok (.istore 4, 2) := by decide +kernel
theorem d_Mo_reckon_20 : decode prog_13_method_49_code 20 = .ok (.goto 160, 3) := by decide +kernel
theorem d_Mo_reckon_23 : decode prog_13_method_49_code 23 = .ok (.iload_n 1, 1) := by decide +kernel
theorem d_Mo_reckon_24 : decode prog_13_method_49_code 24 = .ok (.bipush 16, 2) := by decide +kernel
theorem d_Mo_reckon_26 : decode prog_13_method_49_code 26 = .ok (.if_icmp .ne 15, 3) := by decide +kernel
theorem d_Mo_reckon_29 : decode prog_13_method_49_code 29 = .ok (.aload_n 0, 1) := by decide +kernel
theorem d_Mo_reckon_30 : decode prog_13_method_49_code 30 = .ok (.iload_n 2, 1) := by decide +kernel
theorem d_Mo_reckon_31 : decode prog_13_method_49_code 31 = .ok (.iload_n 3, 1) := by decide +kernel
theorem d_Mo_reckon_32 : decode prog_13_method_49_code 32 = .ok (.iadd, 1) := by decide +kernel
theorem d_Mo_reckon_33 : decode prog_13_method_49_code 33 = .ok (.invokevirtual 86, 3) := by decide +kernel
theorem d_Mo_reckon_36 : decode prog_13_method_49_code 36 = .ok (.istore 4, 2) := by decide +kernel
theorem d_Mo_reckon_38 : decode prog_13_method_49_code 38 = .ok (.goto 142, 3) := by decide +kernel
theorem d_Mo_reckon_41 : decode prog_13_method_49_code 41 = .ok (.iload_n 1, 1) := by decide +kernel
theorem d_Mo_reckon_42 : decode prog_13_method_49_code 42 = .ok (.bipush 17, 2) := by decide +kernel
theorem d_Mo_reckon_44 : decode prog_13_method_49_code 44 = .ok (.if_icmp .ne 14, 3) := by decide +kernel
theorem d_Mo_reckon_47 : decode prog_13_method_49_code 47 = .ok (.aload_n 0, 1) := by decide +kernel
theorem d_Mo_reckon_48 : decode prog_13_method_49_code 48 = .ok (.iload_n 2, 1) := by decide +kernel
theorem d_Mo_reckon_49 : decode prog_13_method_49_code 49 = .ok (.iload_n 3, 1) := by decide +kernel
theorem d_Mo_reckon_50 : decode prog_13_method_49_code 50 = .ok (.invokevirtual 239, 3) := by decide +kernel
theorem d_Mo_reckon_53 : decode prog_13_method_49_code 53 = .ok (.istore 4, 2) := by decide +kernel
theorem d_Mo_reckon_55 : decode prog_13_method_49_code 55 = .ok (.goto 125, 3) := by decide +kernel
theorem d_Mo_reckon_58 : decode prog_13_method_49_code 58 = .ok (.iload_n 1, 1) := by decide +kernel
theorem d_Mo_reckon_59 : decode prog_13_method_49_code 59 = .ok (.bipush 18, 2) := by decide +kernel
theorem d_Mo_reckon_61 : decode prog_13_method_49_code 61 = .ok (.if_icmp .ne 14, 3) := by decide +kernel
theorem d_Mo_reckon_64 : decode prog_13_method_49_code 64 = .ok (.aload_n 0, 1) := by decide +kernel
theorem d_Mo_reckon_65 : decode prog_13_method_49_code 65 = .ok (.iload_n 2, 1) := by decide +kernel
theorem d_Mo_reckon_66 : decode prog_13_method_49_code 66 = .ok (.iload_n 3, 1) := by decide +kernel
theorem d_Mo_reckon_67 : decode prog_13_method_49_code 67 = .ok (.invokevirtual 169, 3) := by decide +kernel
theorem d_Mo_reckon_70 : decode prog_13_method_49_code 70 = .ok (.istore 4, 2) := by decide +kernel
theorem d_Mo_reckon_72 : decode prog_13_method_49_code 72 = .ok (.goto 108, 3) := by decide +kernel
theorem d_Mo_reckon_75 : decode prog_13_method_49_code 75 = .ok (.iload_n 1, 1) := by decide +kernel
theorem d_Mo_reckon_76 : decode prog_13_method_49_code 76 = .ok (.bipush 19, 2) := by decide +kernel
theorem d_Mo_reckon_78 : decode prog_13_method_49_code 78 = .ok (.if_icmp .ne 14, 3) := by decide +kernel
theorem d_Mo_reckon_81 : decode prog_13_method_49_code 81 = .ok (.aload_n 0, 1) := by decide +kernel
theorem d_Mo_reckon_82 : decode prog_13_method_49_code 82 = .ok (.iload_n 2, 1) := by decide +kernel
theorem d_Mo_reckon_83 : decode prog_13_method_49_code 83 = .ok (.iload_n 3, 1) := by decide +kernel
theorem d_Mo_reckon_84 : decode prog_13_method_49_code 84 = .ok (.invokevirtual 242, 3) := by decide +kernel
theorem d_Mo_reckon_87 : decode prog_13_method_49_code 87 = .ok (.istore 4, 2) := by decide +kernel
theorem d_Mo_reckon_89 : decode prog_13_method_49_code 89 = .ok (.goto 91, 3) := by decide +kernel
theorem d_Mo_reckon_92 : decode prog_13_method_49_code 92 = .ok (.iload_n 1, 1) := by decide +kernel
theorem d_Mo_reckon_93 : decode prog_13_method_49_code 93 = .ok (.bipush 20, 2) := by decide +kernel
theorem d_Mo_reckon_95 : decode prog_13_method_49_code 95 = .ok (.if_icmp .ne 11, 3) := by decide +kernel
theorem d_Mo_reckon_98 : decode prog_13_method_49_code 98 = .ok (.iload_n 2, 1) := by decide +kernel
theorem d_Mo_reckon_99 : decode prog_13_method_49_code 99 = .ok (.iload_n 3, 1) := by decide +kernel
theorem d_Mo_reckon_100 : decode prog_13_method_49_code 100 = .ok (.iadd, 1) := by decide +kernel
theorem d_Mo_reckon_101 : decode prog_13_method_49_code 101 = .ok (.istore 4, 2) := by decide +kernel
theorem d_Mo_reckon_103 : decode prog_13_method_49_code 103 = .ok (.goto 77, 3) := by decide +kernel
theorem d_Mo_reckon_106 : decode prog_13_method_49_code 106 = .ok (.iload_n 1, 1) := by decide +kernel
theorem d_Mo_reckon_107 : decode prog_13_method_49_code 107 = .ok (.bipush 21, 2) := by decide +kernel
theorem d_Mo_reckon_109 : decode prog_13_method_49_code 109 = .ok (.if_icmp .ne 11, 3) := by decide +kernel
theorem d_Mo_reckon_112 : decode prog_13_method_49_code 112 = .ok (.iload_n 2, 1) := by decide +kernel
theorem d_Mo_reckon_113 : decode prog_13_method_49_code 113 = .ok (.iload_n 3, 1) := by decide +kernel
theorem d_Mo_reckon_114 : decode prog_13_method_49_code 114 = .ok (.isub, 1) := by decide +kernel
theorem d_Mo_reckon_115 : decode prog_13_method_49_code 115 = .ok (.istore 4, 2) := by decide +kernel
theorem d_Mo_reckon_117 : decode prog_13_method_49_code 117 = .ok (.goto 63, 3) := by decide +kernel
theorem d_Mo_reckon_120 : decode prog_13_method_49_code 120 = .ok (.iload_n 1, 1) := by decide +kernel
theorem d_Mo_reckon_121 : decode prog_13_method_49_code 121 = .ok (.bipush 22, 2) := by decide +kernel
theorem d_Mo_reckon_123 : decode prog_13_method_49_code 123 = .ok (.if_icmp .ne 11, 3) := by decide +kernel
theorem d_Mo_reckon_126 : decode prog_13_method_49_code 126 = .ok (.iload_n 2, 1) := by decide +kernel
theorem d_Mo_reckon_127 : decode prog_13_method_49_code 127 = .ok (.iload_n 3, 1) := by decide +kernel
theorem d_Mo_reckon_128 : decode prog_13_method_49_code 128 = .ok (.imul, 1) := by decide +kernel
theorem d_Mo_reckon_129 : decode prog_13_method_49_code 129 = .ok (.istore 4, 2) := by decide +kernel
theorem d_Mo_reckon_131 : decode prog_13_method_49_code 131 = .ok (.goto 49, 3) := by decide +kernel
theorem d_Mo_reckon_134 : decode prog_13_method_49_code 134 = .ok (.aload_n 0, 1) := by decide +kernel
theorem d_Mo_reckon_135 : decode prog_13_method_49_code 135 = .ok (.iload_n 3, 1) := by decide +kernel
theorem d_Mo_reckon_136 : decode prog_13_method_49_code 136 = .ok (.ifCond .eq 7, 3) := by decide +kernel
theorem d_Mo_reckon_139 : decode prog_13_method_49_code 139 = .ok (.iconst 1, 1) := by decide +kernel
theorem d_Mo_reckon_140 : decode prog_13_method_49_code 140 = .ok (.goto 4, 3) := by decide +kernel
theorem d_Mo_reckon_143 : decode prog_13_method_49_code 143 = .ok (.iconst 0, 1) := by decide +kernel
theorem d_Mo_reckon_144 : decode prog_13_method_49_code 144 = .ok (.iconst 3, 1) := by decide +kernel
theorem d_Mo_reckon_145 : decode prog_13_method_49_code 145 = .ok (.invokevirtual 82, 3) := by decide +kernel
theorem d_Mo_reckon_148 : decode prog_13_method_49_code 148 = .ok (.ifCond .eq 32, 3) := by decide +kernel
theorem d_Mo_reckon_151 : decode prog_13_method_49_code 151 = .ok (.iload_n 1, 1) := by decide +kernel
theorem d_Mo_reckon_152 : decode prog_13_method_49_code 152 = .ok (.bipush 23, 2) := by decide +kernel
theorem d_Mo_reckon_154 : decode prog_13_method_49_code 154 = .ok (.if_icmp .ne 15, 3) := by decide +kernel
theorem d_Mo_reckon_157 : decode prog_13_method_49_code 157 = .ok (.iload_n 2, 1) := by decide +kernel
theorem d_Mo_reckon_158 : decode prog_13_method_49_code 158 = .ok (.invokestatic 219, 3) := by decide +kernel
theorem d_Mo_reckon_161 : decode prog_13_method_49_code 161 = .ok (.iload_n 3, 1) := by decide +kernel
theorem d_Mo_reckon_162 : decode prog_13_method_49_code 162 = .ok (.invokestatic 219, 3) := by decide +kernel
theorem d_Mo_reckon_165 : decode prog_13_method_49_code 165 = .ok (.idiv, 1) := by decide +kernel
theorem d_Mo_reckon_166 : decode prog_13_method_49_code 166 = .ok (.goto 12, 3) := by decide +kernel
theorem d_Mo_reckon_169 : decode prog_13_method_49_code 169 = .ok (.iload_n 2, 1) := by decide +kernel
theorem d_Mo_reckon_170 : decode prog_13_method_49_code 170 = .ok (.invokestatic 219, 3) := by decide +kernel
theorem d_Mo_reckon_173 : decode prog_13_method_49_code 173 = .ok (.iload_n 3, 1) := by decide +kernel
theorem d_Mo_reckon_174 : decode prog_13_method_49_code 174 = .ok (.invokestatic 219, 3) := by decide +kernel
theorem d_Mo_reckon_177 : decode prog_13_method_49_code 177 = .ok (.irem, 1) := by decide +kernel
theorem d_Mo_reckon_178 : decode prog_13_method_49_code 178 = .ok (.istore 4, 2) := by decide +kernel
theorem d_Mo_reckon_180 : decode prog_13_method_49_code 180 = .ok (.aload_n 0, 1) := by decide +kernel
theorem d_Mo_reckon_181 : decode prog_13_method_49_code 181 = .ok (.getfield 77, 3) := by decide +kernel
theorem d_Mo_reckon_184 : decode prog_13_method_49_code 184 = .ok (.ifCond .ne 9, 3) := by decide +kernel
theorem d_Mo_reckon_187 : decode prog_13_method_49_code 187 = .ok (.aload_n 0, 1) := by decide +kernel
theorem d_Mo_reckon_188 : decode prog_13_method_49_code 188 = .ok (.iload 4, 2) := by decide +kernel
theorem d_Mo_reckon_190 : decode prog_13_method_49_code 190 = .ok (.invokevirtual 216, 3) := by decide +kernel
theorem d_Mo_reckon_193 : decode prog_13_method_49_code 193 = .ok (.return_, 1) := by decide +kernel
theorem d_Mo_propertyBehind_0 : decode prog_13_method_34_code 0 = .ok (.iload_n 2, 1) := by decide +kernel
theorem d_Mo_propertyBehind_1 : decode prog_13_method_34_code 1 = .ok (.ifCond .ne 11, 3) := by decide +kernel
theorem d_Mo_propertyBehind_4 : decode prog_13_method_34_code 4 = .ok (.aload_n 0, 1) := by decide +kernel
theorem d_Mo_propertyBehind_5 : decode prog_13_method_34_code 5 = .ok (.iload_n 1, 1) := by decide +kernel
theorem d_Mo_propertyBehind_6 : decode prog_13_method_34_code 6 = .ok (.invokevirtual 163, 3) := by decide +kernel
theorem d_Mo_propertyBehind_9 : decode prog_13_method_34_code 9 = .ok (.goto 9, 3) := by decide +kernel
theorem d_Mo_propertyBehind_12 : decode prog_13_method_34_code 12 = .ok (.aload_n 0, 1) := by decide +kernel
theorem d_Mo_propertyBehind_13 : decode prog_13_method_34_code 13 = .ok (.iload_n 1, 1) := by decide +kernel
theorem d_Mo_propertyBehind_14 : decode prog_13_method_34_code 14 = .ok (.iload_n 2, 1) := by decide +kernel
theorem d_Mo_propertyBehind_15 : decode prog_13_method_34_code 15 = .ok (.invokevirtual 169, 3) := by decide +kernel
theorem d_Mo_propertyBehind_18 : decode prog_13_method_34_code 18 = .ok (.istore_n 3, 1) := by decide +kernel
theorem d_Mo_propertyBehind_19 : decode prog_13_method_34_code 19 = .ok (.aload_n 0, 1) := by decide +kernel
theorem d_Mo_propertyBehind_20 : decode prog_13_method_34_code 20 = .ok (.getfield 77, 3) := by decide +kernel
theorem d_Mo_propertyBehind_23 : decode prog_13_method_34_code 23 = .ok (.ifCond .gt 24, 3) := by decide +kernel
theorem d_Mo_propertyBehind_26 : decode prog_13_method_34_code 26 = .ok (.aload_n 0, 1) := by decide +kernel
theorem d_Mo_propertyBehind_27 : decode prog_13_method_34_code 27 = .ok (.iload_n 2, 1) := by decide +kernel
theorem d_Mo_propertyBehind_28 : decode prog_13_method_34_code 28 = .ok (.ifCond .eq 7, 3) := by decide +kernel
theorem d_Mo_propertyBehind_31 : decode prog_13_method_34_code 31 = .ok (.iload_n 3, 1) := by decide +kernel
theorem d_Mo_propertyBehind_32 : decode prog_13_method_34_code 32 = .ok (.ifCond .le 7, 3) := by decide +kernel
theorem d_Mo_propertyBehind_35 : decode prog_13_method_34_code 35 = .ok (.iconst 1, 1) := by decide +kernel
theorem d_Mo_propertyBehind_36 : decode prog_13_method_34_code 36 = .ok (.goto 4, 3) := by decide +kernel
theorem d_Mo_propertyBehind_39 : decode prog_13_method_34_code 39 = .ok (.iconst 0, 1) := by decide +kernel
theorem d_Mo_propertyBehind_40 : decode prog_13_method_34_code 40 = .ok (.iconst 1, 1) := by decide +kernel
theorem d_Mo_propertyBehind_41 : decode prog_13_method_34_code 41 = .ok (.invokevirtual 82, 3) := by decide +kernel
theorem d_Mo_propertyBehind_44 : decode prog_13_method_34_code 44 = .ok (.ifCond .ne 5, 3) := by decide +kernel
theorem d_Mo_propertyBehind_47 : decode prog_13_method_34_code 47 = .ok (.iconst 0, 1) := by decide +kernel
theorem d_Mo_propertyBehind_48 : decode prog_13_method_34_code 48 = .ok (.ireturn, 1) := by decide +kernel
theorem d_Mo_propertyBehind_49 : decode prog_13_method_34_code 49 = .ok (.aload_n 0, 1) := by decide +kernel
theorem d_Mo_propertyBehind_50 : decode prog_13_method_34_code 50 = .ok (.iload_n 2, 1) := by decide +kernel
theorem d_Mo_propertyBehind_51 : decode prog_13_method_34_code 51 = .ok (.ifCond .ne 7, 3) := by decide +kernel
theorem d_Mo_propertyBehind_54 : decode prog_13_method_34_code 54 = .ok (.iload_n 3, 1) := by decide +kernel
theorem d_Mo_propertyBehind_55 : decode prog_13_method_34_code 55 = .ok (.goto 10, 3) := by decide +kernel
theorem d_Mo_propertyBehind_58 : decode prog_13_method_34_code 58 = .ok (.iload_n 3, 1) := by decide +kernel
theorem d_Mo_propertyBehind_59 : decode prog_13_method_34_code 59 = .ok (.aload_n 0, 1) := by decide +kernel
theorem d_Mo_propertyBehind_60 : decode prog_13_method_34_code 60 = .ok (.iload_n 3, 1) := by decide +kernel
theorem d_Mo_propertyBehind_61 : decode prog_13_method_34_code 61 = .ok (.invokevirtual 172, 3) := by decide +kernel
theorem d_Mo_propertyBehind_64 : decode prog_13_method_34_code 64 = .ok (.iadd, 1) := by decide +kernel
theorem d_Mo_propertyBehind_65 : decode prog_13_method_34_code 65 = .ok (.invokevirtual 86, 3) := by decide +kernel
theorem d_Mo_propertyBehind_68 : decode prog_13_method_34_code 68 = .ok (.bipush 32, 2) := by decide +kernel
theorem d_Mo_propertyBehind_70 : decode prog_13_method_34_code 70 = .ok (.irem, 1) := by decide +kernel
theorem d_Mo_propertyBehind_71 : decode prog_13_method_34_code 71 = .ok (.ireturn, 1) := by decide +kernel
theorem d_Mo_property_0 : decode prog_13_method_32_code 0 = .ok (.aload_n 0, 1) := by decide +kernel
theorem d_Mo_property_1 : decode prog_13_method_32_code 1 = .ok (.iload_n 1, 1) := by decide +kernel
theorem d_Mo_property_2 : decode prog_13_method_32_code 2 = .ok (.iload_n 2, 1) := by decide +kernel
theorem d_Mo_property_3 : decode prog_13_method_32_code 3 = .ok (.invokevirtual 169, 3) := by decide +kernel
theorem d_Mo_property_6 : decode prog_13_method_32_code 6 = .ok (.istore_n 3, 1) := by decide +kernel
theorem d_Mo_property_7 : decode prog_13_method_32_code 7 = .ok (.aload_n 0, 1) := by decide +kernel
theorem d_Mo_property_8 : decode prog_13_method_32_code 8 = .ok (.getfield 77, 3) := by decide +kernel
theorem d_Mo_property_11 : decode prog_13_method_32_code 11 = .ok (.ifCond .le 5, 3) := by decide +kernel
theorem d_Mo_property_14 : decode prog_13_method_32_code 14 = .ok (.iconst 0, 1) := by decide +kernel
theorem d_Mo_property_15 : decode prog_13_method_32_code 15 = .ok (.ireturn, 1) := by decide +kernel
theorem d_Mo_property_16 : decode prog_13_method_32_code 16 = .ok (.iload_n 3, 1) := by decide +kernel
theorem d_Mo_property_17 : decode prog_13_method_32_code 17 = .ok (.ifCond .ne 47, 3) := by decide +kernel
theorem d_Mo_property_20 : decode prog_13_method_32_code 20 = .ok (.aload_n 0, 1) := by decide +kernel
theorem d_Mo_property_21 : decode prog_13_method_32_code 21 = .ok (.iload_n 2, 1) := by decide +kernel
theorem d_Mo_property_22 : decode prog_13_method_32_code 22 = .ok (.ifCond .le 13, 3) := by decide +kernel
theorem d_Mo_property_25 : decode prog_13_method_32_code 25 = .ok (.iload_n 2, 1) := by decide +kernel
theorem d_Mo_property_26 : decode prog_13_method_32_code 26 = .ok (.bipush 8, 2) := by decide +kernel
theorem d_Mo_property_28 : decode prog_13_method_32_code 28 = .ok (.if_icmp .ge 7, 3) := by decide +kernel
theorem d_Mo_property_31 : decode prog_13_method_32_code 31 = .ok (.iconst 1, 1) := by decide +kernel
theorem d_Mo_property_32 : decode prog_13_method_32_code 32 = .ok (.goto 4, 3) := by decide +kernel
theorem d_Mo_property_35 : decode prog_13_method_32_code 35 = .ok (.iconst 0, 1) := by decide +kernel
theorem d_Mo_property_36 : decode prog_13_method_32_code 36 = .ok (.iconst 1, 1) := by decide +kernel
theorem d_Mo_property_37 : decode prog_13_method_32_code 37 = .ok (.invokevirtual 82, 3) := by decide +kernel
theorem d_Mo_property_40 : decode prog_13_method_32_code 40 = .ok (.ifCond .eq 22, 3) := by decide +kernel
theorem d_Mo_property_43 : decode prog_13_method_32_code 43 = .ok (.aload_n 0, 1) := by decide +kernel
theorem d_Mo_property_44 : decode prog_13_method_32_code 44 = .ok (.aload_n 0, 1) := by decide +kernel
theorem d_Mo_property_45 : decode prog_13_method_32_code 45 = .ok (.bipush 8, 2) := by decide +kernel
theorem d_Mo_property_47 : decode prog_13_method_32_code 47 = .ok (.invokevirtual 100, 3) := by decide +kernel
theorem d_Mo_property_50 : decode prog_13_method_32_code 50 = .ok (.iconst 2, 1) := by decide +kernel
theorem d_Mo_property_51 : decode prog_13_method_32_code 51 = .ok (.iload_n 2, 1) := by decide +kernel
theorem d_Mo_property_52 : decode prog_13_method_32_code 52 = .ok (.iconst 1, 1) := by decide +kernel
theorem d_Mo_property_53 : decode prog_13_method_32_code 53 = .ok (.isub, 1) := by decide +kernel
theorem d_Mo_property_54 : decode prog_13_method_32_code 54 = .ok (.imul, 1) := by decide +kernel
theorem d_Mo_property_55 : decode prog_13_method_32_code 55 = .ok (.iadd, 1) := by decide +kernel
theorem d_Mo_property_56 : decode prog_13_method_32_code 56 = .ok (.invokevirtual 100, 3) := by decide +kernel
theorem d_Mo_property_59 : decode prog_13_method_32_code 59 = .ok (.goto 4, 3) := by decide +kernel
theorem d_Mo_property_62 : decode prog_13_method_32_code 62 = .ok (.iconst 0, 1) := by decide +kernel
theorem d_Mo_property_63 : decode prog_13_method_32_code 63 = .ok (.ireturn, 1) := by decide +kernel
theorem d_Mo_property_64 : decode prog_13_method_32_code 64 = .ok (.aload_n 0, 1) := by decide +kernel
theorem d_Mo_property_65 : decode prog_13_method_32_code 65 = .ok (.iload_n 3, 1) := by decide +kernel
theorem d_Mo_property_66 : decode prog_13_method_32_code 66 = .ok (.invokevirtual 172, 3) := by decide +kernel
theorem d_Mo_property_69 : decode prog_13_method_32_code 69 = .ok (.istore 4, 2) := by decide +kernel
theorem d_Mo_property_71 : decode prog_13_method_32_code 71 = .ok (.aload_n 0, 1) := by decide +kernel
theorem d_Mo_property_72 : decode prog_13_method_32_code 72 = .ok (.iload 4, 2) := by decide +kernel
theorem d_Mo_property_74 : decode prog_13_method_32_code 74 = .ok (.iconst 3, 1) := by decide +kernel
theorem d_Mo_property_75 : decode prog_13_method_32_code 75 = .ok (.if_icmp .ge 7, 3) := by decide +kernel
theorem d_Mo_property_78 : decode prog_13_method_32_code 78 = .ok (.iconst 1, 1) := by decide +kernel
theorem d_Mo_property_79 : decode prog_13_method_32_code 79 = .ok (.goto 4, 3) := by decide +kernel
theorem d_Mo_property_82 : decode prog_13_method_32_code 82 = .ok (.iconst 0, 1) := by decide +kernel
theorem d_Mo_property_83 : decode prog_13_method_32_code 83 = .ok (.iconst 1, 1) := by decide +kernel
theorem d_Mo_property_84 : decode prog_13_method_32_code 84 = .ok (.invokevirtual 82, 3) := by decide +kernel
theorem d_Mo_property_87 : decode prog_13_method_32_code 87 = .ok (.ifCond .ne 5, 3) := by decide +kernel
theorem d_Mo_property_90 : decode prog_13_method_32_code 90 = .ok (.iconst 0, 1) := by decide +kernel
theorem d_Mo_property_91 : decode prog_13_method_32_code 91 = .ok (.ireturn, 1) := by decide +kernel
theorem d_Mo_property_92 : decode prog_13_method_32_code 92 = .ok (.iload 4, 2) := by decide +kernel
theorem d_Mo_property_94 : decode prog_13_method_32_code 94 = .ok (.iconst 1, 1) := by decide +kernel
theorem d_Mo_property_95 : decode prog_13_method_32_code 95 = .ok (.if_icmp .ne 11, 3) := by decide +kernel
theorem d_Mo_property_98 : decode prog_13_method_32_code 98 = .ok (.aload_n 0, 1) := by decide +kernel
theorem d_Mo_property_99 : decode prog_13_method_32_code 99 = .ok (.iload_n 3, 1) := by decide +kernel
theorem d_Mo_property_100 : decode prog_13_method_32_code 100 = .ok (.invokevirtual 86, 3) := by decide +kernel
theorem d_Mo_property_103 : decode prog_13_method_32_code 103 = .ok (.goto 8, 3) := by decide +kernel
theorem d_Mo_property_106 : decode prog_13_method_32_code 106 = .ok (.aload_n 0, 1) := by decide +kernel
theorem d_Mo_property_107 : decode prog_13_method_32_code 107 = .ok (.iload_n 3, 1) := by decide +kernel
theorem d_Mo_property_108 : decode prog_13_method_32_code 108 = .ok (.invokevirtual 100, 3) := by decide +kernel
theorem d_Mo_property_111 : decode prog_13_method_32_code 111 = .ok (.ireturn, 1) := by decide +kernel
theorem d_Mo_mark_0 : decode prog_13_method_25_code 0 = .ok (.aload_n 0, 1) := by decide +kernel
theorem d_Mo_mark_1 : decode prog_13_method_25_code 1 = .ok (.iload_n 1, 1) := by decide +kernel
theorem d_Mo_mark_2 : decode prog_13_method_25_code 2 = .ok (.iload_n 2, 1) := by decide +kernel
theorem d_Mo_mark_3 : decode prog_13_method_25_code 3 = .ok (.invokevirtual 148, 3) := by decide +kernel
theorem d_Mo_mark_6 : decode prog_13_method_25_code 6 = .ok (.istore 4, 2) := by decide +kernel
theorem d_Mo_mark_8 : decode prog_13_method_25_code 8 = .ok (.aload_n 0, 1) := by decide +kernel
theorem d_Mo_mark_9 : decode prog_13_method_25_code 9 = .ok (.getfield 77, 3) := by decide +kernel
theorem d_Mo_mark_12 : decode prog_13_method_25_code 12 = .ok (.ifCond .le 4, 3) := by decide +kernel
theorem d_Mo_mark_15 : decode prog_13_method_25_code 15 = .ok (.return_, 1) := by decide +kernel
theorem d_Mo_mark_16 : decode prog_13_method_25_code 16 = .ok (.aload_n 0, 1) := by decide +kernel
theorem d_Mo_mark_17 : decode prog_13_method_25_code 17 = .ok (.iload_n 1, 1) := by decide +kernel
theorem d_Mo_mark_18 : decode prog_13_method_25_code 18 = .ok (.invokevirtual 142, 3) := by decide +kernel
theorem d_Mo_mark_21 : decode prog_13_method_25_code 21 = .ok (.iload_n 2, 1) := by decide +kernel
theorem d_Mo_mark_22 : decode prog_13_method_25_code 22 = .ok (.bipush 8, 2) := by decide +kernel
theorem d_Mo_mark_24 : decode prog_13_method_25_code 24 = .ok (.idiv, 1) := by decide +kernel
theorem d_Mo_mark_25 : decode prog_13_method_25_code 25 = .ok (.iadd, 1) := by decide +kernel
theorem d_Mo_mark_26 : decode prog_13_method_25_code 26 = .ok (.istore 5, 2) := by decide +kernel
theorem d_Mo_mark_28 : decode prog_13_method_25_code 28 = .ok (.sipush 128, 3) := by decide +kernel
theorem d_Mo_mark_31 : decode prog_13_method_25_code 31 = .ok (.iload_n 2, 1) := by decide +kernel
theorem d_Mo_mark_32 : decode prog_13_method_25_code 32 = .ok (.bipush 8, 2) := by decide +kernel
theorem d_Mo_mark_34 : decode prog_13_method_25_code 34 = .ok (.irem, 1) := by decide +kernel
theorem d_Mo_mark_35 : decode prog_13_method_25_code 35 = .ok (.ishr, 1) := by decide +kernel
theorem d_Mo_mark_36 : decode prog_13_method_25_code 36 = .ok (.istore 6, 2) := by decide +kernel
theorem d_Mo_mark_38 : decode prog_13_method_25_code 38 = .ok (.aload_n 0, 1) := by decide +kernel
theorem d_Mo_mark_39 : decode prog_13_method_25_code 39 = .ok (.getfield 7, 3) := by decide +kernel
theorem d_Mo_mark_42 : decode prog_13_method_25_code 42 = .ok (.iload 5, 2) := by decide +kernel
theorem d_Mo_mark_44 : decode prog_13_method_25_code 44 = .ok (.iaload, 1) := by decide +kernel
theorem d_Mo_mark_45 : decode prog_13_method_25_code 45 = .ok (.istore 7, 2) := by decide +kernel
theorem d_Mo_mark_47 : decode prog_13_method_25_code 47 = .ok (.aload_n 0, 1) := by decide +kernel
theorem d_Mo_mark_48 : decode prog_13_method_25_code 48 = .ok (.iload 5, 2) := by decide +kernel
theorem d_Mo_mark_50 : decode prog_13_method_25_code 50 = .ok (.iload 4, 2) := by decide +kernel
theorem d_Mo_mark_52 : decode prog_13_method_25_code 52 = .ok (.iload_n 3, 1) := by decide +kernel
theorem d_Mo_mark_53 : decode prog_13_method_25_code 53 = .ok (.if_icmp .ne 8, 3) := by decide +kernel
theorem d_Mo_mark_56 : decode prog_13_method_25_code 56 = .ok (.iload 7, 2) := by decide +kernel
theorem d_Mo_mark_58 : decode prog_13_method_25_code 58 = .ok (.goto 20, 3) := by decide +kernel
theorem d_Mo_mark_61 : decode prog_13_method_25_code 61 = .ok (.iload_n 3, 1) := by decide +kernel
theorem d_Mo_mark_62 : decode prog_13_method_25_code 62 = .ok (.ifCond .eq 11, 3) := by decide +kernel
theorem d_Mo_mark_65 : decode prog_13_method_25_code 65 = .ok (.iload 7, 2) := by decide +kernel
theorem d_Mo_mark_67 : decode prog_13_method_25_code 67 = .ok (.iload 6, 2) := by decide +kernel
theorem d_Mo_mark_69 : decode prog_13_method_25_code 69 = .ok (.iadd, 1) := by decide +kernel
theorem d_Mo_mark_70 : decode prog_13_method_25_code 70 = .ok (.goto 8, 3) := by decide +kernel
theorem d_Mo_mark_73 : decode prog_13_method_25_code 73 = .ok (.iload 7, 2) := by decide +kernel
theorem d_Mo_mark_75 : decode prog_13_method_25_code 75 = .ok (.iload 6, 2) := by decide +kernel
theorem d_Mo_mark_77 : decode prog_13_method_25_code 77 = .ok (.isub, 1) := by decide +kernel
theorem d_Mo_mark_78 : decode prog_13_method_25_code 78 = .ok (.invokevirtual 145, 3) := by decide +kernel
theorem d_Mo_mark_81 : decode prog_13_method_25_code 81 = .ok (.return_, 1) := by decide +kernel
theorem d_Mo_has_0 : decode prog_13_method_24_code 0 = .ok (.aload_n 0, 1) := by decide +kernel
theorem d_Mo_has_1 : decode prog_13_method_24_code 1 = .ok (.iload_n 1, 1) := by decide +kernel
theorem d_Mo_has_2 : decode prog_13_method_24_code 2 = .ok (.invokevirtual 142, 3) := by decide +kernel
theorem d_Mo_has_5 : decode prog_13_method_24_code 5 = .ok (.istore_n 3, 1) := by decide +kernel
theorem d_Mo_has_6 : decode prog_13_method_24_code 6 = .ok (.aload_n 0, 1) := by decide +kernel
theorem d_Mo_has_7 : decode prog_13_method_24_code 7 = .ok (.iload_n 2, 1) := by decide +kernel
theorem d_Mo_has_8 : decode prog_13_method_24_code 8 = .ok (.bipush 32, 2) := by decide +kernel
theorem d_Mo_has_10 : decode prog_13_method_24_code 10 = .ok (.if_icmp .ge 7, 3) := by decide +kernel
theorem d_Mo_has_13 : decode prog_13_method_24_code 13 = .ok (.iconst 1, 1) := by decide +kernel
theorem d_Mo_has_14 : decode prog_13_method_24_code 14 = .ok (.goto 4, 3) := by decide +kernel
theorem d_Mo_has_17 : decode prog_13_method_24_code 17 = .ok (.iconst 0, 1) := by decide +kernel
theorem d_Mo_has_18 : decode prog_13_method_24_code 18 = .ok (.iconst 1, 1) := by decide +kernel
theorem d_Mo_has_19 : decode prog_13_method_24_code 19 = .ok (.invokevirtual 82, 3) := by decide +kernel
theorem d_Mo_has_22 : decode prog_13_method_24_code 22 = .ok (.ifCond .ne 5, 3) := by decide +kernel
theorem d_Mo_has_25 : decode prog_13_method_24_code 25 = .ok (.iconst 0, 1) := by decide +kernel
theorem d_Mo_has_26 : decode prog_13_method_24_code 26 = .ok (.ireturn, 1) := by decide +kernel
theorem d_Mo_has_27 : decode prog_13_method_24_code 27 = .ok (.aload_n 0, 1) := by decide +kernel
theorem d_Mo_has_28 : decode prog_13_method_24_code 28 = .ok (.iload_n 3, 1) := by decide +kernel
theorem d_Mo_has_29 : decode prog_13_method_24_code 29 = .ok (.iload_n 2, 1) := by decide +kernel
theorem d_Mo_has_30 : decode prog_13_method_24_code 30 = .ok (.bipush 8, 2) := by decide +kernel
theorem d_Mo_has_32 : decode prog_13_method_24_code 32 = .ok (.idiv, 1) := by decide +kernel
theorem d_Mo_has_33 : decode prog_13_method_24_code 33 = .ok (.iadd, 1) := by decide +kernel
theorem d_Mo_has_34 : decode prog_13_method_24_code 34 = .ok (.invokevirtual 86, 3) := by decide +kernel
theorem d_Mo_has_37 : decode prog_13_method_24_code 37 = .ok (.bipush 7, 2) := by decide +kernel
theorem d_Mo_has_39 : decode prog_13_method_24_code 39 = .ok (.iload_n 2, 1) := by decide +kernel
theorem d_Mo_has_40 : decode prog_13_method_24_code 40 = .ok (.bipush 8, 2) := by decide +kernel
theorem d_Mo_has_42 : decode prog_13_method_24_code 42 = .ok (.irem, 1) := by decide +kernel
theorem d_Mo_has_43 : decode prog_13_method_24_code 43 = .ok (.isub, 1) := by decide +kernel
theorem d_Mo_has_44 : decode prog_13_method_24_code 44 = .ok (.ishr, 1) := by decide +kernel
theorem d_Mo_has_45 : decode prog_13_method_24_code 45 = .ok (.iconst 1, 1) := by decide +kernel
theorem d_Mo_has_46 : decode prog_13_method_24_code 46 = .ok (.iand, 1) := by decide +kernel
theorem d_Mo_has_47 : decode prog_13_method_24_code 47 = .ok (.iconst 1, 1) := by decide +kernel
theorem d_Mo_has_48 : decode prog_13_method_24_code 48 = .ok (.if_icmp .ne 7, 3) := by decide +kernel
theorem d_Mo_has_51 : decode prog_13_method_24_code 51 = .ok (.iconst 1, 1) := by decide +kernel
theorem d_Mo_has_52 : decode prog_13_method_24_code 52 = .ok (.goto 4, 3) := by decide +kernel
theorem d_Mo_has_55 : decode prog_13_method_24_code 55 = .ok (.iconst 0, 1) := by decide +kernel
theorem d_Mo_has_56 : decode prog_13_method_24_code 56 = .ok (.ireturn, 1) := by decide +kernel
theorem d_Mo_insert_0 : decode prog_13_method_27_code 0 = .ok (.aload_n 0, 1) := by decide +kernel
theorem d_Mo_insert_1 : decode prog_13_method_27_code 1 = .ok (.iload_n 1, 1) := by decide +kernel
theorem d_Mo_insert_2 : decode prog_13_method_27_code 2 = .ok (.ifCond .le 23, 3) := by decide +kernel
theorem d_Mo_insert_5 : decode prog_13_method_27_code 5 = .ok (.iload_n 1, 1) := by decide +kernel
theorem d_Mo_insert_6 : decode prog_13_method_27_code 6 = .ok (.bipush 21, 2) := by decide +kernel
theorem d_Mo_insert_8 : decode prog_13_method_27_code 8 = .ok (.if_icmp .ge 17, 3) := by decide +kernel
theorem d_Mo_insert_11 : decode prog_13_method_27_code 11 = .ok (.iload_n 2, 1) := by decide +kernel
theorem d_Mo_insert_12 : decode prog_13_method_27_code 12 = .ok (.ifCond .le 13, 3) := by decide +kernel
theorem d_Mo_insert_15 : decode prog_13_method_27_code 15 = .ok (.iload_n 2, 1) := by decide +kernel
theorem d_Mo_insert_16 : decode prog_13_method_27_code 16 = .ok (.bipush 21, 2) := by decide +kernel
theorem d_Mo_insert_18 : decode prog_13_method_27_code 18 = .ok (.if_icmp .ge 7, 3) := by decide +kernel
theorem d_Mo_insert_21 : decode prog_13_method_27_code 21 = .ok (.iconst 1, 1) := by decide +kernel
theorem d_Mo_insert_22 : decode prog_13_method_27_code 22 = .ok (.goto 4, 3) := by decide +kernel
theorem d_Mo_insert_25 : decode prog_13_method_27_code 25 = .ok (.iconst 0, 1) := by decide +kernel
theorem d_Mo_insert_26 : decode prog_13_method_27_code 26 = .ok (.iconst 1, 1) := by decide +kernel
theorem d_Mo_insert_27 : decode prog_13_method_27_code 27 = .ok (.invokevirtual 82, 3) := by decide +kernel
theorem d_Mo_insert_30 : decode prog_13_method_27_code 30 = .ok (.ifCond .ne 4, 3) := by decide +kernel
theorem d_Mo_insert_33 : decode prog_13_method_27_code 33 = .ok (.return_, 1) := by decide +kernel
theorem d_Mo_insert_34 : decode prog_13_method_27_code 34 = .ok (.aload_n 0, 1) := by decide +kernel
theorem d_Mo_insert_35 : decode prog_13_method_27_code 35 = .ok (.iload_n 1, 1) := by decide +kernel
theorem d_Mo_insert_36 : decode prog_13_method_27_code 36 = .ok (.invokevirtual 160, 3) := by decide +kernel
theorem d_Mo_insert_39 : decode prog_13_method_27_code 39 = .ok (.aload_n 0, 1) := by decide +kernel
theorem d_Mo_insert_40 : decode prog_13_method_27_code 40 = .ok (.iload_n 1, 1) := by decide +kernel
theorem d_Mo_insert_41 : decode prog_13_method_27_code 41 = .ok (.iconst 4, 1) := by decide +kernel
theorem d_Mo_insert_42 : decode prog_13_method_27_code 42 = .ok (.iload_n 2, 1) := by decide +kernel
theorem d_Mo_insert_43 : decode prog_13_method_27_code 43 = .ok (.invokevirtual 156, 3) := by decide +kernel
theorem d_Mo_insert_46 : decode prog_13_method_27_code 46 = .ok (.aload_n 0, 1) := by decide +kernel
theorem d_Mo_insert_47 : decode prog_13_method_27_code 47 = .ok (.iload_n 1, 1) := by decide +kernel
theorem d_Mo_insert_48 : decode prog_13_method_27_code 48 = .ok (.iconst 5, 1) := by decide +kernel
theorem d_Mo_insert_49 : decode prog_13_method_27_code 49 = .ok (.aload_n 0, 1) := by decide +kernel
theorem d_Mo_insert_50 : decode prog_13_method_27_code 50 = .ok (.iload_n 2, 1) := by decide +kernel
theorem d_Mo_insert_51 : decode prog_13_method_27_code 51 = .ok (.bipush 6, 2) := by decide +kernel
theorem d_Mo_insert_53 : decode prog_13_method_27_code 53 = .ok (.invokevirtual 152, 3) := by decide +kernel
theorem d_Mo_insert_56 : decode prog_13_method_27_code 56 = .ok (.invokevirtual 156, 3) := by decide +kernel
theorem d_Mo_insert_59 : decode prog_13_method_27_code 59 = .ok (.aload_n 0, 1) := by decide +kernel
theorem d_Mo_insert_60 : decode prog_13_method_27_code 60 = .ok (.iload_n 2, 1) := by decide +kernel
theorem d_Mo_insert_61 : decode prog_13_method_27_code 61 = .ok (.bipush 6, 2) := by decide +kernel
theorem d_Mo_insert_63 : decode prog_13_method_27_code 63 = .ok (.iload_n 1, 1) := by decide +kernel
theorem d_Mo_insert_64 : decode prog_13_method_27_code 64 = .ok (.invokevirtual 156, 3) := by decide +kernel
theorem d_Mo_insert_67 : decode prog_13_method_27_code 67 = .ok (.return_, 1) := by decide +kernel
theorem d_Mo_steps_0 : decode prog_13_method_79_code 0 = .ok (.aload_n 0, 1) := by decide +kernel
theorem d_Mo_steps_1 : decode prog_13_method_79_code 1 = .ok (.iconst 0, 1) := by decide +kernel
theorem d_Mo_steps_2 : decode prog_13_method_79_code 2 = .ok (.putfield 73, 3) := by decide +kernel
theorem d_Mo_steps_5 : decode prog_13_method_79_code 5 = .ok (.aload_n 0, 1) := by decide +kernel
theorem d_Mo_steps_6 : decode prog_13_method_79_code 6 = .ok (.getfield 374, 3) := by decide +kernel
theorem d_Mo_steps_9 : decode prog_13_method_79_code 9 = .ok (.ireturn, 1) := by decide +kernel
theorem d_Mo_place_0 : decode prog_13_method_80_code 0 = .ok (.aload_n 0, 1) := by decide +kernel
theorem d_Mo_place_1 : decode prog_13_method_80_code 1 = .ok (.iconst 0, 1) := by decide +kernel
theorem d_Mo_place_2 : decode prog_13_method_80_code 2 = .ok (.putfield 73, 3) := by decide +kernel
theorem d_Mo_place_5 : decode prog_13_method_80_code 5 = .ok (.aload_n 0, 1) := by decide +kernel
theorem d_Mo_place_6 : decode prog_13_method_80_code 6 = .ok (.getfield 377, 3) := by decide +kernel
theorem d_Mo_place_9 : decode prog_13_method_80_code 9 = .ok (.ifCond .eq 10, 3) := by decide +kernel
theorem d_Mo_place_12 : decode prog_13_method_80_code 12 = .ok (.aload_n 0, 1) := by decide +kernel
theorem d_Mo_place_13 : decode prog_13_method_80_code 13 = .ok (.getfield 346, 3) := by decide +kernel
theorem d_Mo_place_16 : decode prog_13_method_80_code 16 = .ok (.goto 4, 3) := by decide +kernel
theorem d_Mo_place_19 : decode prog_13_method_80_code 19 = .ok (.iconst (-1), 1) := by decide +kernel
theorem d_Mo_place_20 : decode prog_13_method_80_code 20 = .ok (.ireturn, 1) := by decide +kernel
theorem d_Mo_output_0 : decode prog_13_method_81_code 0 = .ok (.aload_n 0, 1) := by decide +kernel
theorem d_Mo_output_1 : decode prog_13_method_81_code 1 = .ok (.iload_n 1, 1) := by decide +kernel
theorem d_Mo_output_2 : decode prog_13_method_81_code 2 = .ok (.iconst (-1), 1) := by decide +kernel
theorem d_Mo_output_3 : decode prog_13_method_81_code 3 = .ok (.if_icmp .lt 17, 3) := by decide +kernel
theorem d_Mo_output_6 : decode prog_13_method_81_code 6 = .ok (.iload_n 1, 1) := by decide +kernel
theorem d_Mo_output_7 : decode prog_13_method_81_code 7 = .ok (.bipush 63, 2) := by decide +kernel
theorem d_Mo_output_9 : decode prog_13_method_81_code 9 = .ok (.if_icmp .gt 11, 3) := by decide +kernel
theorem d_Mo_output_12 : decode prog_13_method_81_code 12 = .ok (.iload_n 1, 1) := by decide +kernel
theorem d_Mo_output_13 : decode prog_13_method_81_code 13 = .ok (.aload_n 0, 1) := by decide +kernel
theorem d_Mo_output_14 : decode prog_13_method_81_code 14 = .ok (.getfield 120, 3) := by decide +kernel
theorem d_Mo_output_17 : decode prog_13_method_81_code 17 = .ok (.if_icmp .lt 7, 3) := by decide +kernel
theorem d_Mo_output_20 : decode prog_13_method_81_code 20 = .ok (.iconst 1, 1) := by decide +kernel
theorem d_Mo_output_21 : decode prog_13_method_81_code 21 = .ok (.goto 4, 3) := by decide +kernel
theorem d_Mo_output_24 : decode prog_13_method_81_code 24 = .ok (.iconst 0, 1) := by decide +kernel
theorem d_Mo_output_25 : decode prog_13_method_81_code 25 = .ok (.putfield 73, 3) := by decide +kernel
theorem d_Mo_output_28 : decode prog_13_method_81_code 28 = .ok (.aload_n 0, 1) := by decide +kernel
theorem d_Mo_output_29 : decode prog_13_method_81_code 29 = .ok (.getfield 73, 3) := by decide +kernel
theorem d_Mo_output_32 : decode prog_13_method_81_code 32 = .ok (.ifCond .le 5, 3) := by decide +kernel
theorem d_Mo_output_35 : decode prog_13_method_81_code 35 = .ok (.iconst 0, 1) := by decide +kernel
theorem d_Mo_output_36 : decode prog_13_method_81_code 36 = .ok (.ireturn, 1) := by decide +kernel
theorem d_Mo_output_37 : decode prog_13_method_81_code 37 = .ok (.iload_n 1, 1) := by decide +kernel
theorem d_Mo_output_38 : decode prog_13_method_81_code 38 = .ok (.ifCond .ge 10, 3) := by decide +kernel
theorem d_Mo_output_41 : decode prog_13_method_81_code 41 = .ok (.aload_n 0, 1) := by decide +kernel
theorem d_Mo_output_42 : decode prog_13_method_81_code 42 = .ok (.getfield 120, 3) := by decide +kernel
theorem d_Mo_output_45 : decode prog_13_method_81_code 45 = .ok (.goto 19, 3) := by decide +kernel
theorem d_Mo_output_48 : decode prog_13_method_81_code 48 = .ok (.aload_n 0, 1) := by decide +kernel
theorem d_Mo_output_49 : decode prog_13_method_81_code 49 = .ok (.getfield 52, 3) := by decide +kernel
theorem d_Mo_output_52 : decode prog_13_method_81_code 52 = .ok (.aload_n 0, 1) := by decide +kernel
theorem d_Mo_output_53 : decode prog_13_method_81_code 53 = .ok (.getfield 120, 3) := by decide +kernel
theorem d_Mo_output_56 : decode prog_13_method_81_code 56 = .ok (.iconst 1, 1) := by decide +kernel
theorem d_Mo_output_57 : decode prog_13_method_81_code 57 = .ok (.isub, 1) := by decide +kernel
theorem d_Mo_output_58 : decode prog_13_method_81_code 58 = .ok (.iload_n 1, 1) := by decide +kernel
theorem d_Mo_output_59 : decode prog_13_method_81_code 59 = .ok (.isub, 1) := by decide +kernel
theorem d_Mo_output_60 : decode prog_13_method_81_code 60 = .ok (.bipush 64, 2) := by decide +kernel
theorem d_Mo_output_62 : decode prog_13_method_81_code 62 = .ok (.irem, 1) := by decide +kernel
theorem d_Mo_output_63 : decode prog_13_method_81_code 63 = .ok (.iaload, 1) := by decide +kernel
theorem d_Mo_output_64 : decode prog_13_method_81_code 64 = .ok (.ireturn, 1) := by decide +kernel
theorem d_Mo_stack_0 : decode prog_13_method_82_code 0 = .ok (.aload_n 0, 1) := by decide +kernel
theorem d_Mo_stack_1 : decode prog_13_method_82_code 1 = .ok (.iload_n 1, 1) := by decide +kernel
theorem d_Mo_stack_2 : decode prog_13_method_82_code 2 = .ok (.iconst (-1), 1) := by decide +kernel
theorem d_Mo_stack_3 : decode prog_13_method_82_code 3 = .ok (.if_icmp .lt 11, 3) := by decide +kernel
theorem d_Mo_stack_6 : decode prog_13_method_82_code 6 = .ok (.iload_n 1, 1) := by decide +kernel
theorem d_Mo_stack_7 : decode prog_13_method_82_code 7 = .ok (.aload_n 0, 1) := by decide +kernel
theorem d_Mo_stack_8 : decode prog_13_method_82_code 8 = .ok (.getfield 94, 3) := by decide +kernel
theorem d_Mo_stack_11 : decode prog_13_method_82_code 11 = .ok (.if_icmp .lt 7, 3) := by decide +kernel
theorem d_Mo_stack_14 : decode prog_13_method_82_code 14 = .ok (.iconst 1, 1) := by decide +kernel
theorem d_Mo_stack_15 : decode prog_13_method_82_code 15 = .ok (.goto 4, 3) := by decide +kernel
theorem d_Mo_stack_18 : decode prog_13_method_82_code 18 = .ok (.iconst 0, 1) := by decide +kernel
theorem d_Mo_stack_19 : decode prog_13_method_82_code 19 = .ok (.putfield 73, 3) := by decide +kernel
theorem d_Mo_stack_22 : decode prog_13_method_82_code 22 = .ok (.aload_n 0, 1) := by decide +kernel
theorem d_Mo_stack_23 : decode prog_13_method_82_code 23 = .ok (.getfield 73, 3) := by decide +kernel
theorem d_Mo_stack_26 : decode prog_13_method_82_code 26 = .ok (.ifCond .le 5, 3) := by decide +kernel
theorem d_Mo_stack_29 : decode prog_13_method_82_code 29 = .ok (.iconst 0, 1) := by decide +kernel
theorem d_Mo_stack_30 : decode prog_13_method_82_code 30 = .ok (.ireturn, 1) := by decide +kernel
theorem d_Mo_stack_31 : decode prog_13_method_82_code 31 = .ok (.iload_n 1, 1) := by decide +kernel
theorem d_Mo_stack_32 : decode prog_13_method_82_code 32 = .ok (.ifCond .ge 10, 3) := by decide +kernel
theorem d_Mo_stack_35 : decode prog_13_method_82_code 35 = .ok (.aload_n 0, 1) := by decide +kernel
theorem d_Mo_stack_36 : decode prog_13_method_82_code 36 = .ok (.getfield 94, 3) := by decide +kernel
theorem d_Mo_stack_39 : decode prog_13_method_82_code 39 = .ok (.goto 16, 3) := by decide +kernel
theorem d_Mo_stack_42 : decode prog_13_method_82_code 42 = .ok (.aload_n 0, 1) := by decide +kernel
theorem d_Mo_stack_43 : decode prog_13_method_82_code 43 = .ok (.getfield 13, 3) := by decide +kernel
theorem d_Mo_stack_46 : decode prog_13_method_82_code 46 = .ok (.aload_n 0, 1) := by decide +kernel
theorem d_Mo_stack_47 : decode prog_13_method_82_code 47 = .ok (.getfield 94, 3) := by decide +kernel
theorem d_Mo_stack_50 : decode prog_13_method_82_code 50 = .ok (.iconst 1, 1) := by decide +kernel
theorem d_Mo_stack_51 : decode prog_13_method_82_code 51 = .ok (.isub, 1) := by decide +kernel
theorem d_Mo_stack_52 : decode prog_13_method_82_code 52 = .ok (.iload_n 1, 1) := by decide +kernel
theorem d_Mo_stack_53 : decode prog_13_method_82_code 53 = .ok (.isub, 1) := by decide +kernel
theorem d_Mo_stack_54 : decode prog_13_method_82_code 54 = .ok (.iaload, 1) := by decide +kernel
theorem d_Mo_stack_55 : decode prog_13_method_82_code 55 = .ok (.ireturn, 1) := by decide +kernel
theorem d_Mo_local_0 : decode prog_13_method_83_code 0 = .ok (.aload_n 0, 1) := by decide +kernel
theorem d_Mo_local_1 : decode prog_13_method_83_code 1 = .ok (.iload_n 1, 1) := by decide +kernel
theorem d_Mo_local_2 : decode prog_13_method_83_code 2 = .ok (.ifCond .lt 9, 3) := by decide +kernel
theorem d_Mo_local_5 : decode prog_13_method_83_code 5 = .ok (.iload_n 1, 1) := by decide +kernel
theorem d_Mo_local_6 : decode prog_13_method_83_code 6 = .ok (.bipush 15, 2) := by decide +kernel
theorem d_Mo_local_8 : decode prog_13_method_83_code 8 = .ok (.if_icmp .le 7, 3) := by decide +kernel
theorem d_Mo_local_11 : decode prog_13_method_83_code 11 = .ok (.iconst 1, 1) := by decide +kernel
theorem d_Mo_local_12 : decode prog_13_method_83_code 12 = .ok (.goto 4, 3) := by decide +kernel
theorem d_Mo_local_15 : decode prog_13_method_83_code 15 = .ok (.iconst 0, 1) := by decide +kernel
theorem d_Mo_local_16 : decode prog_13_method_83_code 16 = .ok (.putfield 73, 3) := by decide +kernel
theorem d_Mo_local_19 : decode prog_13_method_83_code 19 = .ok (.aload_n 0, 1) := by decide +kernel
theorem d_Mo_local_20 : decode prog_13_method_83_code 20 = .ok (.getfield 73, 3) := by decide +kernel
theorem d_Mo_local_23 : decode prog_13_method_83_code 23 = .ok (.ifCond .le 5, 3) := by decide +kernel
theorem d_Mo_local_26 : decode prog_13_method_83_code 26 = .ok (.iconst 0, 1) := by decide +kernel
theorem d_Mo_local_27 : decode prog_13_method_83_code 27 = .ok (.ireturn, 1) := by decide +kernel
theorem d_Mo_local_28 : decode prog_13_method_83_code 28 = .ok (.iload_n 1, 1) := by decide +kernel
theorem d_Mo_local_29 : decode prog_13_method_83_code 29 = .ok (.ifCond .ne 15, 3) := by decide +kernel
theorem d_Mo_local_32 : decode prog_13_method_83_code 32 = .ok (.aload_n 0, 1) := by decide +kernel
theorem d_Mo_local_33 : decode prog_13_method_83_code 33 = .ok (.getfield 16, 3) := by decide +kernel
theorem d_Mo_local_36 : decode prog_13_method_83_code 36 = .ok (.aload_n 0, 1) := by decide +kernel
theorem d_Mo_local_37 : decode prog_13_method_83_code 37 = .ok (.getfield 97, 3) := by decide +kernel
theorem d_Mo_local_40 : decode prog_13_method_83_code 40 = .ok (.iaload, 1) := by decide +kernel
theorem d_Mo_local_41 : decode prog_13_method_83_code 41 = .ok (.goto 36, 3) := by decide +kernel
theorem d_Mo_local_44 : decode prog_13_method_83_code 44 = .ok (.iload_n 1, 1) := by decide +kernel
theorem d_Mo_local_45 : decode prog_13_method_83_code 45 = .ok (.aload_n 0, 1) := by decide +kernel
theorem d_Mo_local_46 : decode prog_13_method_83_code 46 = .ok (.getfield 16, 3) := by decide +kernel
theorem d_Mo_local_49 : decode prog_13_method_83_code 49 = .ok (.aload_n 0, 1) := by decide +kernel
theorem d_Mo_local_50 : decode prog_13_method_83_code 50 = .ok (.getfield 97, 3) := by decide +kernel
theorem d_Mo_local_53 : decode prog_13_method_83_code 53 = .ok (.iaload, 1) := by decide +kernel
theorem d_Mo_local_54 : decode prog_13_method_83_code 54 = .ok (.if_icmp .gt 22, 3) := by decide +kernel
theorem d_Mo_local_57 : decode prog_13_method_83_code 57 = .ok (.aload_n 0, 1) := by decide +kernel
theorem d_Mo_local_58 : decode prog_13_method_83_code 58 = .ok (.getfield 28, 3) := by decide +kernel
theorem d_Mo_local_61 : decode prog_13_method_83_code 61 = .ok (.bipush 15, 2) := by decide +kernel
theorem d_Mo_local_63 : decode prog_13_method_83_code 63 = .ok (.aload_n 0, 1) := by decide +kernel
theorem d_Mo_local_64 : decode prog_13_method_83_code 64 = .ok (.getfield 97, 3) := by decide +kernel
theorem d_Mo_local_67 : decode prog_13_method_83_code 67 = .ok (.imul, 1) := by decide +kernel
theorem d_Mo_local_68 : decode prog_13_method_83_code 68 = .ok (.iload_n 1, 1) := by decide +kernel
theorem d_Mo_local_69 : decode prog_13_method_83_code 69 = .ok (.iadd, 1) := by decide +kernel
theorem d_Mo_local_70 : decode prog_13_method_83_code 70 = .ok (.iconst 1, 1) := by decide +kernel
theorem d_Mo_local_71 : decode prog_13_method_83_code 71 = .ok (.isub, 1) := by decide +kernel
theorem d_Mo_local_72 : decode prog_13_method_83_code 72 = .ok (.iaload, 1) := by decide +kernel
theorem d_Mo_local_73 : decode prog_13_method_83_code 73 = .ok (.goto 4, 3) := by decide +kernel
theorem d_Mo_local_76 : decode prog_13_method_83_code 76 = .ok (.iconst 0, 1) := by decide +kernel
theorem d_Mo_local_77 : decode prog_13_method_83_code 77 = .ok (.ireturn, 1) := by decide +kernel
theorem d_Mo_routines_0 : decode prog_13_method_84_code 0 = .ok (.aload_n 0, 1) := by decide +kernel
theorem d_Mo_routines_1 : decode prog_13_method_84_code 1 = .ok (.iconst 0, 1) := by decide +kernel
theorem d_Mo_routines_2 : decode prog_13_method_84_code 2 = .ok (.putfield 73, 3) := by decide +kernel
theorem d_Mo_routines_5 : decode prog_13_method_84_code 5 = .ok (.aload_n 0, 1) := by decide +kernel
theorem d_Mo_routines_6 : decode prog_13_method_84_code 6 = .ok (.getfield 97, 3) := by decide +kernel
theorem d_Mo_routines_9 : decode prog_13_method_84_code 9 = .ok (.ireturn, 1) := by decide +kernel
theorem d_La_poke_0 : decode method_3_code 0 = .ok (.aload_n 0, 1) := by decide +kernel
theorem d_La_poke_1 : decode method_3_code 1 = .ok (.iload_n 1, 1) := by decide +kernel
theorem d_La_poke_2 : decode method_3_code 2 = .ok (.lload_n 2, 1) := by decide +kernel
theorem d_La_poke_3 : decode method_3_code 3 = .ok (.iload 4, 2) := by decide +kernel
theorem d_La_poke_5 : decode method_3_code 5 = .ok (.invokevirtual 7, 3) := by decide +kernel
theorem d_La_poke_8 : decode method_3_code 8 = .ok (.goto 7, 3) := by decide +kernel
theorem d_La_poke_11 : decode method_3_code 11 = .ok (.astore 5, 2) := by decide +kernel
theorem d_La_poke_13 : decode method_3_code 13 = .ok (.iconst 1, 1) := by decide +kernel
theorem d_La_poke_14 : decode method_3_code 14 = .ok (.ireturn, 1) := by decide +kernel
theorem d_La_poke_15 : decode method_3_code 15 = .ok (.iconst 0, 1) := by decide +kernel
theorem d_La_poke_16 : decode method_3_code 16 = .ok (.ireturn, 1) := by decide +kernel
theorem d_La_peek_0 : decode method_4_code 0 = .ok (.aload_n 2, 1) := by decide +kernel
theorem d_La_peek_1 : decode method_4_code 1 = .ok (.iconst 0, 1) := by decide +kernel
theorem d_La_peek_2 : decode method_4_code 2 = .ok (.aload_n 0, 1) := by decide +kernel
theorem d_La_peek_3 : decode method_4_code 3 = .ok (.iload_n 1, 1) := by decide +kernel
theorem d_La_peek_4 : decode method_4_code 4 = .ok (.invokevirtual 15, 3) := by decide +kernel
theorem d_La_peek_7 : decode method_4_code 7 = .ok (.i2l, 1) := by decide +kernel
theorem d_La_peek_8 : decode method_4_code 8 = .ok (.lastore, 1) := by decide +kernel
theorem d_La_peek_9 : decode method_4_code 9 = .ok (.goto 6, 3) := by decide +kernel
theorem d_La_peek_12 : decode method_4_code 12 = .ok (.astore_n 3, 1) := by decide +kernel
theorem d_La_peek_13 : decode method_4_code 13 = .ok (.iconst 1, 1) := by decide +kernel
theorem d_La_peek_14 : decode method_4_code 14 = .ok (.ireturn, 1) := by decide +kernel
theorem d_La_peek_15 : decode method_4_code 15 = .ok (.iconst 0, 1) := by decide +kernel
theorem d_La_peek_16 : decode method_4_code 16 = .ok (.ireturn, 1) := by decide +kernel
theorem d_La_begin_0 : decode method_5_code 0 = .ok (.aload_n 0, 1) := by decide +kernel
theorem d_La_begin_1 : decode method_5_code 1 = .ok (.invokevirtual 19, 3) := by decide +kernel
theorem d_La_begin_4 : decode method_5_code 4 = .ok (.goto 6, 3) := by decide +kernel
theorem d_La_begin_7 : decode method_5_code 7 = .ok (.astore_n 1, 1) := by decide +kernel
theorem d_La_begin_8 : decode method_5_code 8 = .ok (.iconst 1, 1) := by decide +kernel
theorem d_La_begin_9 : decode method_5_code 9 = .ok (.ireturn, 1) := by decide +kernel
theorem d_La_begin_10 : decode method_5_code 10 = .ok (.iconst 0, 1) := by decide +kernel
theorem d_La_begin_11 : decode method_5_code 11 = .ok (.ireturn, 1) := by decide +kernel
theorem d_La_type_0 : decode method_6_code 0 = .ok (.aload_n 0, 1) := by decide +kernel
theorem d_La_type_1 : decode method_6_code 1 = .ok (.lload_n 1, 1) := by decide +kernel
theorem d_La_type_2 : decode method_6_code 2 = .ok (.iload_n 3, 1) := by decide +kernel
theorem d_La_type_3 : decode method_6_code 3 = .ok (.invokevirtual 24, 3) := by decide +kernel
theorem d_La_type_6 : decode method_6_code 6 = .ok (.goto 11, 3) := by decide +kernel
theorem d_La_type_9 : decode method_6_code 9 = .ok (.astore 4, 2) := by decide +kernel
theorem d_La_type_11 : decode method_6_code 11 = .ok (.iconst 1, 1) := by decide +kernel
theorem d_La_type_12 : decode method_6_code 12 = .ok (.ireturn, 1) := by decide +kernel
theorem d_La_type_13 : decode method_6_code 13 = .ok (.astore 4, 2) := by decide +kernel
theorem d_La_type_15 : decode method_6_code 15 = .ok (.iconst 2, 1) := by decide +kernel
theorem d_La_type_16 : decode method_6_code 16 = .ok (.ireturn, 1) := by decide +kernel
theorem d_La_type_17 : decode method_6_code 17 = .ok (.iconst 0, 1) := by decide +kernel
theorem d_La_type_18 : decode method_6_code 18 = .ok (.ireturn, 1) := by decide +kernel
theorem d_La_run_0 : decode method_7_code 0 = .ok (.aload_n 2, 1) := by decide +kernel
theorem d_La_run_1 : decode method_7_code 1 = .ok (.iconst 0, 1) := by decide +kernel
theorem d_La_run_2 : decode method_7_code 2 = .ok (.aload_n 0, 1) := by decide +kernel
theorem d_La_run_3 : decode method_7_code 3 = .ok (.iload_n 1, 1) := by decide +kernel
theorem d_La_run_4 : decode method_7_code 4 = .ok (.invokevirtual 28, 3) := by decide +kernel
theorem d_La_run_7 : decode method_7_code 7 = .ok (.i2l, 1) := by decide +kernel
theorem d_La_run_8 : decode method_7_code 8 = .ok (.lastore, 1) := by decide +kernel
theorem d_La_run_9 : decode method_7_code 9 = .ok (.goto 9, 3) := by decide +kernel
theorem d_La_run_12 : decode method_7_code 12 = .ok (.astore_n 3, 1) := by decide +kernel
theorem d_La_run_13 : decode method_7_code 13 = .ok (.iconst 1, 1) := by decide +kernel
theorem d_La_run_14 : decode method_7_code 14 = .ok (.ireturn, 1) := by decide +kernel
theorem d_La_run_15 : decode method_7_code 15 = .ok (.astore_n 3, 1) := by decide +kernel
theorem d_La_run_16 : decode method_7_code 16 = .ok (.iconst 2, 1) := by decide +kernel
theorem d_La_run_17 : decode method_7_code 17 = .ok (.ireturn, 1) := by decide +kernel
theorem d_La_run_18 : decode method_7_code 18 = .ok (.iconst 0, 1) := by decide +kernel
theorem d_La_run_19 : decode method_7_code 19 = .ok (.ireturn, 1) := by decide +kernel
theorem d_La_output_0 : decode method_8_code 0 = .ok (.aload_n 2, 1) := by decide +kernel
theorem d_La_output_1 : decode method_8_code 1 = .ok (.iconst 0, 1) := by decide +kernel
theorem d_La_output_2 : decode method_8_code 2 = .ok (.aload_n 0, 1) := by decide +kernel
theorem d_La_output_3 : decode method_8_code 3 = .ok (.iload_n 1, 1) := by decide +kernel
theorem d_La_output_4 : decode method_8_code 4 = .ok (.invokevirtual 31, 3) := by decide +kernel
theorem d_La_output_7 : decode method_8_code 7 = .ok (.i2l, 1) := by decide +kernel
theorem d_La_output_8 : decode method_8_code 8 = .ok (.lastore, 1) := by decide +kernel
theorem d_La_output_9 : decode method_8_code 9 = .ok (.goto 6, 3) := by decide +kernel
theorem d_La_output_12 : decode method_8_code 12 = .ok (.astore_n 3, 1) := by decide +kernel
theorem d_La_output_13 : decode method_8_code 13 = .ok (.iconst 1, 1) := by decide +kernel
theorem d_La_output_14 : decode method_8_code 14 = .ok (.ireturn, 1) := by decide +kernel
theorem d_La_output_15 : decode method_8_code 15 = .ok (.iconst 0, 1) := by decide +kernel
theorem d_La_output_16 : decode method_8_code 16 = .ok (.ireturn, 1) := by decide +kernel
theorem d_La_stack_0 : decode method_9_code 0 = .ok (.aload_n 2, 1) := by decide +kernel
theorem d_La_stack_1 : decode method_9_code 1 = .ok (.iconst 0, 1) := by decide +kernel
theorem d_La_stack_2 : decode method_9_code 2 = .ok (.aload_n 0, 1) := by decide +kernel
theorem d_La_stack_3 : decode method_9_code 3 = .ok (.iload_n 1, 1) := by decide +kernel
theorem d_La_stack_4 : decode method_9_code 4 = .ok (.invokevirtual 36, 3) := by decide +kernel
theorem d_La_stack_7 : decode method_9_code 7 = .ok (.i2l, 1) := by decide +kernel
theorem d_La_stack_8 : decode method_9_code 8 = .ok (.lastore, 1) := by decide +kernel
theorem d_La_stack_9 : decode method_9_code 9 = .ok (.goto 6, 3) := by decide +kernel
theorem d_La_stack_12 : decode method_9_code 12 = .ok (.astore_n 3, 1) := by decide +kernel
theorem d_La_stack_13 : decode method_9_code 13 = .ok (.iconst 1, 1) := by decide +kernel
theorem d_La_stack_14 : decode method_9_code 14 = .ok (.ireturn, 1) := by decide +kernel
theorem d_La_stack_15 : decode method_9_code 15 = .ok (.iconst 0, 1) := by decide +kernel
theorem d_La_stack_16 : decode method_9_code 16 = .ok (.ireturn, 1) := by decide +kernel
theorem d_La_local_0 : decode method_10_code 0 = .ok (.aload_n 2, 1) := by decide +kernel
theorem d_La_local_1 : decode method_10_code 1 = .ok (.iconst 0, 1) := by decide +kernel
theorem d_La_local_2 : decode method_10_code 2 = .ok (.aload_n 0, 1) := by decide +kernel
theorem d_La_local_3 : decode method_10_code 3 = .ok (.iload_n 1, 1) := by decide +kernel
theorem d_La_local_4 : decode method_10_code 4 = .ok (.invokevirtual 39, 3) := by decide +kernel
theorem d_La_local_7 : decode method_10_code 7 = .ok (.i2l, 1) := by decide +kernel
theorem d_La_local_8 : decode method_10_code 8 = .ok (.lastore, 1) := by decide +kernel
theorem d_La_local_9 : decode method_10_code 9 = .ok (.goto 6, 3) := by decide +kernel
theorem d_La_local_12 : decode method_10_code 12 = .ok (.astore_n 3, 1) := by decide +kernel
theorem d_La_local_13 : decode method_10_code 13 = .ok (.iconst 1, 1) := by decide +kernel
theorem d_La_local_14 : decode method_10_code 14 = .ok (.ireturn, 1) := by decide +kernel
theorem d_La_local_15 : decode method_10_code 15 = .ok (.iconst 0, 1) := by decide +kernel
theorem d_La_local_16 : decode method_10_code 16 = .ok (.ireturn, 1) := by decide +kernel
theorem d_Me_init_0 : decode prog_7_method_1_code 0 = .ok (.aload_n 0, 1) := by decide +kernel
theorem d_Me_init_1 : decode prog_7_method_1_code 1 = .ok (.invokespecial 1, 3) := by decide +kernel
theorem d_Me_init_4 : decode prog_7_method_1_code 4 = .ok (.aload_n 0, 1) := by decide +kernel
theorem d_Me_init_5 : decode prog_7_method_1_code 5 = .ok (.sipush 512, 3) := by decide +kernel
theorem d_Me_init_8 : decode prog_7_method_1_code 8 = .ok (.newarray .int, 2) := by decide +kernel
theorem d_Me_init_10 : decode prog_7_method_1_code 10 = .ok (.putfield 9, 3) := by decide +kernel
theorem d_Me_init_13 : decode prog_7_method_1_code 13 = .ok (.return_, 1) := by decide +kernel
theorem d_Li_init_0 : decode prog_6_method_1_code 0 = .ok (.aload_n 0, 1) := by decide +kernel
theorem d_Li_init_1 : decode prog_6_method_1_code 1 = .ok (.invokespecial 1, 3) := by decide +kernel
theorem d_Li_init_4 : decode prog_6_method_1_code 4 = .ok (.aload_n 0, 1) := by decide +kernel
theorem d_Li_init_5 : decode prog_6_method_1_code 5 = .ok (.bipush 24, 2) := by decide +kernel
theorem d_Li_init_7 : decode prog_6_method_1_code 7 = .ok (.newarray .int, 2) := by decide +kernel
theorem d_Li_init_9 : decode prog_6_method_1_code 9 = .ok (.putfield 9, 3) := by decide +kernel
theorem d_Li_init_12 : decode prog_6_method_1_code 12 = .ok (.aload_n 0, 1) := by decide +kernel
theorem d_Li_init_13 : decode prog_6_method_1_code 13 = .ok (.bipush 24, 2) := by decide +kernel
theorem d_Li_init_15 : decode prog_6_method_1_code 15 = .ok (.newarray .int, 2) := by decide +kernel
theorem d_Li_init_17 : decode prog_6_method_1_code 17 = .ok (.putfield 13, 3) := by decide +kernel
theorem d_Li_init_20 : decode prog_6_method_1_code 20 = .ok (.return_, 1) := by decide +kernel
theorem d_Ro_init_0 : decode prog_9_method_1_code 0 = .ok (.aload_n 0, 1) := by decide +kernel
theorem d_Ro_init_1 : decode prog_9_method_1_code 1 = .ok (.invokespecial 1, 3) := by decide +kernel
theorem d_Ro_init_4 : decode prog_9_method_1_code 4 = .ok (.aload_n 0, 1) := by decide +kernel
theorem d_Ro_init_5 : decode prog_9_method_1_code 5 = .ok (.bipush 48, 2) := by decide +kernel
theorem d_Ro_init_7 : decode prog_9_method_1_code 7 = .ok (.newarray .int, 2) := by decide +kernel
theorem d_Ro_init_9 : decode prog_9_method_1_code 9 = .ok (.putfield 9, 3) := by decide +kernel
theorem d_Ro_init_12 : decode prog_9_method_1_code 12 = .ok (.aload_n 0, 1) := by decide +kernel
theorem d_Ro_init_13 : decode prog_9_method_1_code 13 = .ok (.bipush 11, 2) := by decide +kernel
theorem d_Ro_init_15 : decode prog_9_method_1_code 15 = .ok (.newarray .int, 2) := by decide +kernel
theorem d_Ro_init_17 : decode prog_9_method_1_code 17 = .ok (.putfield 13, 3) := by decide +kernel
theorem d_Ro_init_20 : decode prog_9_method_1_code 20 = .ok (.aload_n 0, 1) := by decide +kernel
theorem d_Ro_init_21 : decode prog_9_method_1_code 21 = .ok (.bipush 11, 2) := by decide +kernel
theorem d_Ro_init_23 : decode prog_9_method_1_code 23 = .ok (.newarray .int, 2) := by decide +kernel
theorem d_Ro_init_25 : decode prog_9_method_1_code 25 = .ok (.putfield 16, 3) := by decide +kernel
theorem d_Ro_init_28 : decode prog_9_method_1_code 28 = .ok (.aload_n 0, 1) := by decide +kernel
theorem d_Ro_init_29 : decode prog_9_method_1_code 29 = .ok (.bipush 11, 2) := by decide +kernel
theorem d_Ro_init_31 : decode prog_9_method_1_code 31 = .ok (.newarray .int, 2) := by decide +kernel
theorem d_Ro_init_33 : decode prog_9_method_1_code 33 = .ok (.putfield 19, 3) := by decide +kernel
theorem d_Ro_init_36 : decode prog_9_method_1_code 36 = .ok (.aload_n 0, 1) := by decide +kernel
theorem d_Ro_init_37 : decode prog_9_method_1_code 37 = .ok (.bipush 11, 2) := by decide +kernel
theorem d_Ro_init_39 : decode prog_9_method_1_code 39 = .ok (.newarray .int, 2) := by decide +kernel
theorem d_Ro_init_41 : decode prog_9_method_1_code 41 = .ok (.putfield 22, 3) := by decide +kernel
theorem d_Ro_init_44 : decode prog_9_method_1_code 44 = .ok (.aload_n 0, 1) := by decide +kernel
theorem d_Ro_init_45 : decode prog_9_method_1_code 45 = .ok (.sipush 165, 3) := by decide +kernel
theorem d_Ro_init_48 : decode prog_9_method_1_code 48 = .ok (.newarray .int, 2) := by decide +kernel
theorem d_Ro_init_50 : decode prog_9_method_1_code 50 = .ok (.putfield 25, 3) := by decide +kernel
theorem d_Ro_init_53 : decode prog_9_method_1_code 53 = .ok (.return_, 1) := by decide +kernel
theorem d_Pr_init_0 : decode prog_8_method_1_code 0 = .ok (.aload_n 0, 1) := by decide +kernel
theorem d_Pr_init_1 : decode prog_8_method_1_code 1 = .ok (.invokespecial 1, 3) := by decide +kernel
theorem d_Pr_init_4 : decode prog_8_method_1_code 4 = .ok (.aload_n 0, 1) := by decide +kernel
theorem d_Pr_init_5 : decode prog_8_method_1_code 5 = .ok (.bipush 64, 2) := by decide +kernel
theorem d_Pr_init_7 : decode prog_8_method_1_code 7 = .ok (.newarray .int, 2) := by decide +kernel
theorem d_Pr_init_9 : decode prog_8_method_1_code 9 = .ok (.putfield 9, 3) := by decide +kernel
theorem d_Pr_init_12 : decode prog_8_method_1_code 12 = .ok (.aload_n 0, 1) := by decide +kernel
theorem d_Pr_init_13 : decode prog_8_method_1_code 13 = .ok (.aload_n 1, 1) := by decide +kernel
theorem d_Pr_init_14 : decode prog_8_method_1_code 14 = .ok (.putfield 13, 3) := by decide +kernel
theorem d_Pr_init_17 : decode prog_8_method_1_code 17 = .ok (.return_, 1) := by decide +kernel
theorem d_Va_init_0 : decode prog_11_method_1_code 0 = .ok (.aload_n 0, 1) := by decide +kernel
theorem d_Va_init_1 : decode prog_11_method_1_code 1 = .ok (.invokespecial 1, 3) := by decide +kernel
theorem d_Va_init_4 : decode prog_11_method_1_code 4 = .ok (.aload_n 0, 1) := by decide +kernel
theorem d_Va_init_5 : decode prog_11_method_1_code 5 = .ok (.aload_n 1, 1) := by decide +kernel
theorem d_Va_init_6 : decode prog_11_method_1_code 6 = .ok (.putfield 7, 3) := by decide +kernel
theorem d_Va_init_9 : decode prog_11_method_1_code 9 = .ok (.aload_n 0, 1) := by decide +kernel
theorem d_Va_init_10 : decode prog_11_method_1_code 10 = .ok (.aload_n 2, 1) := by decide +kernel
theorem d_Va_init_11 : decode prog_11_method_1_code 11 = .ok (.putfield 13, 3) := by decide +kernel
theorem d_Va_init_14 : decode prog_11_method_1_code 14 = .ok (.return_, 1) := by decide +kernel
theorem d_Tr_init_0 : decode prog_10_method_1_code 0 = .ok (.aload_n 0, 1) := by decide +kernel
theorem d_Tr_init_1 : decode prog_10_method_1_code 1 = .ok (.invokespecial 1, 3) := by decide +kernel
theorem d_Tr_init_4 : decode prog_10_method_1_code 4 = .ok (.aload_n 0, 1) := by decide +kernel
theorem d_Tr_init_5 : decode prog_10_method_1_code 5 = .ok (.aload_n 1, 1) := by decide +kernel
theorem d_Tr_init_6 : decode prog_10_method_1_code 6 = .ok (.putfield 7, 3) := by decide +kernel
theorem d_Tr_init_9 : decode prog_10_method_1_code 9 = .ok (.return_, 1) := by decide +kernel
theorem d_Di_init_0 : decode prog_3_method_1_code 0 = .ok (.aload_n 0, 1) := by decide +kernel
theorem d_Di_init_1 : decode prog_3_method_1_code 1 = .ok (.invokespecial 1, 3) := by decide +kernel
theorem d_Di_init_4 : decode prog_3_method_1_code 4 = .ok (.aload_n 0, 1) := by decide +kernel
theorem d_Di_init_5 : decode prog_3_method_1_code 5 = .ok (.bipush 24, 2) := by decide +kernel
theorem d_Di_init_7 : decode prog_3_method_1_code 7 = .ok (.newarray .int, 2) := by decide +kernel
theorem d_Di_init_9 : decode prog_3_method_1_code 9 = .ok (.putfield 9, 3) := by decide +kernel
theorem d_Di_init_12 : decode prog_3_method_1_code 12 = .ok (.aload_n 0, 1) := by decide +kernel
theorem d_Di_init_13 : decode prog_3_method_1_code 13 = .ok (.bipush 24, 2) := by decide +kernel
theorem d_Di_init_15 : decode prog_3_method_1_code 15 = .ok (.newarray .int, 2) := by decide +kernel
theorem d_Di_init_17 : decode prog_3_method_1_code 17 = .ok (.putfield 15, 3) := by decide +kernel
theorem d_Di_init_20 : decode prog_3_method_1_code 20 = .ok (.aload_n 0, 1) := by decide +kernel
theorem d_Di_init_21 : decode prog_3_method_1_code 21 = .ok (.bipush 6, 2) := by decide +kernel
theorem d_Di_init_23 : decode prog_3_method_1_code 23 = .ok (.newarray .int, 2) := by decide +kernel
theorem d_Di_init_25 : decode prog_3_method_1_code 25 = .ok (.putfield 18, 3) := by decide +kernel
theorem d_Di_init_28 : decode prog_3_method_1_code 28 = .ok (.aload_n 0, 1) := by decide +kernel
theorem d_Di_init_29 : decode prog_3_method_1_code 29 = .ok (.aload_n 1, 1) := by decide +kernel
theorem d_Di_init_30 : decode prog_3_method_1_code 30 = .ok (.putfield 21, 3) := by decide +kernel
theorem d_Di_init_33 : decode prog_3_method_1_code 33 = .ok (.return_, 1) := by decide +kernel
theorem d_In_init_0 : decode prog_5_method_1_code 0 = .ok (.aload_n 0, 1) := by decide +kernel
theorem d_In_init_1 : decode prog_5_method_1_code 1 = .ok (.invokespecial 1, 3) := by decide +kernel
theorem d_In_init_4 : decode prog_5_method_1_code 4 = .ok (.aload_n 0, 1) := by decide +kernel
theorem d_In_init_5 : decode prog_5_method_1_code 5 = .ok (.iconst 4, 1) := by decide +kernel
theorem d_In_init_6 : decode prog_5_method_1_code 6 = .ok (.newarray .int, 2) := by decide +kernel
theorem d_In_init_8 : decode prog_5_method_1_code 8 = .ok (.putfield 7, 3) := by decide +kernel
theorem d_In_init_11 : decode prog_5_method_1_code 11 = .ok (.aload_n 0, 1) := by decide +kernel
theorem d_In_init_12 : decode prog_5_method_1_code 12 = .ok (.aload_n 1, 1) := by decide +kernel
theorem d_In_init_13 : decode prog_5_method_1_code 13 = .ok (.putfield 13, 3) := by decide +kernel
theorem d_In_init_16 : decode prog_5_method_1_code 16 = .ok (.aload_n 0, 1) := by decide +kernel
theorem d_In_init_17 : decode prog_5_method_1_code 17 = .ok (.aload_n 2, 1) := by decide +kernel
theorem d_In_init_18 : decode prog_5_method_1_code 18 = .ok (.putfield 17, 3) := by decide +kernel
theorem d_In_init_21 : decode prog_5_method_1_code 21 = .ok (.return_, 1) := by decide +kernel
theorem d_As_init_0 : decode prog_2_method_1_code 0 = .ok (.aload_n 0, 1) := by decide +kernel
theorem d_As_init_1 : decode prog_2_method_1_code 1 = .ok (.invokespecial 1, 3) := by decide +kernel
theorem d_As_init_4 : decode prog_2_method_1_code 4 = .ok (.aload_n 0, 1) := by decide +kernel
theorem d_As_init_5 : decode prog_2_method_1_code 5 = .ok (.new 7, 3) := by decide +kernel
theorem d_As_init_8 : decode prog_2_method_1_code 8 = .ok (.dup, 1) := by decide +kernel
theorem d_As_init_9 : decode prog_2_method_1_code 9 = .ok (.invokespecial 9, 3) := by decide +kernel
theorem d_As_init_12 : decode prog_2_method_1_code 12 = .ok (.putfield 10, 3) := by decide +kernel
theorem d_As_init_15 : decode prog_2_method_1_code 15 = .ok (.aload_n 0, 1) := by decide +kernel
theorem d_As_init_16 : decode prog_2_method_1_code 16 = .ok (.new 16, 3) := by decide +kernel
theorem d_As_init_19 : decode prog_2_method_1_code 19 = .ok (.dup, 1) := by decide +kernel
theorem d_As_init_20 : decode prog_2_method_1_code 20 = .ok (.invokespecial 18, 3) := by decide +kernel
theorem d_As_init_23 : decode prog_2_method_1_code 23 = .ok (.putfield 19, 3) := by decide +kernel
theorem d_As_init_26 : decode prog_2_method_1_code 26 = .ok (.return_, 1) := by decide +kernel
theorem d_En_init_0 : decode prog_4_method_1_code 0 = .ok (.aload_n 0, 1) := by decide +kernel
theorem d_En_init_1 : decode prog_4_method_1_code 1 = .ok (.invokespecial 1, 3) := by decide +kernel
theorem d_En_init_4 : decode prog_4_method_1_code 4 = .ok (.aload_n 0, 1) := by decide +kernel
theorem d_En_init_5 : decode prog_4_method_1_code 5 = .ok (.new 7, 3) := by decide +kernel
theorem d_En_init_8 : decode prog_4_method_1_code 8 = .ok (.dup, 1) := by decide +kernel
theorem d_En_init_9 : decode prog_4_method_1_code 9 = .ok (.invokespecial 9, 3) := by decide +kernel
theorem d_En_init_12 : decode prog_4_method_1_code 12 = .ok (.putfield 10, 3) := by decide +kernel
theorem d_En_init_15 : decode prog_4_method_1_code 15 = .ok (.aload_n 0, 1) := by decide +kernel
theorem d_En_init_16 : decode prog_4_method_1_code 16 = .ok (.bipush 15, 2) := by decide +kernel
theorem d_En_init_18 : decode prog_4_method_1_code 18 = .ok (.newarray .int, 2) := by decide +kernel
theorem d_En_init_20 : decode prog_4_method_1_code 20 = .ok (.putfield 18, 3) := by decide +kernel
theorem d_En_init_23 : decode prog_4_method_1_code 23 = .ok (.aload_n 0, 1) := by decide +kernel
theorem d_En_init_24 : decode prog_4_method_1_code 24 = .ok (.iconst (-1), 1) := by decide +kernel
theorem d_En_init_25 : decode prog_4_method_1_code 25 = .ok (.putfield 22, 3) := by decide +kernel
theorem d_En_init_28 : decode prog_4_method_1_code 28 = .ok (.new 26, 3) := by decide +kernel
theorem d_En_init_31 : decode prog_4_method_1_code 31 = .ok (.dup, 1) := by decide +kernel
theorem d_En_init_32 : decode prog_4_method_1_code 32 = .ok (.aload_n 1, 1) := by decide +kernel
theorem d_En_init_33 : decode prog_4_method_1_code 33 = .ok (.aload_n 3, 1) := by decide +kernel
theorem d_En_init_34 : decode prog_4_method_1_code 34 = .ok (.invokespecial 28, 3) := by decide +kernel
theorem d_En_init_37 : decode prog_4_method_1_code 37 = .ok (.astore 5, 2) := by decide +kernel
theorem d_En_init_39 : decode prog_4_method_1_code 39 = .ok (.aload_n 0, 1) := by decide +kernel
theorem d_En_init_40 : decode prog_4_method_1_code 40 = .ok (.aload_n 1, 1) := by decide +kernel
theorem d_En_init_41 : decode prog_4_method_1_code 41 = .ok (.putfield 31, 3) := by decide +kernel
theorem d_En_init_44 : decode prog_4_method_1_code 44 = .ok (.aload_n 0, 1) := by decide +kernel
theorem d_En_init_45 : decode prog_4_method_1_code 45 = .ok (.aload_n 2, 1) := by decide +kernel
theorem d_En_init_46 : decode prog_4_method_1_code 46 = .ok (.putfield 35, 3) := by decide +kernel
theorem d_En_init_49 : decode prog_4_method_1_code 49 = .ok (.aload_n 0, 1) := by decide +kernel
theorem d_En_init_50 : decode prog_4_method_1_code 50 = .ok (.aload_n 3, 1) := by decide +kernel
theorem d_En_init_51 : decode prog_4_method_1_code 51 = .ok (.putfield 39, 3) := by decide +kernel
theorem d_En_init_54 : decode prog_4_method_1_code 54 = .ok (.aload_n 0, 1) := by decide +kernel
theorem d_En_init_55 : decode prog_4_method_1_code 55 = .ok (.aload 4, 2) := by decide +kernel
theorem d_En_init_57 : decode prog_4_method_1_code 57 = .ok (.putfield 43, 3) := by decide +kernel
theorem d_En_init_60 : decode prog_4_method_1_code 60 = .ok (.aload_n 0, 1) := by decide +kernel
theorem d_En_init_61 : decode prog_4_method_1_code 61 = .ok (.aload 5, 2) := by decide +kernel
theorem d_En_init_63 : decode prog_4_method_1_code 63 = .ok (.putfield 47, 3) := by decide +kernel
theorem d_En_init_66 : decode prog_4_method_1_code 66 = .ok (.aload_n 0, 1) := by decide +kernel
theorem d_En_init_67 : decode prog_4_method_1_code 67 = .ok (.new 51, 3) := by decide +kernel
theorem d_En_init_70 : decode prog_4_method_1_code 70 = .ok (.dup, 1) := by decide +kernel
theorem d_En_init_71 : decode prog_4_method_1_code 71 = .ok (.aload_n 1, 1) := by decide +kernel
theorem d_En_init_72 : decode prog_4_method_1_code 72 = .ok (.invokespecial 53, 3) := by decide +kernel
theorem d_En_init_75 : decode prog_4_method_1_code 75 = .ok (.putfield 56, 3) := by decide +kernel
theorem d_En_init_78 : decode prog_4_method_1_code 78 = .ok (.aload_n 0, 1) := by decide +kernel
theorem d_En_init_79 : decode prog_4_method_1_code 79 = .ok (.new 60, 3) := by decide +kernel
theorem d_En_init_82 : decode prog_4_method_1_code 82 = .ok (.dup, 1) := by decide +kernel
theorem d_En_init_83 : decode prog_4_method_1_code 83 = .ok (.aload_n 1, 1) := by decide +kernel
theorem d_En_init_84 : decode prog_4_method_1_code 84 = .ok (.invokespecial 62, 3) := by decide +kernel
theorem d_En_init_87 : decode prog_4_method_1_code 87 = .ok (.putfield 63, 3) := by decide +kernel
theorem d_En_init_90 : decode prog_4_method_1_code 90 = .ok (.aload_n 0, 1) := by decide +kernel
theorem d_En_init_91 : decode prog_4_method_1_code 91 = .ok (.new 67, 3) := by decide +kernel
theorem d_En_init_94 : decode prog_4_method_1_code 94 = .ok (.dup, 1) := by decide +kernel
theorem d_En_init_95 : decode prog_4_method_1_code 95 = .ok (.aload_n 1, 1) := by decide +kernel
theorem d_En_init_96 : decode prog_4_method_1_code 96 = .ok (.aload 5, 2) := by decide +kernel
theorem d_En_init_98 : decode prog_4_method_1_code 98 = .ok (.invokespecial 69, 3) := by decide +kernel
theorem d_En_init_101 : decode prog_4_method_1_code 101 = .ok (.putfield 72, 3) := by decide +kernel
theorem d_En_init_104 : decode prog_4_method_1_code 104 = .ok (.return_, 1) := by decide +kernel
theorem d_SM_init_0 : decode prog_1_method_1_code 0 = .ok (.aload_n 0, 1) := by decide +kernel
theorem d_SM_init_1 : decode prog_1_method_1_code 1 = .ok (.invokespecial 1, 3) := by decide +kernel
theorem d_SM_init_4 : decode prog_1_method_1_code 4 = .ok (.new 7, 3) := by decide +kernel
theorem d_SM_init_7 : decode prog_1_method_1_code 7 = .ok (.dup, 1) := by decide +kernel
theorem d_SM_init_8 : decode prog_1_method_1_code 8 = .ok (.invokespecial 9, 3) := by decide +kernel
theorem d_SM_init_11 : decode prog_1_method_1_code 11 = .ok (.astore_n 1, 1) := by decide +kernel
theorem d_SM_init_12 : decode prog_1_method_1_code 12 = .ok (.new 10, 3) := by decide +kernel
theorem d_SM_init_15 : decode prog_1_method_1_code 15 = .ok (.dup, 1) := by decide +kernel
theorem d_SM_init_16 : decode prog_1_method_1_code 16 = .ok (.invokespecial 12, 3) := by decide +kernel
theorem d_SM_init_19 : decode prog_1_method_1_code 19 = .ok (.astore_n 2, 1) := by decide +kernel
theorem d_SM_init_20 : decode prog_1_method_1_code 20 = .ok (.new 13, 3) := by decide +kernel
theorem d_SM_init_23 : decode prog_1_method_1_code 23 = .ok (.dup, 1) := by decide +kernel
theorem d_SM_init_24 : decode prog_1_method_1_code 24 = .ok (.invokespecial 15, 3) := by decide +kernel
theorem d_SM_init_27 : decode prog_1_method_1_code 27 = .ok (.astore_n 3, 1) := by decide +kernel
theorem d_SM_init_28 : decode prog_1_method_1_code 28 = .ok (.new 16, 3) := by decide +kernel
theorem d_SM_init_31 : decode prog_1_method_1_code 31 = .ok (.dup, 1) := by decide +kernel
theorem d_SM_init_32 : decode prog_1_method_1_code 32 = .ok (.aload_n 1, 1) := by decide +kernel
theorem d_SM_init_33 : decode prog_1_method_1_code 33 = .ok (.invokespecial 18, 3) := by decide +kernel
theorem d_SM_init_36 : decode prog_1_method_1_code 36 = .ok (.astore 4, 2) := by decide +kernel
theorem d_SM_init_38 : decode prog_1_method_1_code 38 = .ok (.aload_n 0, 1) := by decide +kernel
theorem d_SM_init_39 : decode prog_1_method_1_code 39 = .ok (.aload_n 1, 1) := by decide +kernel
theorem d_SM_init_40 : decode prog_1_method_1_code 40 = .ok (.putfield 21, 3) := by decide +kernel
theorem d_SM_init_43 : decode prog_1_method_1_code 43 = .ok (.aload_n 0, 1) := by decide +kernel
theorem d_SM_init_44 : decode prog_1_method_1_code 44 = .ok (.aload_n 2, 1) := by decide +kernel
theorem d_SM_init_45 : decode prog_1_method_1_code 45 = .ok (.putfield 27, 3) := by decide +kernel
theorem d_SM_init_48 : decode prog_1_method_1_code 48 = .ok (.aload_n 0, 1) := by decide +kernel
theorem d_SM_init_49 : decode prog_1_method_1_code 49 = .ok (.aload_n 3, 1) := by decide +kernel
theorem d_SM_init_50 : decode prog_1_method_1_code 50 = .ok (.putfield 31, 3) := by decide +kernel
theorem d_SM_init_53 : decode prog_1_method_1_code 53 = .ok (.aload_n 0, 1) := by decide +kernel
theorem d_SM_init_54 : decode prog_1_method_1_code 54 = .ok (.aload 4, 2) := by decide +kernel
theorem d_SM_init_56 : decode prog_1_method_1_code 56 = .ok (.putfield 35, 3) := by decide +kernel
theorem d_SM_init_59 : decode prog_1_method_1_code 59 = .ok (.aload_n 0, 1) := by decide +kernel
theorem d_SM_init_60 : decode prog_1_method_1_code 60 = .ok (.new 39, 3) := by decide +kernel
theorem d_SM_init_63 : decode prog_1_method_1_code 63 = .ok (.dup, 1) := by decide +kernel
theorem d_SM_init_64 : decode prog_1_method_1_code 64 = .ok (.aload_n 1, 1) := by decide +kernel
theorem d_SM_init_65 : decode prog_1_method_1_code 65 = .ok (.aload_n 2, 1) := by decide +kernel
theorem d_SM_init_66 : decode prog_1_method_1_code 66 = .ok (.aload_n 3, 1) := by decide +kernel
theorem d_SM_init_67 : decode prog_1_method_1_code 67 = .ok (.aload 4, 2) := by decide +kernel
theorem d_SM_init_69 : decode prog_1_method_1_code 69 = .ok (.invokespecial 41, 3) := by decide +kernel
theorem d_SM_init_72 : decode prog_1_method_1_code 72 = .ok (.putfield 44, 3) := by decide +kernel
theorem d_SM_init_75 : decode prog_1_method_1_code 75 = .ok (.return_, 1) := by decide +kernel
theorem d_Mo_init_0 : decode prog_13_method_1_code 0 = .ok (.aload_n 0, 1) := by decide +kernel
theorem d_Mo_init_1 : decode prog_13_method_1_code 1 = .ok (.invokespecial 1, 3) := by decide +kernel
theorem d_Mo_init_4 : decode prog_13_method_1_code 4 = .ok (.aload_n 0, 1) := by decide +kernel
theorem d_Mo_init_5 : decode prog_13_method_1_code 5 = .ok (.sipush 512, 3) := by decide +kernel
theorem d_Mo_init_8 : decode prog_13_method_1_code 8 = .ok (.newarray .int, 2) := by decide +kernel
theorem d_Mo_init_10 : decode prog_13_method_1_code 10 = .ok (.putfield 7, 3) := by decide +kernel
theorem d_Mo_init_13 : decode prog_13_method_1_code 13 = .ok (.aload_n 0, 1) := by decide +kernel
theorem d_Mo_init_14 : decode prog_13_method_1_code 14 = .ok (.bipush 48, 2) := by decide +kernel
theorem d_Mo_init_16 : decode prog_13_method_1_code 16 = .ok (.newarray .int, 2) := by decide +kernel
theorem d_Mo_init_18 : decode prog_13_method_1_code 18 = .ok (.putfield 13, 3) := by decide +kernel
theorem d_Mo_init_21 : decode prog_13_method_1_code 21 = .ok (.aload_n 0, 1) := by decide +kernel
theorem d_Mo_init_22 : decode prog_13_method_1_code 22 = .ok (.bipush 11, 2) := by decide +kernel
theorem d_Mo_init_24 : decode prog_13_method_1_code 24 = .ok (.newarray .int, 2) := by decide +kernel
theorem d_Mo_init_26 : decode prog_13_method_1_code 26 = .ok (.putfield 16, 3) := by decide +kernel
theorem d_Mo_init_29 : decode prog_13_method_1_code 29 = .ok (.aload_n 0, 1) := by decide +kernel
theorem d_Mo_init_30 : decode prog_13_method_1_code 30 = .ok (.bipush 11, 2) := by decide +kernel
theorem d_Mo_init_32 : decode prog_13_method_1_code 32 = .ok (.newarray .int, 2) := by decide +kernel
theorem d_Mo_init_34 : decode prog_13_method_1_code 34 = .ok (.putfield 19, 3) := by decide +kernel
theorem d_Mo_init_37 : decode prog_13_method_1_code 37 = .ok (.aload_n 0, 1) := by decide +kernel
theorem d_Mo_init_38 : decode prog_13_method_1_code 38 = .ok (.bipush 11, 2) := by decide +kernel
theorem d_Mo_init_40 : decode prog_13_method_1_code 40 = .ok (.newarray .int, 2) := by decide +kernel
theorem d_Mo_init_42 : decode prog_13_method_1_code 42 = .ok (.putfield 22, 3) := by decide +kernel
theorem d_Mo_init_45 : decode prog_13_method_1_code 45 = .ok (.aload_n 0, 1) := by decide +kernel
theorem d_Mo_init_46 : decode prog_13_method_1_code 46 = .ok (.bipush 11, 2) := by decide +kernel
theorem d_Mo_init_48 : decode prog_13_method_1_code 48 = .ok (.newarray .int, 2) := by decide +kernel
theorem d_Mo_init_50 : decode prog_13_method_1_code 50 = .ok (.putfield 25, 3) := by decide +kernel
theorem d_Mo_init_53 : decode prog_13_method_1_code 53 = .ok (.aload_n 0, 1) := by decide +kernel
theorem d_Mo_init_54 : decode prog_13_method_1_code 54 = .ok (.sipush 165, 3) := by decide +kernel
theorem d_Mo_init_57 : decode prog_13_method_1_code 57 = .ok (.newarray .int, 2) := by decide +kernel
theorem d_Mo_init_59 : decode prog_13_method_1_code 59 = .ok (.putfield 28, 3) := by decide +kernel
theorem d_Mo_init_62 : decode prog_13_method_1_code 62 = .ok (.aload_n 0, 1) := by decide +kernel
theorem d_Mo_init_63 : decode prog_13_method_1_code 63 = .ok (.sipush 512, 3) := by decide +kernel
theorem d_Mo_init_66 : decode prog_13_method_1_code 66 = .ok (.newarray .int, 2) := by decide +kernel
theorem d_Mo_init_68 : decode prog_13_method_1_code 68 = .ok (.putfield 31, 3) := by decide +kernel
theorem d_Mo_init_71 : decode prog_13_method_1_code 71 = .ok (.aload_n 0, 1) := by decide +kernel
theorem d_Mo_init_72 : decode prog_13_method_1_code 72 = .ok (.bipush 48, 2) := by decide +kernel
theorem d_Mo_init_74 : decode prog_13_method_1_code 74 = .ok (.newarray .int, 2) := by decide +kernel
theorem d_Mo_init_76 : decode prog_13_method_1_code 76 = .ok (.putfield 34, 3) := by decide +kernel
theorem d_Mo_init_79 : decode prog_13_method_1_code 79 = .ok (.aload_n 0, 1) := by decide +kernel
theorem d_Mo_init_80 : decode prog_13_method_1_code 80 = .ok (.bipush 11, 2) := by decide +kernel
theorem d_Mo_init_82 : decode prog_13_method_1_code 82 = .ok (.newarray .int, 2) := by decide +kernel
theorem d_Mo_init_84 : decode prog_13_method_1_code 84 = .ok (.putfield 37, 3) := by decide +kernel
theorem d_Mo_init_87 : decode prog_13_method_1_code 87 = .ok (.aload_n 0, 1) := by decide +kernel
theorem d_Mo_init_88 : decode prog_13_method_1_code 88 = .ok (.bipush 11, 2) := by decide +kernel
theorem d_Mo_init_90 : decode prog_13_method_1_code 90 = .ok (.newarray .int, 2) := by decide +kernel
theorem d_Mo_init_92 : decode prog_13_method_1_code 92 = .ok (.putfield 40, 3) := by decide +kernel
theorem d_Mo_init_95 : decode prog_13_method_1_code 95 = .ok (.aload_n 0, 1) := by decide +kernel
theorem d_Mo_init_96 : decode prog_13_method_1_code 96 = .ok (.bipush 11, 2) := by decide +kernel
theorem d_Mo_init_98 : decode prog_13_method_1_code 98 = .ok (.newarray .int, 2) := by decide +kernel
theorem d_Mo_init_100 : decode prog_13_method_1_code 100 = .ok (.putfield 43, 3) := by decide +kernel
theorem d_Mo_init_103 : decode prog_13_method_1_code 103 = .ok (.aload_n 0, 1) := by decide +kernel
theorem d_Mo_init_104 : decode prog_13_method_1_code 104 = .ok (.bipush 11, 2) := by decide +kernel
theorem d_Mo_init_106 : decode prog_13_method_1_code 106 = .ok (.newarray .int, 2) := by decide +kernel
theorem d_Mo_init_108 : decode prog_13_method_1_code 108 = .ok (.putfield 46, 3) := by decide +kernel
theorem d_Mo_init_111 : decode prog_13_method_1_code 111 = .ok (.aload_n 0, 1) := by decide +kernel
theorem d_Mo_init_112 : decode prog_13_method_1_code 112 = .ok (.sipush 165, 3) := by decide +kernel
theorem d_Mo_init_115 : decode prog_13_method_1_code 115 = .ok (.newarray .int, 2) := by decide +kernel
theorem d_Mo_init_117 : decode prog_13_method_1_code 117 = .ok (.putfield 49, 3) := by decide +kernel
theorem d_Mo_init_120 : decode prog_13_method_1_code 120 = .ok (.aload_n 0, 1) := by decide +kernel
theorem d_Mo_init_121 : decode prog_13_method_1_code 121 = .ok (.bipush 64, 2) := by decide +kernel
theorem d_Mo_init_123 : decode prog_13_method_1_code 123 = .ok (.newarray .int, 2) := by decide +kernel
theorem d_Mo_init_125 : decode prog_13_method_1_code 125 = .ok (.putfield 52, 3) := by decide +kernel
theorem d_Mo_init_128 : decode prog_13_method_1_code 128 = .ok (.aload_n 0, 1) := by decide +kernel
theorem d_Mo_init_129 : decode prog_13_method_1_code 129 = .ok (.bipush 24, 2) := by decide +kernel
theorem d_Mo_init_131 : decode prog_13_method_1_code 131 = .ok (.newarray .int, 2) := by decide +kernel
theorem d_Mo_init_133 : decode prog_13_method_1_code 133 = .ok (.putfield 55, 3) := by decide +kernel
theorem d_Mo_init_136 : decode prog_13_method_1_code 136 = .ok (.aload_n 0, 1) := by decide +kernel
theorem d_Mo_init_137 : decode prog_13_method_1_code 137 = .ok (.bipush 24, 2) := by decide +kernel
theorem d_Mo_init_139 : decode prog_13_method_1_code 139 = .ok (.newarray .int, 2) := by decide +kernel
theorem d_Mo_init_141 : decode prog_13_method_1_code 141 = .ok (.putfield 58, 3) := by decide +kernel
theorem d_Mo_init_144 : decode prog_13_method_1_code 144 = .ok (.aload_n 0, 1) := by decide +kernel
theorem d_Mo_init_145 : decode prog_13_method_1_code 145 = .ok (.iconst 4, 1) := by decide +kernel
theorem d_Mo_init_146 : decode prog_13_method_1_code 146 = .ok (.newarray .int, 2) := by decide +kernel
theorem d_Mo_init_148 : decode prog_13_method_1_code 148 = .ok (.putfield 61, 3) := by decide +kernel
theorem d_Mo_init_151 : decode prog_13_method_1_code 151 = .ok (.aload_n 0, 1) := by decide +kernel
theorem d_Mo_init_152 : decode prog_13_method_1_code 152 = .ok (.bipush 6, 2) := by decide +kernel
theorem d_Mo_init_154 : decode prog_13_method_1_code 154 = .ok (.newarray .int, 2) := by decide +kernel
theorem d_Mo_init_156 : decode prog_13_method_1_code 156 = .ok (.putfield 64, 3) := by decide +kernel
theorem d_Mo_init_159 : decode prog_13_method_1_code 159 = .ok (.aload_n 0, 1) := by decide +kernel
theorem d_Mo_init_160 : decode prog_13_method_1_code 160 = .ok (.bipush 24, 2) := by decide +kernel
theorem d_Mo_init_162 : decode prog_13_method_1_code 162 = .ok (.newarray .int, 2) := by decide +kernel
theorem d_Mo_init_164 : decode prog_13_method_1_code 164 = .ok (.putfield 67, 3) := by decide +kernel
theorem d_Mo_init_167 : decode prog_13_method_1_code 167 = .ok (.aload_n 0, 1) := by decide +kernel
theorem d_Mo_init_168 : decode prog_13_method_1_code 168 = .ok (.bipush 24, 2) := by decide +kernel
theorem d_Mo_init_170 : decode prog_13_method_1_code 170 = .ok (.newarray .int, 2) := by decide +kernel
theorem d_Mo_init_172 : decode prog_13_method_1_code 172 = .ok (.putfield 70, 3) := by decide +kernel
theorem d_Mo_init_175 : decode prog_13_method_1_code 175 = .ok (.return_, 1) := by decide +kernel
theorem d_La_law_0 : decode code 0 = .ok (.new 8, 3) := by decide +kernel
theorem d_La_law_3 : decode code 3 = .ok (.dup, 1) := by decide +kernel
theorem d_La_law_4 : decode code 4 = .ok (.invokespecial 42, 3) := by decide +kernel
theorem d_La_law_7 : decode code 7 = .ok (.astore_n 1, 1) := by decide +kernel
theorem d_La_law_8 : decode code 8 = .ok (.new 43, 3) := by decide +kernel
theorem d_La_law_11 : decode code 11 = .ok (.dup, 1) := by decide +kernel
theorem d_La_law_12 : decode code 12 = .ok (.invokespecial 45, 3) := by decide +kernel
theorem d_La_law_15 : decode code 15 = .ok (.astore_n 2, 1) := by decide +kernel
theorem d_La_law_16 : decode code 16 = .ok (.iconst 1, 1) := by decide +kernel
theorem d_La_law_17 : decode code 17 = .ok (.newarray .long, 2) := by decide +kernel
theorem d_La_law_19 : decode code 19 = .ok (.astore_n 3, 1) := by decide +kernel
theorem d_La_law_20 : decode code 20 = .ok (.iconst 0, 1) := by decide +kernel
theorem d_La_law_21 : decode code 21 = .ok (.istore 4, 2) := by decide +kernel
theorem d_La_law_23 : decode code 23 = .ok (.iload 4, 2) := by decide +kernel
theorem d_La_law_25 : decode code 25 = .ok (.aload_n 0, 1) := by decide +kernel
theorem d_La_law_26 : decode code 26 = .ok (.arraylength, 1) := by decide +kernel
theorem d_La_law_27 : decode code 27 = .ok (.iconst 5, 1) := by decide +kernel
theorem d_La_law_28 : decode code 28 = .ok (.isub, 1) := by decide +kernel
theorem d_La_law_29 : decode code 29 = .ok (.if_icmp .gt 441, 3) := by decide +kernel
theorem d_La_law_32 : decode code 32 = .ok (.aload_n 0, 1) := by decide +kernel
theorem d_La_law_33 : decode code 33 = .ok (.iload 4, 2) := by decide +kernel
theorem d_La_law_35 : decode code 35 = .ok (.iaload, 1) := by decide +kernel
theorem d_La_law_36 : decode code 36 = .ok (.bipush 15, 2) := by decide +kernel
theorem d_La_law_38 : decode code 38 = .ok (.iand, 1) := by decide +kernel
theorem d_La_law_39 : decode code 39 = .ok (.tableswitch 425 0 11 #[61, 153, 181, 194, 263, 274, 302, 315, 328, 356, 384, 412], 61) := by decide +kernel
theorem d_La_law_100 : decode code 100 = .ok (.aload_n 1, 1) := by decide +kernel
theorem d_La_law_101 : decode code 101 = .ok (.aload_n 0, 1) := by decide +kernel
theorem d_La_law_102 : decode code 102 = .ok (.iload 4, 2) := by decide +kernel
theorem d_La_law_104 : decode code 104 = .ok (.iconst 1, 1) := by decide +kernel
theorem d_La_law_105 : decode code 105 = .ok (.iadd, 1) := by decide +kernel
theorem d_La_law_106 : decode code 106 = .ok (.iaload, 1) := by decide +kernel
theorem d_La_law_107 : decode code 107 = .ok (.aload_n 0, 1) := by decide +kernel
theorem d_La_law_108 : decode code 108 = .ok (.iload 4, 2) := by decide +kernel
theorem d_La_law_110 : decode code 110 = .ok (.iconst 2, 1) := by decide +kernel
theorem d_La_law_111 : decode code 111 = .ok (.iadd, 1) := by decide +kernel
theorem d_La_law_112 : decode code 112 = .ok (.iaload, 1) := by decide +kernel
theorem d_La_law_113 : decode code 113 = .ok (.i2l, 1) := by decide +kernel
theorem d_La_law_114 : decode code 114 = .ok (.bipush 32, 2) := by decide +kernel
theorem d_La_law_116 : decode code 116 = .ok (.lshl, 1) := by decide +kernel
theorem d_La_law_117 : decode code 117 = .ok (.aload_n 0, 1) := by decide +kernel
theorem d_La_law_118 : decode code 118 = .ok (.iload 4, 2) := by decide +kernel
theorem d_La_law_120 : decode code 120 = .ok (.iconst 3, 1) := by decide +kernel
theorem d_La_law_121 : decode code 121 = .ok (.iadd, 1) := by decide +kernel
theorem d_La_law_122 : decode code 122 = .ok (.iaload, 1) := by decide +kernel
theorem d_La_law_123 : decode code 123 = .ok (.i2l, 1) := by decide +kernel
theorem d_La_law_124 : decode code 124 = .ok (.ldc2_w 46, 3) := by decide +kernel
theorem d_La_law_127 : decode code 127 = .ok (.land, 1) := by decide +kernel
theorem d_La_law_128 : decode code 128 = .ok (.lor, 1) := by decide +kernel
theorem d_La_law_129 : decode code 129 = .ok (.aload_n 0, 1) := by decide +kernel
theorem d_La_law_130 : decode code 130 = .ok (.iload 4, 2) := by decide +kernel
theorem d_La_law_132 : decode code 132 = .ok (.iconst 4, 1) := by decide +kernel
theorem d_La_law_133 : decode code 133 = .ok (.iadd, 1) := by decide +kernel
theorem d_La_law_134 : decode code 134 = .ok (.iaload, 1) := by decide +kernel
theorem d_La_law_135 : decode code 135 = .ok (.invokestatic 48, 3) := by decide +kernel
theorem d_La_law_138 : decode code 138 = .ok (.istore 5, 2) := by decide +kernel
theorem d_La_law_140 : decode code 140 = .ok (.aload_n 2, 1) := by decide +kernel
theorem d_La_law_141 : decode code 141 = .ok (.aload_n 0, 1) := by decide +kernel
theorem d_La_law_142 : decode code 142 = .ok (.iload 4, 2) := by decide +kernel
theorem d_La_law_144 : decode code 144 = .ok (.iconst 1, 1) := by decide +kernel
theorem d_La_law_145 : decode code 145 = .ok (.iadd, 1) := by decide +kernel
theorem d_La_law_146 : decode code 146 = .ok (.iaload, 1) := by decide +kernel
theorem d_La_law_147 : decode code 147 = .ok (.aload_n 0, 1) := by decide +kernel
theorem d_La_law_148 : decode code 148 = .ok (.iload 4, 2) := by decide +kernel
theorem d_La_law_150 : decode code 150 = .ok (.iconst 2, 1) := by decide +kernel
theorem d_La_law_151 : decode code 151 = .ok (.iadd, 1) := by decide +kernel
theorem d_La_law_152 : decode code 152 = .ok (.iaload, 1) := by decide +kernel
theorem d_La_law_153 : decode code 153 = .ok (.i2l, 1) := by decide +kernel
theorem d_La_law_154 : decode code 154 = .ok (.bipush 32, 2) := by decide +kernel
theorem d_La_law_156 : decode code 156 = .ok (.lshl, 1) := by decide +kernel
theorem d_La_law_157 : decode code 157 = .ok (.aload_n 0, 1) := by decide +kernel
theorem d_La_law_158 : decode code 158 = .ok (.iload 4, 2) := by decide +kernel
theorem d_La_law_160 : decode code 160 = .ok (.iconst 3, 1) := by decide +kernel
theorem d_La_law_161 : decode code 161 = .ok (.iadd, 1) := by decide +kernel
theorem d_La_law_162 : decode code 162 = .ok (.iaload, 1) := by decide +kernel
theorem d_La_law_163 : decode code 163 = .ok (.i2l, 1) := by decide +kernel
theorem d_La_law_164 : decode code 164 = .ok (.ldc2_w 46, 3) := by decide +kernel
theorem d_La_law_167 : decode code 167 = .ok (.land, 1) := by decide +kernel
theorem d_La_law_168 : decode code 168 = .ok (.lor, 1) := by decide +kernel
theorem d_La_law_169 : decode code 169 = .ok (.aload_n 0, 1) := by decide +kernel
theorem d_La_law_170 : decode code 170 = .ok (.iload 4, 2) := by decide +kernel
theorem d_La_law_172 : decode code 172 = .ok (.iconst 4, 1) := by decide +kernel
theorem d_La_law_173 : decode code 173 = .ok (.iadd, 1) := by decide +kernel
theorem d_La_law_174 : decode code 174 = .ok (.iaload, 1) := by decide +kernel
theorem d_La_law_175 : decode code 175 = .ok (.invokevirtual 53, 3) := by decide +kernel
theorem d_La_law_178 : decode code 178 = .ok (.aload_n 2, 1) := by decide +kernel
theorem d_La_law_179 : decode code 179 = .ok (.invokevirtual 54, 3) := by decide +kernel
theorem d_La_law_182 : decode code 182 = .ok (.iload 5, 2) := by decide +kernel
theorem d_La_law_184 : decode code 184 = .ok (.if_icmp .eq 5, 3) := by decide +kernel
theorem d_La_law_187 : decode code 187 = .ok (.iconst 0, 1) := by decide +kernel
theorem d_La_law_188 : decode code 188 = .ok (.ireturn, 1) := by decide +kernel
theorem d_La_law_189 : decode code 189 = .ok (.goto 275, 3) := by decide +kernel
theorem d_La_law_192 : decode code 192 = .ok (.aload_n 1, 1) := by decide +kernel
theorem d_La_law_193 : decode code 193 = .ok (.aload_n 0, 1) := by decide +kernel
theorem d_La_law_194 : decode code 194 = .ok (.iload 4, 2) := by decide +kernel
theorem d_La_law_196 : decode code 196 = .ok (.iconst 1, 1) := by decide +kernel
theorem d_La_law_197 : decode code 197 = .ok (.iadd, 1) := by decide +kernel
theorem d_La_law_198 : decode code 198 = .ok (.iaload, 1) := by decide +kernel
theorem d_La_law_199 : decode code 199 = .ok (.aload_n 3, 1) := by decide +kernel
theorem d_La_law_200 : decode code 200 = .ok (.invokestatic 58, 3) := by decide +kernel
theorem d_La_law_203 : decode code 203 = .ok (.istore 5, 2) := by decide +kernel
theorem d_La_law_205 : decode code 205 = .ok (.aload_n 2, 1) := by decide +kernel
theorem d_La_law_206 : decode code 206 = .ok (.aload_n 0, 1) := by decide +kernel
theorem d_La_law_207 : decode code 207 = .ok (.iload 4, 2) := by decide +kernel
theorem d_La_law_209 : decode code 209 = .ok (.iconst 1, 1) := by decide +kernel
theorem d_La_law_210 : decode code 210 = .ok (.iadd, 1) := by decide +kernel
theorem d_La_law_211 : decode code 211 = .ok (.iaload, 1) := by decide +kernel
theorem d_La_law_212 : decode code 212 = .ok (.invokevirtual 61, 3) := by decide +kernel
theorem d_La_law_215 : decode code 215 = .ok (.istore 6, 2) := by decide +kernel
theorem d_La_law_217 : decode code 217 = .ok (.goto 247, 3) := by decide +kernel
theorem d_La_law_220 : decode code 220 = .ok (.aload_n 1, 1) := by decide +kernel
theorem d_La_law_221 : decode code 221 = .ok (.invokestatic 62, 3) := by decide +kernel
theorem d_La_law_224 : decode code 224 = .ok (.istore 5, 2) := by decide +kernel
theorem d_La_law_226 : decode code 226 = .ok (.aload_n 2, 1) := by decide +kernel
theorem d_La_law_227 : decode code 227 = .ok (.invokevirtual 65, 3) := by decide +kernel
theorem d_La_law_230 : decode code 230 = .ok (.goto 234, 3) := by decide +kernel
theorem d_La_law_233 : decode code 233 = .ok (.aload_n 1, 1) := by decide +kernel
theorem d_La_law_234 : decode code 234 = .ok (.aload_n 0, 1) := by decide +kernel
theorem d_La_law_235 : decode code 235 = .ok (.iload 4, 2) := by decide +kernel
theorem d_La_law_237 : decode code 237 = .ok (.iconst 1, 1) := by decide +kernel
theorem d_La_law_238 : decode code 238 = .ok (.iadd, 1) := by decide +kernel
theorem d_La_law_239 : decode code 239 = .ok (.iaload, 1) := by decide +kernel
theorem d_La_law_240 : decode code 240 = .ok (.i2l, 1) := by decide +kernel
theorem d_La_law_241 : decode code 241 = .ok (.bipush 32, 2) := by decide +kernel
theorem d_La_law_243 : decode code 243 = .ok (.lshl, 1) := by decide +kernel
theorem d_La_law_244 : decode code 244 = .ok (.aload_n 0, 1) := by decide +kernel
theorem d_La_law_245 : decode code 245 = .ok (.iload 4, 2) := by decide +kernel
theorem d_La_law_247 : decode code 247 = .ok (.iconst 2, 1) := by decide +kernel
theorem d_La_law_248 : decode code 248 = .ok (.iadd, 1) := by decide +kernel
theorem d_La_law_249 : decode code 249 = .ok (.iaload, 1) := by decide +kernel
theorem d_La_law_250 : decode code 250 = .ok (.i2l, 1) := by decide +kernel
theorem d_La_law_251 : decode code 251 = .ok (.ldc2_w 46, 3) := by decide +kernel
theorem d_La_law_254 : decode code 254 = .ok (.land, 1) := by decide +kernel
theorem d_La_law_255 : decode code 255 = .ok (.lor, 1) := by decide +kernel
theorem d_La_law_256 : decode code 256 = .ok (.aload_n 0, 1) := by decide +kernel
theorem d_La_law_257 : decode code 257 = .ok (.iload 4, 2) := by decide +kernel
theorem d_La_law_259 : decode code 259 = .ok (.iconst 3, 1) := by decide +kernel
theorem d_La_law_260 : decode code 260 = .ok (.iadd, 1) := by decide +kernel
theorem d_La_law_261 : decode code 261 = .ok (.iaload, 1) := by decide +kernel
theorem d_La_law_262 : decode code 262 = .ok (.invokestatic 66, 3) := by decide +kernel
theorem d_La_law_265 : decode code 265 = .ok (.istore 5, 2) := by decide +kernel
theorem d_La_law_267 : decode code 267 = .ok (.aload_n 2, 1) := by decide +kernel
theorem d_La_law_268 : decode code 268 = .ok (.aload_n 0, 1) := by decide +kernel
theorem d_La_law_269 : decode code 269 = .ok (.iload 4, 2) := by decide +kernel
theorem d_La_law_271 : decode code 271 = .ok (.iconst 1, 1) := by decide +kernel
theorem d_La_law_272 : decode code 272 = .ok (.iadd, 1) := by decide +kernel
theorem d_La_law_273 : decode code 273 = .ok (.iaload, 1) := by decide +kernel
theorem d_La_law_274 : decode code 274 = .ok (.i2l, 1) := by decide +kernel
theorem d_La_law_275 : decode code 275 = .ok (.bipush 32, 2) := by decide +kernel
theorem d_La_law_277 : decode code 277 = .ok (.lshl, 1) := by decide +kernel
theorem d_La_law_278 : decode code 278 = .ok (.aload_n 0, 1) := by decide +kernel
theorem d_La_law_279 : decode code 279 = .ok (.iload 4, 2) := by decide +kernel
theorem d_La_law_281 : decode code 281 = .ok (.iconst 2, 1) := by decide +kernel
theorem d_La_law_282 : decode code 282 = .ok (.iadd, 1) := by decide +kernel
theorem d_La_law_283 : decode code 283 = .ok (.iaload, 1) := by decide +kernel
theorem d_La_law_284 : decode code 284 = .ok (.i2l, 1) := by decide +kernel
theorem d_La_law_285 : decode code 285 = .ok (.ldc2_w 46, 3) := by decide +kernel
theorem d_La_law_288 : decode code 288 = .ok (.land, 1) := by decide +kernel
theorem d_La_law_289 : decode code 289 = .ok (.lor, 1) := by decide +kernel
theorem d_La_law_290 : decode code 290 = .ok (.aload_n 0, 1) := by decide +kernel
theorem d_La_law_291 : decode code 291 = .ok (.iload 4, 2) := by decide +kernel
theorem d_La_law_293 : decode code 293 = .ok (.iconst 3, 1) := by decide +kernel
theorem d_La_law_294 : decode code 294 = .ok (.iadd, 1) := by decide +kernel
theorem d_La_law_295 : decode code 295 = .ok (.iaload, 1) := by decide +kernel
theorem d_La_law_296 : decode code 296 = .ok (.invokevirtual 69, 3) := by decide +kernel
theorem d_La_law_299 : decode code 299 = .ok (.goto 165, 3) := by decide +kernel
theorem d_La_law_302 : decode code 302 = .ok (.aload_n 1, 1) := by decide +kernel
theorem d_La_law_303 : decode code 303 = .ok (.invokevirtual 70, 3) := by decide +kernel
theorem d_La_law_306 : decode code 306 = .ok (.aload_n 2, 1) := by decide +kernel
theorem d_La_law_307 : decode code 307 = .ok (.invokevirtual 73, 3) := by decide +kernel
theorem d_La_law_310 : decode code 310 = .ok (.goto 154, 3) := by decide +kernel
theorem d_La_law_313 : decode code 313 = .ok (.aload_n 1, 1) := by decide +kernel
theorem d_La_law_314 : decode code 314 = .ok (.aload_n 0, 1) := by decide +kernel
theorem d_La_law_315 : decode code 315 = .ok (.iload 4, 2) := by decide +kernel
theorem d_La_law_317 : decode code 317 = .ok (.iconst 1, 1) := by decide +kernel
theorem d_La_law_318 : decode code 318 = .ok (.iadd, 1) := by decide +kernel
theorem d_La_law_319 : decode code 319 = .ok (.iaload, 1) := by decide +kernel
theorem d_La_law_320 : decode code 320 = .ok (.aload_n 3, 1) := by decide +kernel
theorem d_La_law_321 : decode code 321 = .ok (.invokestatic 74, 3) := by decide +kernel
theorem d_La_law_324 : decode code 324 = .ok (.istore 5, 2) := by decide +kernel
theorem d_La_law_326 : decode code 326 = .ok (.aload_n 2, 1) := by decide +kernel
theorem d_La_law_327 : decode code 327 = .ok (.aload_n 0, 1) := by decide +kernel
theorem d_La_law_328 : decode code 328 = .ok (.iload 4, 2) := by decide +kernel
theorem d_La_law_330 : decode code 330 = .ok (.iconst 1, 1) := by decide +kernel
theorem d_La_law_331 : decode code 331 = .ok (.iadd, 1) := by decide +kernel
theorem d_La_law_332 : decode code 332 = .ok (.iaload, 1) := by decide +kernel
theorem d_La_law_333 : decode code 333 = .ok (.invokevirtual 76, 3) := by decide +kernel
theorem d_La_law_336 : decode code 336 = .ok (.istore 6, 2) := by decide +kernel
theorem d_La_law_338 : decode code 338 = .ok (.goto 126, 3) := by decide +kernel
theorem d_La_law_341 : decode code 341 = .ok (.aload_n 1, 1) := by decide +kernel
theorem d_La_law_342 : decode code 342 = .ok (.invokevirtual 77, 3) := by decide +kernel
theorem d_La_law_345 : decode code 345 = .ok (.pop, 1) := by decide +kernel
theorem d_La_law_346 : decode code 346 = .ok (.aload_n 2, 1) := by decide +kernel
theorem d_La_law_347 : decode code 347 = .ok (.invokevirtual 80, 3) := by decide +kernel
theorem d_La_law_350 : decode code 350 = .ok (.pop, 1) := by decide +kernel
theorem d_La_law_351 : decode code 351 = .ok (.goto 113, 3) := by decide +kernel
theorem d_La_law_354 : decode code 354 = .ok (.aload_n 1, 1) := by decide +kernel
theorem d_La_law_355 : decode code 355 = .ok (.invokevirtual 81, 3) := by decide +kernel
theorem d_La_law_358 : decode code 358 = .ok (.pop, 1) := by decide +kernel
theorem d_La_law_359 : decode code 359 = .ok (.aload_n 2, 1) := by decide +kernel
theorem d_La_law_360 : decode code 360 = .ok (.invokevirtual 84, 3) := by decide +kernel
theorem d_La_law_363 : decode code 363 = .ok (.pop, 1) := by decide +kernel
theorem d_La_law_364 : decode code 364 = .ok (.goto 100, 3) := by decide +kernel
theorem d_La_law_367 : decode code 367 = .ok (.aload_n 1, 1) := by decide +kernel
theorem d_La_law_368 : decode code 368 = .ok (.aload_n 0, 1) := by decide +kernel
theorem d_La_law_369 : decode code 369 = .ok (.iload 4, 2) := by decide +kernel
theorem d_La_law_371 : decode code 371 = .ok (.iconst 1, 1) := by decide +kernel
theorem d_La_law_372 : decode code 372 = .ok (.iadd, 1) := by decide +kernel
theorem d_La_law_373 : decode code 373 = .ok (.iaload, 1) := by decide +kernel
theorem d_La_law_374 : decode code 374 = .ok (.aload_n 3, 1) := by decide +kernel
theorem d_La_law_375 : decode code 375 = .ok (.invokestatic 85, 3) := by decide +kernel
theorem d_La_law_378 : decode code 378 = .ok (.istore 5, 2) := by decide +kernel
theorem d_La_law_380 : decode code 380 = .ok (.aload_n 2, 1) := by decide +kernel
theorem d_La_law_381 : decode code 381 = .ok (.aload_n 0, 1) := by decide +kernel
theorem d_La_law_382 : decode code 382 = .ok (.iload 4, 2) := by decide +kernel
theorem d_La_law_384 : decode code 384 = .ok (.iconst 1, 1) := by decide +kernel
theorem d_La_law_385 : decode code 385 = .ok (.iadd, 1) := by decide +kernel
theorem d_La_law_386 : decode code 386 = .ok (.iaload, 1) := by decide +kernel
theorem d_La_law_387 : decode code 387 = .ok (.invokevirtual 87, 3) := by decide +kernel
theorem d_La_law_390 : decode code 390 = .ok (.istore 6, 2) := by decide +kernel
theorem d_La_law_392 : decode code 392 = .ok (.goto 72, 3) := by decide +kernel
theorem d_La_law_395 : decode code 395 = .ok (.aload_n 1, 1) := by decide +kernel
theorem d_La_law_396 : decode code 396 = .ok (.aload_n 0, 1) := by decide +kernel
theorem d_La_law_397 : decode code 397 = .ok (.iload 4, 2) := by decide +kernel
theorem d_La_law_399 : decode code 399 = .ok (.iconst 1, 1) := by decide +kernel
theorem d_La_law_400 : decode code 400 = .ok (.iadd, 1) := by decide +kernel
theorem d_La_law_401 : decode code 401 = .ok (.iaload, 1) := by decide +kernel
theorem d_La_law_402 : decode code 402 = .ok (.aload_n 3, 1) := by decide +kernel
theorem d_La_law_403 : decode code 403 = .ok (.invokestatic 88, 3) := by decide +kernel
theorem d_La_law_406 : decode code 406 = .ok (.istore 5, 2) := by decide +kernel
theorem d_La_law_408 : decode code 408 = .ok (.aload_n 2, 1) := by decide +kernel
theorem d_La_law_409 : decode code 409 = .ok (.aload_n 0, 1) := by decide +kernel
theorem d_La_law_410 : decode code 410 = .ok (.iload 4, 2) := by decide +kernel
theorem d_La_law_412 : decode code 412 = .ok (.iconst 1, 1) := by decide +kernel
theorem d_La_law_413 : decode code 413 = .ok (.iadd, 1) := by decide +kernel
theorem d_La_law_414 : decode code 414 = .ok (.iaload, 1) := by decide +kernel
theorem d_La_law_415 : decode code 415 = .ok (.invokevirtual 90, 3) := by decide +kernel
theorem d_La_law_418 : decode code 418 = .ok (.istore 6, 2) := by decide +kernel
theorem d_La_law_420 : decode code 420 = .ok (.goto 44, 3) := by decide +kernel
theorem d_La_law_423 : decode code 423 = .ok (.aload_n 1, 1) := by decide +kernel
theorem d_La_law_424 : decode code 424 = .ok (.aload_n 0, 1) := by decide +kernel
theorem d_La_law_425 : decode code 425 = .ok (.iload 4, 2) := by decide +kernel
theorem d_La_law_427 : decode code 427 = .ok (.iconst 1, 1) := by decide +kernel
theorem d_La_law_428 : decode code 428 = .ok (.iadd, 1) := by decide +kernel
theorem d_La_law_429 : decode code 429 = .ok (.iaload, 1) := by decide +kernel
theorem d_La_law_430 : decode code 430 = .ok (.aload_n 3, 1) := by decide +kernel
theorem d_La_law_431 : decode code 431 = .ok (.invokestatic 91, 3) := by decide +kernel
theorem d_La_law_434 : decode code 434 = .ok (.istore 5, 2) := by decide +kernel
theorem d_La_law_436 : decode code 436 = .ok (.aload_n 2, 1) := by decide +kernel
theorem d_La_law_437 : decode code 437 = .ok (.aload_n 0, 1) := by decide +kernel
theorem d_La_law_438 : decode code 438 = .ok (.iload 4, 2) := by decide +kernel
theorem d_La_law_440 : decode code 440 = .ok (.iconst 1, 1) := by decide +kernel
theorem d_La_law_441 : decode code 441 = .ok (.iadd, 1) := by decide +kernel
theorem d_La_law_442 : decode code 442 = .ok (.iaload, 1) := by decide +kernel
theorem d_La_law_443 : decode code 443 = .ok (.invokevirtual 93, 3) := by decide +kernel
theorem d_La_law_446 : decode code 446 = .ok (.istore 6, 2) := by decide +kernel
theorem d_La_law_448 : decode code 448 = .ok (.goto 16, 3) := by decide +kernel
theorem d_La_law_451 : decode code 451 = .ok (.aload_n 1, 1) := by decide +kernel
theorem d_La_law_452 : decode code 452 = .ok (.invokevirtual 94, 3) := by decide +kernel
theorem d_La_law_455 : decode code 455 = .ok (.pop, 1) := by decide +kernel
theorem d_La_law_456 : decode code 456 = .ok (.aload_n 2, 1) := by decide +kernel
theorem d_La_law_457 : decode code 457 = .ok (.invokevirtual 97, 3) := by decide +kernel
theorem d_La_law_460 : decode code 460 = .ok (.pop, 1) := by decide +kernel
theorem d_La_law_461 : decode code 461 = .ok (.goto 3, 3) := by decide +kernel
theorem d_La_law_464 : decode code 464 = .ok (.iinc 4 5, 3) := by decide +kernel
theorem d_La_law_467 : decode code 467 = .ok (.goto (-444), 3) := by decide +kernel
theorem d_La_law_470 : decode code 470 = .ok (.iconst 1, 1) := by decide +kernel
theorem d_La_law_471 : decode code 471 = .ok (.ireturn, 1) := by decide +kernel
theorem d_Jm_max2_0 : decode prog_20_method_65_code 0 = .ok (.iload_n 0, 1) := by decide +kernel
theorem d_Jm_max2_1 : decode prog_20_method_65_code 1 = .ok (.iload_n 1, 1) := by decide +kernel
theorem d_Jm_max2_2 : decode prog_20_method_65_code 2 = .ok (.if_icmp .lt 7, 3) := by decide +kernel
theorem d_Jm_max2_5 : decode prog_20_method_65_code 5 = .ok (.iload_n 0, 1) := by decide +kernel
theorem d_Jm_max2_6 : decode prog_20_method_65_code 6 = .ok (.goto 4, 3) := by decide +kernel
theorem d_Jm_max2_9 : decode prog_20_method_65_code 9 = .ok (.iload_n 1, 1) := by decide +kernel
theorem d_Jm_max2_10 : decode prog_20_method_65_code 10 = .ok (.ireturn, 1) := by decide +kernel
