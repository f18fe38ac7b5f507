/-! Decode rows; written by wip/tools/gen.py. -/
theorem d_Me_byteAt_0 : decode prog_7_method_2_code 0 = .ok (.iload_n 1, 1) := by decide +kernel
theorem d_Me_byteAt_1 : decode prog_7_method_2_code 1 = .ok (.ifCond .lt 10, 3) := by decide +kernel
theorem d_Me_byteAt_4 : decode prog_7_method_2_code 4 = .ok (.iload_n 1, 1) := by decide +kernel
theorem d_Me_byteAt_5 : decode prog_7_method_2_code 5 = .ok (.sipush 512, 3) := by decide +kernel
theorem d_Me_byteAt_8 : decode prog_7_method_2_code 8 = .ok (.if_icmp .lt 11, 3) := by decide +kernel
theorem d_Me_byteAt_11 : decode prog_7_method_2_code 11 = .ok (.new 13, 3) := by decide +kernel
theorem d_Me_byteAt_14 : decode prog_7_method_2_code 14 = .ok (.dup, 1) := by decide +kernel
theorem d_Me_byteAt_15 : decode prog_7_method_2_code 15 = .ok (.invokespecial 15, 3) := by decide +kernel
theorem d_Me_byteAt_18 : decode prog_7_method_2_code 18 = .ok (.athrow, 1) := by decide +kernel
theorem d_Me_byteAt_19 : decode prog_7_method_2_code 19 = .ok (.aload_n 0, 1) := by decide +kernel
theorem d_Me_byteAt_20 : decode prog_7_method_2_code 20 = .ok (.getfield 9, 3) := by decide +kernel
theorem d_Me_byteAt_23 : decode prog_7_method_2_code 23 = .ok (.iload_n 1, 1) := by decide +kernel
theorem d_Me_byteAt_24 : decode prog_7_method_2_code 24 = .ok (.iaload, 1) := by decide +kernel
theorem d_Me_byteAt_25 : decode prog_7_method_2_code 25 = .ok (.ireturn, 1) := by decide +kernel
theorem d_Me_wordAt_0 : decode prog_7_method_3_code 0 = .ok (.iload_n 1, 1) := by decide +kernel
theorem d_Me_wordAt_1 : decode prog_7_method_3_code 1 = .ok (.ifCond .lt 10, 3) := by decide +kernel
theorem d_Me_wordAt_4 : decode prog_7_method_3_code 4 = .ok (.iload_n 1, 1) := by decide +kernel
theorem d_Me_wordAt_5 : decode prog_7_method_3_code 5 = .ok (.sipush 511, 3) := by decide +kernel
theorem d_Me_wordAt_8 : decode prog_7_method_3_code 8 = .ok (.if_icmp .lt 11, 3) := by decide +kernel
theorem d_Me_wordAt_11 : decode prog_7_method_3_code 11 = .ok (.new 13, 3) := by decide +kernel
theorem d_Me_wordAt_14 : decode prog_7_method_3_code 14 = .ok (.dup, 1) := by decide +kernel
theorem d_Me_wordAt_15 : decode prog_7_method_3_code 15 = .ok (.invokespecial 15, 3) := by decide +kernel
theorem d_Me_wordAt_18 : decode prog_7_method_3_code 18 = .ok (.athrow, 1) := by decide +kernel
theorem d_Me_wordAt_19 : decode prog_7_method_3_code 19 = .ok (.sipush 256, 3) := by decide +kernel
theorem d_Me_wordAt_22 : decode prog_7_method_3_code 22 = .ok (.aload_n 0, 1) := by decide +kernel
theorem d_Me_wordAt_23 : decode prog_7_method_3_code 23 = .ok (.getfield 9, 3) := by decide +kernel
theorem d_Me_wordAt_26 : decode prog_7_method_3_code 26 = .ok (.iload_n 1, 1) := by decide +kernel
theorem d_Me_wordAt_27 : decode prog_7_method_3_code 27 = .ok (.iaload, 1) := by decide +kernel
theorem d_Me_wordAt_28 : decode prog_7_method_3_code 28 = .ok (.imul, 1) := by decide +kernel
theorem d_Me_wordAt_29 : decode prog_7_method_3_code 29 = .ok (.aload_n 0, 1) := by decide +kernel
theorem d_Me_wordAt_30 : decode prog_7_method_3_code 30 = .ok (.getfield 9, 3) := by decide +kernel
theorem d_Me_wordAt_33 : decode prog_7_method_3_code 33 = .ok (.iload_n 1, 1) := by decide +kernel
theorem d_Me_wordAt_34 : decode prog_7_method_3_code 34 = .ok (.iconst 1, 1) := by decide +kernel
theorem d_Me_wordAt_35 : decode prog_7_method_3_code 35 = .ok (.iadd, 1) := by decide +kernel
theorem d_Me_wordAt_36 : decode prog_7_method_3_code 36 = .ok (.iaload, 1) := by decide +kernel
theorem d_Me_wordAt_37 : decode prog_7_method_3_code 37 = .ok (.iadd, 1) := by decide +kernel
theorem d_Me_wordAt_38 : decode prog_7_method_3_code 38 = .ok (.ireturn, 1) := by decide +kernel
theorem d_Me_mayWrite_0 : decode prog_7_method_6_code 0 = .ok (.sipush 256, 3) := by decide +kernel
theorem d_Me_mayWrite_3 : decode prog_7_method_6_code 3 = .ok (.aload_n 0, 1) := by decide +kernel
theorem d_Me_mayWrite_4 : decode prog_7_method_6_code 4 = .ok (.getfield 9, 3) := by decide +kernel
theorem d_Me_mayWrite_7 : decode prog_7_method_6_code 7 = .ok (.bipush 12, 2) := by decide +kernel
theorem d_Me_mayWrite_9 : decode prog_7_method_6_code 9 = .ok (.iaload, 1) := by decide +kernel
theorem d_Me_mayWrite_10 : decode prog_7_method_6_code 10 = .ok (.imul, 1) := by decide +kernel
theorem d_Me_mayWrite_11 : decode prog_7_method_6_code 11 = .ok (.aload_n 0, 1) := by decide +kernel
theorem d_Me_mayWrite_12 : decode prog_7_method_6_code 12 = .ok (.getfield 9, 3) := by decide +kernel
theorem d_Me_mayWrite_15 : decode prog_7_method_6_code 15 = .ok (.bipush 13, 2) := by decide +kernel
theorem d_Me_mayWrite_17 : decode prog_7_method_6_code 17 = .ok (.iaload, 1) := by decide +kernel
theorem d_Me_mayWrite_18 : decode prog_7_method_6_code 18 = .ok (.iadd, 1) := by decide +kernel
theorem d_Me_mayWrite_19 : decode prog_7_method_6_code 19 = .ok (.istore_n 3, 1) := by decide +kernel
theorem d_Me_mayWrite_20 : decode prog_7_method_6_code 20 = .ok (.iload_n 1, 1) := by decide +kernel
theorem d_Me_mayWrite_21 : decode prog_7_method_6_code 21 = .ok (.bipush 16, 2) := by decide +kernel
theorem d_Me_mayWrite_23 : decode prog_7_method_6_code 23 = .ok (.if_icmp .lt 23, 3) := by decide +kernel
theorem d_Me_mayWrite_26 : decode prog_7_method_6_code 26 = .ok (.iload_n 1, 1) := by decide +kernel
theorem d_Me_mayWrite_27 : decode prog_7_method_6_code 27 = .ok (.sipush 512, 3) := by decide +kernel
theorem d_Me_mayWrite_30 : decode prog_7_method_6_code 30 = .ok (.iload_n 2, 1) := by decide +kernel
theorem d_Me_mayWrite_31 : decode prog_7_method_6_code 31 = .ok (.isub, 1) := by decide +kernel
theorem d_Me_mayWrite_32 : decode prog_7_method_6_code 32 = .ok (.if_icmp .gt 14, 3) := by decide +kernel
theorem d_Me_mayWrite_35 : decode prog_7_method_6_code 35 = .ok (.iload_n 1, 1) := by decide +kernel
theorem d_Me_mayWrite_36 : decode prog_7_method_6_code 36 = .ok (.iload_n 3, 1) := by decide +kernel
theorem d_Me_mayWrite_37 : decode prog_7_method_6_code 37 = .ok (.iload_n 2, 1) := by decide +kernel
theorem d_Me_mayWrite_38 : decode prog_7_method_6_code 38 = .ok (.isub, 1) := by decide +kernel
theorem d_Me_mayWrite_39 : decode prog_7_method_6_code 39 = .ok (.if_icmp .gt 7, 3) := by decide +kernel
theorem d_Me_mayWrite_42 : decode prog_7_method_6_code 42 = .ok (.iconst 1, 1) := by decide +kernel
theorem d_Me_mayWrite_43 : decode prog_7_method_6_code 43 = .ok (.goto 4, 3) := by decide +kernel
theorem d_Me_mayWrite_46 : decode prog_7_method_6_code 46 = .ok (.iconst 0, 1) := by decide +kernel
theorem d_Me_mayWrite_47 : decode prog_7_method_6_code 47 = .ok (.ireturn, 1) := by decide +kernel
theorem d_Me_writeByte_0 : decode prog_7_method_4_code 0 = .ok (.aload_n 0, 1) := by decide +kernel
theorem d_Me_writeByte_1 : decode prog_7_method_4_code 1 = .ok (.iload_n 1, 1) := by decide +kernel
theorem d_Me_writeByte_2 : decode prog_7_method_4_code 2 = .ok (.iconst 1, 1) := by decide +kernel
theorem d_Me_writeByte_3 : decode prog_7_method_4_code 3 = .ok (.invokevirtual 16, 3) := by decide +kernel
theorem d_Me_writeByte_6 : decode prog_7_method_4_code 6 = .ok (.ifCond .ne 11, 3) := by decide +kernel
theorem d_Me_writeByte_9 : decode prog_7_method_4_code 9 = .ok (.new 13, 3) := by decide +kernel
theorem d_Me_writeByte_12 : decode prog_7_method_4_code 12 = .ok (.dup, 1) := by decide +kernel
theorem d_Me_writeByte_13 : decode prog_7_method_4_code 13 = .ok (.invokespecial 15, 3) := by decide +kernel
theorem d_Me_writeByte_16 : decode prog_7_method_4_code 16 = .ok (.athrow, 1) := by decide +kernel
theorem d_Me_writeByte_17 : decode prog_7_method_4_code 17 = .ok (.aload_n 0, 1) := by decide +kernel
theorem d_Me_writeByte_18 : decode prog_7_method_4_code 18 = .ok (.getfield 9, 3) := by decide +kernel
theorem d_Me_writeByte_21 : decode prog_7_method_4_code 21 = .ok (.iload_n 1, 1) := by decide +kernel
theorem d_Me_writeByte_22 : decode prog_7_method_4_code 22 = .ok (.iload_n 2, 1) := by decide +kernel
theorem d_Me_writeByte_23 : decode prog_7_method_4_code 23 = .ok (.sipush 255, 3) := by decide +kernel
theorem d_Me_writeByte_26 : decode prog_7_method_4_code 26 = .ok (.iand, 1) := by decide +kernel
theorem d_Me_writeByte_27 : decode prog_7_method_4_code 27 = .ok (.iastore, 1) := by decide +kernel
theorem d_Me_writeByte_28 : decode prog_7_method_4_code 28 = .ok (.return_, 1) := by decide +kernel
theorem d_Me_writeWord_0 : decode prog_7_method_5_code 0 = .ok (.aload_n 0, 1) := by decide +kernel
theorem d_Me_writeWord_1 : decode prog_7_method_5_code 1 = .ok (.iload_n 1, 1) := by decide +kernel
theorem d_Me_writeWord_2 : decode prog_7_method_5_code 2 = .ok (.iconst 2, 1) := by decide +kernel
theorem d_Me_writeWord_3 : decode prog_7_method_5_code 3 = .ok (.invokevirtual 16, 3) := by decide +kernel
theorem d_Me_writeWord_6 : decode prog_7_method_5_code 6 = .ok (.ifCond .ne 11, 3) := by decide +kernel
theorem d_Me_writeWord_9 : decode prog_7_method_5_code 9 = .ok (.new 13, 3) := by decide +kernel
theorem d_Me_writeWord_12 : decode prog_7_method_5_code 12 = .ok (.dup, 1) := by decide +kernel
theorem d_Me_writeWord_13 : decode prog_7_method_5_code 13 = .ok (.invokespecial 15, 3) := by decide +kernel
theorem d_Me_writeWord_16 : decode prog_7_method_5_code 16 = .ok (.athrow, 1) := by decide +kernel
theorem d_Me_writeWord_17 : decode prog_7_method_5_code 17 = .ok (.aload_n 0, 1) := by decide +kernel
theorem d_Me_writeWord_18 : decode prog_7_method_5_code 18 = .ok (.getfield 9, 3) := by decide +kernel
theorem d_Me_writeWord_21 : decode prog_7_method_5_code 21 = .ok (.iload_n 1, 1) := by decide +kernel
theorem d_Me_writeWord_22 : decode prog_7_method_5_code 22 = .ok (.iload_n 2, 1) := by decide +kernel
theorem d_Me_writeWord_23 : decode prog_7_method_5_code 23 = .ok (.bipush 8, 2) := by decide +kernel
theorem d_Me_writeWord_25 : decode prog_7_method_5_code 25 = .ok (.ishr, 1) := by decide +kernel
theorem d_Me_writeWord_26 : decode prog_7_method_5_code 26 = .ok (.sipush 255, 3) := by decide +kernel
theorem d_Me_writeWord_29 : decode prog_7_method_5_code 29 = .ok (.iand, 1) := by decide +kernel
theorem d_Me_writeWord_30 : decode prog_7_method_5_code 30 = .ok (.iastore, 1) := by decide +kernel
theorem d_Me_writeWord_31 : decode prog_7_method_5_code 31 = .ok (.aload_n 0, 1) := by decide +kernel
theorem d_Me_writeWord_32 : decode prog_7_method_5_code 32 = .ok (.getfield 9, 3) := by decide +kernel
theorem d_Me_writeWord_35 : decode prog_7_method_5_code 35 = .ok (.iload_n 1, 1) := by decide +kernel
theorem d_Me_writeWord_36 : decode prog_7_method_5_code 36 = .ok (.iconst 1, 1) := by decide +kernel
theorem d_Me_writeWord_37 : decode prog_7_method_5_code 37 = .ok (.iadd, 1) := by decide +kernel
theorem d_Me_writeWord_38 : decode prog_7_method_5_code 38 = .ok (.iload_n 2, 1) := by decide +kernel
theorem d_Me_writeWord_39 : decode prog_7_method_5_code 39 = .ok (.sipush 255, 3) := by decide +kernel
theorem d_Me_writeWord_42 : decode prog_7_method_5_code 42 = .ok (.iand, 1) := by decide +kernel
theorem d_Me_writeWord_43 : decode prog_7_method_5_code 43 = .ok (.iastore, 1) := by decide +kernel
theorem d_Me_writeWord_44 : decode prog_7_method_5_code 44 = .ok (.return_, 1) := by decide +kernel
theorem d_Me_copyFrom_0 : decode prog_7_method_7_code 0 = .ok (.aload_n 1, 1) := by decide +kernel
theorem d_Me_copyFrom_1 : decode prog_7_method_7_code 1 = .ok (.getfield 9, 3) := by decide +kernel
theorem d_Me_copyFrom_4 : decode prog_7_method_7_code 4 = .ok (.iconst 0, 1) := by decide +kernel
theorem d_Me_copyFrom_5 : decode prog_7_method_7_code 5 = .ok (.aload_n 0, 1) := by decide +kernel
theorem d_Me_copyFrom_6 : decode prog_7_method_7_code 6 = .ok (.getfield 9, 3) := by decide +kernel
theorem d_Me_copyFrom_9 : decode prog_7_method_7_code 9 = .ok (.iconst 0, 1) := by decide +kernel
theorem d_Me_copyFrom_10 : decode prog_7_method_7_code 10 = .ok (.sipush 512, 3) := by decide +kernel
theorem d_Me_copyFrom_13 : decode prog_7_method_7_code 13 = .ok (.invokestatic 20, 3) := by decide +kernel
theorem d_Me_copyFrom_16 : decode prog_7_method_7_code 16 = .ok (.return_, 1) := by decide +kernel
theorem d_Ro_copyFrom_0 : decode prog_9_method_15_code 0 = .ok (.aload_n 0, 1) := by decide +kernel
theorem d_Ro_copyFrom_1 : decode prog_9_method_15_code 1 = .ok (.aload_n 1, 1) := by decide +kernel
theorem d_Ro_copyFrom_2 : decode prog_9_method_15_code 2 = .ok (.getfield 28, 3) := by decide +kernel
theorem d_Ro_copyFrom_5 : decode prog_9_method_15_code 5 = .ok (.putfield 28, 3) := by decide +kernel
theorem d_Ro_copyFrom_8 : decode prog_9_method_15_code 8 = .ok (.aload_n 0, 1) := by decide +kernel
theorem d_Ro_copyFrom_9 : decode prog_9_method_15_code 9 = .ok (.aload_n 1, 1) := by decide +kernel
theorem d_Ro_copyFrom_10 : decode prog_9_method_15_code 10 = .ok (.getfield 32, 3) := by decide +kernel
theorem d_Ro_copyFrom_13 : decode prog_9_method_15_code 13 = .ok (.putfield 32, 3) := by decide +kernel
theorem d_Ro_copyFrom_16 : decode prog_9_method_15_code 16 = .ok (.aload_n 1, 1) := by decide +kernel
theorem d_Ro_copyFrom_17 : decode prog_9_method_15_code 17 = .ok (.getfield 9, 3) := by decide +kernel
theorem d_Ro_copyFrom_20 : decode prog_9_method_15_code 20 = .ok (.iconst 0, 1) := by decide +kernel
theorem d_Ro_copyFrom_21 : decode prog_9_method_15_code 21 = .ok (.aload_n 0, 1) := by decide +kernel
theorem d_Ro_copyFrom_22 : decode prog_9_method_15_code 22 = .ok (.getfield 9, 3) := by decide +kernel
theorem d_Ro_copyFrom_25 : decode prog_9_method_15_code 25 = .ok (.iconst 0, 1) := by decide +kernel
theorem d_Ro_copyFrom_26 : decode prog_9_method_15_code 26 = .ok (.aload_n 0, 1) := by decide +kernel
theorem d_Ro_copyFrom_27 : decode prog_9_method_15_code 27 = .ok (.getfield 9, 3) := by decide +kernel
theorem d_Ro_copyFrom_30 : decode prog_9_method_15_code 30 = .ok (.arraylength, 1) := by decide +kernel
theorem d_Ro_copyFrom_31 : decode prog_9_method_15_code 31 = .ok (.invokestatic 49, 3) := by decide +kernel
theorem d_Ro_copyFrom_34 : decode prog_9_method_15_code 34 = .ok (.aload_n 1, 1) := by decide +kernel
theorem d_Ro_copyFrom_35 : decode prog_9_method_15_code 35 = .ok (.getfield 13, 3) := by decide +kernel
theorem d_Ro_copyFrom_38 : decode prog_9_method_15_code 38 = .ok (.iconst 0, 1) := by decide +kernel
theorem d_Ro_copyFrom_39 : decode prog_9_method_15_code 39 = .ok (.aload_n 0, 1) := by decide +kernel
theorem d_Ro_copyFrom_40 : decode prog_9_method_15_code 40 = .ok (.getfield 13, 3) := by decide +kernel
theorem d_Ro_copyFrom_43 : decode prog_9_method_15_code 43 = .ok (.iconst 0, 1) := by decide +kernel
theorem d_Ro_copyFrom_44 : decode prog_9_method_15_code 44 = .ok (.aload_n 0, 1) := by decide +kernel
theorem d_Ro_copyFrom_45 : decode prog_9_method_15_code 45 = .ok (.getfield 13, 3) := by decide +kernel
theorem d_Ro_copyFrom_48 : decode prog_9_method_15_code 48 = .ok (.arraylength, 1) := by decide +kernel
theorem d_Ro_copyFrom_49 : decode prog_9_method_15_code 49 = .ok (.invokestatic 49, 3) := by decide +kernel
theorem d_Ro_copyFrom_52 : decode prog_9_method_15_code 52 = .ok (.aload_n 1, 1) := by decide +kernel
theorem d_Ro_copyFrom_53 : decode prog_9_method_15_code 53 = .ok (.getfield 16, 3) := by decide +kernel
theorem d_Ro_copyFrom_56 : decode prog_9_method_15_code 56 = .ok (.iconst 0, 1) := by decide +kernel
theorem d_Ro_copyFrom_57 : decode prog_9_method_15_code 57 = .ok (.aload_n 0, 1) := by decide +kernel
theorem d_Ro_copyFrom_58 : decode prog_9_method_15_code 58 = .ok (.getfield 16, 3) := by decide +kernel
theorem d_Ro_copyFrom_61 : decode prog_9_method_15_code 61 = .ok (.iconst 0, 1) := by decide +kernel
theorem d_Ro_copyFrom_62 : decode prog_9_method_15_code 62 = .ok (.aload_n 0, 1) := by decide +kernel
theorem d_Ro_copyFrom_63 : decode prog_9_method_15_code 63 = .ok (.getfield 16, 3) := by decide +kernel
theorem d_Ro_copyFrom_66 : decode prog_9_method_15_code 66 = .ok (.arraylength, 1) := by decide +kernel
theorem d_Ro_copyFrom_67 : decode prog_9_method_15_code 67 = .ok (.invokestatic 49, 3) := by decide +kernel
theorem d_Ro_copyFrom_70 : decode prog_9_method_15_code 70 = .ok (.aload_n 1, 1) := by decide +kernel
theorem d_Ro_copyFrom_71 : decode prog_9_method_15_code 71 = .ok (.getfield 19, 3) := by decide +kernel
theorem d_Ro_copyFrom_74 : decode prog_9_method_15_code 74 = .ok (.iconst 0, 1) := by decide +kernel
theorem d_Ro_copyFrom_75 : decode prog_9_method_15_code 75 = .ok (.aload_n 0, 1) := by decide +kernel
theorem d_Ro_copyFrom_76 : decode prog_9_method_15_code 76 = .ok (.getfield 19, 3) := by decide +kernel
theorem d_Ro_copyFrom_79 : decode prog_9_method_15_code 79 = .ok (.iconst 0, 1) := by decide +kernel
theorem d_Ro_copyFrom_80 : decode prog_9_method_15_code 80 = .ok (.aload_n 0, 1) := by decide +kernel
theorem d_Ro_copyFrom_81 : decode prog_9_method_15_code 81 = .ok (.getfield 19, 3) := by decide +kernel
theorem d_Ro_copyFrom_84 : decode prog_9_method_15_code 84 = .ok (.arraylength, 1) := by decide +kernel
theorem d_Ro_copyFrom_85 : decode prog_9_method_15_code 85 = .ok (.invokestatic 49, 3) := by decide +kernel
theorem d_Ro_copyFrom_88 : decode prog_9_method_15_code 88 = .ok (.aload_n 1, 1) := by decide +kernel
theorem d_Ro_copyFrom_89 : decode prog_9_method_15_code 89 = .ok (.getfield 22, 3) := by decide +kernel
theorem d_Ro_copyFrom_92 : decode prog_9_method_15_code 92 = .ok (.iconst 0, 1) := by decide +kernel
theorem d_Ro_copyFrom_93 : decode prog_9_method_15_code 93 = .ok (.aload_n 0, 1) := by decide +kernel
theorem d_Ro_copyFrom_94 : decode prog_9_method_15_code 94 = .ok (.getfield 22, 3) := by decide +kernel
theorem d_Ro_copyFrom_97 : decode prog_9_method_15_code 97 = .ok (.iconst 0, 1) := by decide +kernel
theorem d_Ro_copyFrom_98 : decode prog_9_method_15_code 98 = .ok (.aload_n 0, 1) := by decide +kernel
theorem d_Ro_copyFrom_99 : decode prog_9_method_15_code 99 = .ok (.getfield 22, 3) := by decide +kernel
theorem d_Ro_copyFrom_102 : decode prog_9_method_15_code 102 = .ok (.arraylength, 1) := by decide +kernel
theorem d_Ro_copyFrom_103 : decode prog_9_method_15_code 103 = .ok (.invokestatic 49, 3) := by decide +kernel
theorem d_Ro_copyFrom_106 : decode prog_9_method_15_code 106 = .ok (.aload_n 1, 1) := by decide +kernel
theorem d_Ro_copyFrom_107 : decode prog_9_method_15_code 107 = .ok (.getfield 25, 3) := by decide +kernel
theorem d_Ro_copyFrom_110 : decode prog_9_method_15_code 110 = .ok (.iconst 0, 1) := by decide +kernel
theorem d_Ro_copyFrom_111 : decode prog_9_method_15_code 111 = .ok (.aload_n 0, 1) := by decide +kernel
theorem d_Ro_copyFrom_112 : decode prog_9_method_15_code 112 = .ok (.getfield 25, 3) := by decide +kernel
theorem d_Ro_copyFrom_115 : decode prog_9_method_15_code 115 = .ok (.iconst 0, 1) := by decide +kernel
theorem d_Ro_copyFrom_116 : decode prog_9_method_15_code 116 = .ok (.aload_n 0, 1) := by decide +kernel
theorem d_Ro_copyFrom_117 : decode prog_9_method_15_code 117 = .ok (.getfield 25, 3) := by decide +kernel
theorem d_Ro_copyFrom_120 : decode prog_9_method_15_code 120 = .ok (.arraylength, 1) := by decide +kernel
theorem d_Ro_copyFrom_121 : decode prog_9_method_15_code 121 = .ok (.invokestatic 49, 3) := by decide +kernel
theorem d_Ro_copyFrom_124 : decode prog_9_method_15_code 124 = .ok (.return_, 1) := by decide +kernel
theorem d_Ro_clear_0 : decode prog_9_method_2_code 0 = .ok (.aload_n 0, 1) := by decide +kernel
theorem d_Ro_clear_1 : decode prog_9_method_2_code 1 = .ok (.iconst 0, 1) := by decide +kernel
theorem d_Ro_clear_2 : decode prog_9_method_2_code 2 = .ok (.putfield 28, 3) := by decide +kernel
theorem d_Ro_clear_5 : decode prog_9_method_2_code 5 = .ok (.aload_n 0, 1) := by decide +kernel
theorem d_Ro_clear_6 : decode prog_9_method_2_code 6 = .ok (.iconst 0, 1) := by decide +kernel
theorem d_Ro_clear_7 : decode prog_9_method_2_code 7 = .ok (.putfield 32, 3) := by decide +kernel
theorem d_Ro_clear_10 : decode prog_9_method_2_code 10 = .ok (.aload_n 0, 1) := by decide +kernel
theorem d_Ro_clear_11 : decode prog_9_method_2_code 11 = .ok (.getfield 13, 3) := by decide +kernel
theorem d_Ro_clear_14 : decode prog_9_method_2_code 14 = .ok (.iconst 0, 1) := by decide +kernel
theorem d_Ro_clear_15 : decode prog_9_method_2_code 15 = .ok (.iconst 0, 1) := by decide +kernel
theorem d_Ro_clear_16 : decode prog_9_method_2_code 16 = .ok (.iastore, 1) := by decide +kernel
theorem d_Ro_clear_17 : decode prog_9_method_2_code 17 = .ok (.aload_n 0, 1) := by decide +kernel
theorem d_Ro_clear_18 : decode prog_9_method_2_code 18 = .ok (.getfield 22, 3) := by decide +kernel
theorem d_Ro_clear_21 : decode prog_9_method_2_code 21 = .ok (.iconst 0, 1) := by decide +kernel
theorem d_Ro_clear_22 : decode prog_9_method_2_code 22 = .ok (.iconst 0, 1) := by decide +kernel
theorem d_Ro_clear_23 : decode prog_9_method_2_code 23 = .ok (.iastore, 1) := by decide +kernel
theorem d_Ro_clear_24 : decode prog_9_method_2_code 24 = .ok (.return_, 1) := by decide +kernel
theorem d_Ro_push_0 : decode prog_9_method_3_code 0 = .ok (.aload_n 0, 1) := by decide +kernel
theorem d_Ro_push_1 : decode prog_9_method_3_code 1 = .ok (.getfield 28, 3) := by decide +kernel
theorem d_Ro_push_4 : decode prog_9_method_3_code 4 = .ok (.bipush 48, 2) := by decide +kernel
theorem d_Ro_push_6 : decode prog_9_method_3_code 6 = .ok (.if_icmp .lt 11, 3) := by decide +kernel
theorem d_Ro_push_9 : decode prog_9_method_3_code 9 = .ok (.new 35, 3) := by decide +kernel
theorem d_Ro_push_12 : decode prog_9_method_3_code 12 = .ok (.dup, 1) := by decide +kernel
theorem d_Ro_push_13 : decode prog_9_method_3_code 13 = .ok (.invokespecial 37, 3) := by decide +kernel
theorem d_Ro_push_16 : decode prog_9_method_3_code 16 = .ok (.athrow, 1) := by decide +kernel
theorem d_Ro_push_17 : decode prog_9_method_3_code 17 = .ok (.aload_n 0, 1) := by decide +kernel
theorem d_Ro_push_18 : decode prog_9_method_3_code 18 = .ok (.getfield 9, 3) := by decide +kernel
theorem d_Ro_push_21 : decode prog_9_method_3_code 21 = .ok (.aload_n 0, 1) := by decide +kernel
theorem d_Ro_push_22 : decode prog_9_method_3_code 22 = .ok (.getfield 28, 3) := by decide +kernel
theorem d_Ro_push_25 : decode prog_9_method_3_code 25 = .ok (.iload_n 1, 1) := by decide +kernel
theorem d_Ro_push_26 : decode prog_9_method_3_code 26 = .ok (.ldc 38, 2) := by decide +kernel
theorem d_Ro_push_28 : decode prog_9_method_3_code 28 = .ok (.iand, 1) := by decide +kernel
theorem d_Ro_push_29 : decode prog_9_method_3_code 29 = .ok (.iastore, 1) := by decide +kernel
theorem d_Ro_push_30 : decode prog_9_method_3_code 30 = .ok (.aload_n 0, 1) := by decide +kernel
theorem d_Ro_push_31 : decode prog_9_method_3_code 31 = .ok (.dup, 1) := by decide +kernel
theorem d_Ro_push_32 : decode prog_9_method_3_code 32 = .ok (.getfield 28, 3) := by decide +kernel
theorem d_Ro_push_35 : decode prog_9_method_3_code 35 = .ok (.iconst 1, 1) := by decide +kernel
theorem d_Ro_push_36 : decode prog_9_method_3_code 36 = .ok (.iadd, 1) := by decide +kernel
theorem d_Ro_push_37 : decode prog_9_method_3_code 37 = .ok (.putfield 28, 3) := by decide +kernel
theorem d_Ro_push_40 : decode prog_9_method_3_code 40 = .ok (.return_, 1) := by decide +kernel
theorem d_Ro_top_0 : decode prog_9_method_5_code 0 = .ok (.aload_n 0, 1) := by decide +kernel
theorem d_Ro_top_1 : decode prog_9_method_5_code 1 = .ok (.getfield 28, 3) := by decide +kernel
theorem d_Ro_top_4 : decode prog_9_method_5_code 4 = .ok (.aload_n 0, 1) := by decide +kernel
theorem d_Ro_top_5 : decode prog_9_method_5_code 5 = .ok (.getfield 13, 3) := by decide +kernel
theorem d_Ro_top_8 : decode prog_9_method_5_code 8 = .ok (.aload_n 0, 1) := by decide +kernel
theorem d_Ro_top_9 : decode prog_9_method_5_code 9 = .ok (.getfield 32, 3) := by decide +kernel
theorem d_Ro_top_12 : decode prog_9_method_5_code 12 = .ok (.iaload, 1) := by decide +kernel
theorem d_Ro_top_13 : decode prog_9_method_5_code 13 = .ok (.if_icmp .gt 11, 3) := by decide +kernel
theorem d_Ro_top_16 : decode prog_9_method_5_code 16 = .ok (.new 35, 3) := by decide +kernel
theorem d_Ro_top_19 : decode prog_9_method_5_code 19 = .ok (.dup, 1) := by decide +kernel
theorem d_Ro_top_20 : decode prog_9_method_5_code 20 = .ok (.invokespecial 37, 3) := by decide +kernel
theorem d_Ro_top_23 : decode prog_9_method_5_code 23 = .ok (.athrow, 1) := by decide +kernel
theorem d_Ro_top_24 : decode prog_9_method_5_code 24 = .ok (.aload_n 0, 1) := by decide +kernel
theorem d_Ro_top_25 : decode prog_9_method_5_code 25 = .ok (.getfield 9, 3) := by decide +kernel
theorem d_Ro_top_28 : decode prog_9_method_5_code 28 = .ok (.aload_n 0, 1) := by decide +kernel
theorem d_Ro_top_29 : decode prog_9_method_5_code 29 = .ok (.getfield 28, 3) := by decide +kernel
theorem d_Ro_top_32 : decode prog_9_method_5_code 32 = .ok (.iconst 1, 1) := by decide +kernel
theorem d_Ro_top_33 : decode prog_9_method_5_code 33 = .ok (.isub, 1) := by decide +kernel
theorem d_Ro_top_34 : decode prog_9_method_5_code 34 = .ok (.iaload, 1) := by decide +kernel
theorem d_Ro_top_35 : decode prog_9_method_5_code 35 = .ok (.ireturn, 1) := by decide +kernel
theorem d_Ro_pop_0 : decode prog_9_method_4_code 0 = .ok (.aload_n 0, 1) := by decide +kernel
theorem d_Ro_pop_1 : decode prog_9_method_4_code 1 = .ok (.invokevirtual 39, 3) := by decide +kernel
theorem d_Ro_pop_4 : decode prog_9_method_4_code 4 = .ok (.istore_n 1, 1) := by decide +kernel
theorem d_Ro_pop_5 : decode prog_9_method_4_code 5 = .ok (.aload_n 0, 1) := by decide +kernel
theorem d_Ro_pop_6 : decode prog_9_method_4_code 6 = .ok (.dup, 1) := by decide +kernel
theorem d_Ro_pop_7 : decode prog_9_method_4_code 7 = .ok (.getfield 28, 3) := by decide +kernel
theorem d_Ro_pop_10 : decode prog_9_method_4_code 10 = .ok (.iconst 1, 1) := by decide +kernel
theorem d_Ro_pop_11 : decode prog_9_method_4_code 11 = .ok (.isub, 1) := by decide +kernel
theorem d_Ro_pop_12 : decode prog_9_method_4_code 12 = .ok (.putfield 28, 3) := by decide +kernel
theorem d_Ro_pop_15 : decode prog_9_method_4_code 15 = .ok (.iload_n 1, 1) := by decide +kernel
theorem d_Ro_pop_16 : decode prog_9_method_4_code 16 = .ok (.ireturn, 1) := by decide +kernel
theorem d_Ro_replaceTop_0 : decode prog_9_method_6_code 0 = .ok (.aload_n 0, 1) := by decide +kernel
theorem d_Ro_replaceTop_1 : decode prog_9_method_6_code 1 = .ok (.getfield 28, 3) := by decide +kernel
theorem d_Ro_replaceTop_4 : decode prog_9_method_6_code 4 = .ok (.aload_n 0, 1) := by decide +kernel
theorem d_Ro_replaceTop_5 : decode prog_9_method_6_code 5 = .ok (.getfield 13, 3) := by decide +kernel
theorem d_Ro_replaceTop_8 : decode prog_9_method_6_code 8 = .ok (.aload_n 0, 1) := by decide +kernel
theorem d_Ro_replaceTop_9 : decode prog_9_method_6_code 9 = .ok (.getfield 32, 3) := by decide +kernel
theorem d_Ro_replaceTop_12 : decode prog_9_method_6_code 12 = .ok (.iaload, 1) := by decide +kernel
theorem d_Ro_replaceTop_13 : decode prog_9_method_6_code 13 = .ok (.if_icmp .gt 11, 3) := by decide +kernel
theorem d_Ro_replaceTop_16 : decode prog_9_method_6_code 16 = .ok (.new 35, 3) := by decide +kernel
theorem d_Ro_replaceTop_19 : decode prog_9_method_6_code 19 = .ok (.dup, 1) := by decide +kernel
theorem d_Ro_replaceTop_20 : decode prog_9_method_6_code 20 = .ok (.invokespecial 37, 3) := by decide +kernel
theorem d_Ro_replaceTop_23 : decode prog_9_method_6_code 23 = .ok (.athrow, 1) := by decide +kernel
theorem d_Ro_replaceTop_24 : decode prog_9_method_6_code 24 = .ok (.aload_n 0, 1) := by decide +kernel
theorem d_Ro_replaceTop_25 : decode prog_9_method_6_code 25 = .ok (.getfield 9, 3) := by decide +kernel
theorem d_Ro_replaceTop_28 : decode prog_9_method_6_code 28 = .ok (.aload_n 0, 1) := by decide +kernel
theorem d_Ro_replaceTop_29 : decode prog_9_method_6_code 29 = .ok (.getfield 28, 3) := by decide +kernel
theorem d_Ro_replaceTop_32 : decode prog_9_method_6_code 32 = .ok (.iconst 1, 1) := by decide +kernel
theorem d_Ro_replaceTop_33 : decode prog_9_method_6_code 33 = .ok (.isub, 1) := by decide +kernel
theorem d_Ro_replaceTop_34 : decode prog_9_method_6_code 34 = .ok (.iload_n 1, 1) := by decide +kernel
theorem d_Ro_replaceTop_35 : decode prog_9_method_6_code 35 = .ok (.ldc 38, 2) := by decide +kernel
theorem d_Ro_replaceTop_37 : decode prog_9_method_6_code 37 = .ok (.iand, 1) := by decide +kernel
theorem d_Ro_replaceTop_38 : decode prog_9_method_6_code 38 = .ok (.iastore, 1) := by decide +kernel
theorem d_Ro_replaceTop_39 : decode prog_9_method_6_code 39 = .ok (.return_, 1) := by decide +kernel
theorem d_Ro_localCount_0 : decode prog_9_method_7_code 0 = .ok (.aload_n 0, 1) := by decide +kernel
theorem d_Ro_localCount_1 : decode prog_9_method_7_code 1 = .ok (.getfield 22, 3) := by decide +kernel
theorem d_Ro_localCount_4 : decode prog_9_method_7_code 4 = .ok (.aload_n 0, 1) := by decide +kernel
theorem d_Ro_localCount_5 : decode prog_9_method_7_code 5 = .ok (.getfield 32, 3) := by decide +kernel
theorem d_Ro_localCount_8 : decode prog_9_method_7_code 8 = .ok (.iaload, 1) := by decide +kernel
theorem d_Ro_localCount_9 : decode prog_9_method_7_code 9 = .ok (.ireturn, 1) := by decide +kernel
theorem d_Ro_localValue_0 : decode prog_9_method_8_code 0 = .ok (.iload_n 1, 1) := by decide +kernel
theorem d_Ro_localValue_1 : decode prog_9_method_8_code 1 = .ok (.iconst 1, 1) := by decide +kernel
theorem d_Ro_localValue_2 : decode prog_9_method_8_code 2 = .ok (.if_icmp .lt 16, 3) := by decide +kernel
theorem d_Ro_localValue_5 : decode prog_9_method_8_code 5 = .ok (.iload_n 1, 1) := by decide +kernel
theorem d_Ro_localValue_6 : decode prog_9_method_8_code 6 = .ok (.aload_n 0, 1) := by decide +kernel
theorem d_Ro_localValue_7 : decode prog_9_method_8_code 7 = .ok (.getfield 22, 3) := by decide +kernel
theorem d_Ro_localValue_10 : decode prog_9_method_8_code 10 = .ok (.aload_n 0, 1) := by decide +kernel
theorem d_Ro_localValue_11 : decode prog_9_method_8_code 11 = .ok (.getfield 32, 3) := by decide +kernel
theorem d_Ro_localValue_14 : decode prog_9_method_8_code 14 = .ok (.iaload, 1) := by decide +kernel
theorem d_Ro_localValue_15 : decode prog_9_method_8_code 15 = .ok (.if_icmp .le 11, 3) := by decide +kernel
theorem d_Ro_localValue_18 : decode prog_9_method_8_code 18 = .ok (.new 43, 3) := by decide +kernel
theorem d_Ro_localValue_21 : decode prog_9_method_8_code 21 = .ok (.dup, 1) := by decide +kernel
theorem d_Ro_localValue_22 : decode prog_9_method_8_code 22 = .ok (.invokespecial 45, 3) := by decide +kernel
theorem d_Ro_localValue_25 : decode prog_9_method_8_code 25 = .ok (.athrow, 1) := by decide +kernel
theorem d_Ro_localValue_26 : decode prog_9_method_8_code 26 = .ok (.aload_n 0, 1) := by decide +kernel
theorem d_Ro_localValue_27 : decode prog_9_method_8_code 27 = .ok (.getfield 25, 3) := by decide +kernel
theorem d_Ro_localValue_30 : decode prog_9_method_8_code 30 = .ok (.aload_n 0, 1) := by decide +kernel
theorem d_Ro_localValue_31 : decode prog_9_method_8_code 31 = .ok (.getfield 32, 3) := by decide +kernel
theorem d_Ro_localValue_34 : decode prog_9_method_8_code 34 = .ok (.bipush 15, 2) := by decide +kernel
theorem d_Ro_localValue_36 : decode prog_9_method_8_code 36 = .ok (.imul, 1) := by decide +kernel
theorem d_Ro_localValue_37 : decode prog_9_method_8_code 37 = .ok (.iload_n 1, 1) := by decide +kernel
theorem d_Ro_localValue_38 : decode prog_9_method_8_code 38 = .ok (.iadd, 1) := by decide +kernel
theorem d_Ro_localValue_39 : decode prog_9_method_8_code 39 = .ok (.iconst 1, 1) := by decide +kernel
theorem d_Ro_localValue_40 : decode prog_9_method_8_code 40 = .ok (.isub, 1) := by decide +kernel
theorem d_Ro_localValue_41 : decode prog_9_method_8_code 41 = .ok (.iaload, 1) := by decide +kernel
theorem d_Ro_localValue_42 : decode prog_9_method_8_code 42 = .ok (.ireturn, 1) := by decide +kernel
theorem d_Ro_setLocal_0 : decode prog_9_method_9_code 0 = .ok (.iload_n 1, 1) := by decide +kernel
theorem d_Ro_setLocal_1 : decode prog_9_method_9_code 1 = .ok (.iconst 1, 1) := by decide +kernel
theorem d_Ro_setLocal_2 : decode prog_9_method_9_code 2 = .ok (.if_icmp .lt 16, 3) := by decide +kernel
theorem d_Ro_setLocal_5 : decode prog_9_method_9_code 5 = .ok (.iload_n 1, 1) := by decide +kernel
theorem d_Ro_setLocal_6 : decode prog_9_method_9_code 6 = .ok (.aload_n 0, 1) := by decide +kernel
theorem d_Ro_setLocal_7 : decode prog_9_method_9_code 7 = .ok (.getfield 22, 3) := by decide +kernel
theorem d_Ro_setLocal_10 : decode prog_9_method_9_code 10 = .ok (.aload_n 0, 1) := by decide +kernel
theorem d_Ro_setLocal_11 : decode prog_9_method_9_code 11 = .ok (.getfield 32, 3) := by decide +kernel
theorem d_Ro_setLocal_14 : decode prog_9_method_9_code 14 = .ok (.iaload, 1) := by decide +kernel
theorem d_Ro_setLocal_15 : decode prog_9_method_9_code 15 = .ok (.if_icmp .le 11, 3) := by decide +kernel
theorem d_Ro_setLocal_18 : decode prog_9_method_9_code 18 = .ok (.new 43, 3) := by decide +kernel
theorem d_Ro_setLocal_21 : decode prog_9_method_9_code 21 = .ok (.dup, 1) := by decide +kernel
theorem d_Ro_setLocal_22 : decode prog_9_method_9_code 22 = .ok (.invokespecial 45, 3) := by decide +kernel
theorem d_Ro_setLocal_25 : decode prog_9_method_9_code 25 = .ok (.athrow, 1) := by decide +kernel
theorem d_Ro_setLocal_26 : decode prog_9_method_9_code 26 = .ok (.aload_n 0, 1) := by decide +kernel
theorem d_Ro_setLocal_27 : decode prog_9_method_9_code 27 = .ok (.getfield 25, 3) := by decide +kernel
theorem d_Ro_setLocal_30 : decode prog_9_method_9_code 30 = .ok (.aload_n 0, 1) := by decide +kernel
theorem d_Ro_setLocal_31 : decode prog_9_method_9_code 31 = .ok (.getfield 32, 3) := by decide +kernel
theorem d_Ro_setLocal_34 : decode prog_9_method_9_code 34 = .ok (.bipush 15, 2) := by decide +kernel
theorem d_Ro_setLocal_36 : decode prog_9_method_9_code 36 = .ok (.imul, 1) := by decide +kernel
theorem d_Ro_setLocal_37 : decode prog_9_method_9_code 37 = .ok (.iload_n 1, 1) := by decide +kernel
theorem d_Ro_setLocal_38 : decode prog_9_method_9_code 38 = .ok (.iadd, 1) := by decide +kernel
theorem d_Ro_setLocal_39 : decode prog_9_method_9_code 39 = .ok (.iconst 1, 1) := by decide +kernel
theorem d_Ro_setLocal_40 : decode prog_9_method_9_code 40 = .ok (.isub, 1) := by decide +kernel
theorem d_Ro_setLocal_41 : decode prog_9_method_9_code 41 = .ok (.iload_n 2, 1) := by decide +kernel
theorem d_Ro_setLocal_42 : decode prog_9_method_9_code 42 = .ok (.ldc 38, 2) := by decide +kernel
theorem d_Ro_setLocal_44 : decode prog_9_method_9_code 44 = .ok (.iand, 1) := by decide +kernel
theorem d_Ro_setLocal_45 : decode prog_9_method_9_code 45 = .ok (.iastore, 1) := by decide +kernel
theorem d_Ro_setLocal_46 : decode prog_9_method_9_code 46 = .ok (.return_, 1) := by decide +kernel
theorem d_Ro_demandRoom_0 : decode prog_9_method_10_code 0 = .ok (.aload_n 0, 1) := by decide +kernel
theorem d_Ro_demandRoom_1 : decode prog_9_method_10_code 1 = .ok (.getfield 32, 3) := by decide +kernel
theorem d_Ro_demandRoom_4 : decode prog_9_method_10_code 4 = .ok (.bipush 10, 2) := by decide +kernel
theorem d_Ro_demandRoom_6 : decode prog_9_method_10_code 6 = .ok (.if_icmp .lt 11, 3) := by decide +kernel
theorem d_Ro_demandRoom_9 : decode prog_9_method_10_code 9 = .ok (.new 35, 3) := by decide +kernel
theorem d_Ro_demandRoom_12 : decode prog_9_method_10_code 12 = .ok (.dup, 1) := by decide +kernel
theorem d_Ro_demandRoom_13 : decode prog_9_method_10_code 13 = .ok (.invokespecial 37, 3) := by decide +kernel
theorem d_Ro_demandRoom_16 : decode prog_9_method_10_code 16 = .ok (.athrow, 1) := by decide +kernel
theorem d_Ro_demandRoom_17 : decode prog_9_method_10_code 17 = .ok (.return_, 1) := by decide +kernel
theorem d_Ro_open_0 : decode prog_9_method_11_code 0 = .ok (.aload_n 0, 1) := by decide +kernel
theorem d_Ro_open_1 : decode prog_9_method_11_code 1 = .ok (.invokevirtual 46, 3) := by decide +kernel
theorem d_Ro_open_4 : decode prog_9_method_11_code 4 = .ok (.aload_n 0, 1) := by decide +kernel
theorem d_Ro_open_5 : decode prog_9_method_11_code 5 = .ok (.dup, 1) := by decide +kernel
theorem d_Ro_open_6 : decode prog_9_method_11_code 6 = .ok (.getfield 32, 3) := by decide +kernel
theorem d_Ro_open_9 : decode prog_9_method_11_code 9 = .ok (.iconst 1, 1) := by decide +kernel
theorem d_Ro_open_10 : decode prog_9_method_11_code 10 = .ok (.iadd, 1) := by decide +kernel
theorem d_Ro_open_11 : decode prog_9_method_11_code 11 = .ok (.putfield 32, 3) := by decide +kernel
theorem d_Ro_open_14 : decode prog_9_method_11_code 14 = .ok (.aload_n 0, 1) := by decide +kernel
theorem d_Ro_open_15 : decode prog_9_method_11_code 15 = .ok (.getfield 13, 3) := by decide +kernel
theorem d_Ro_open_18 : decode prog_9_method_11_code 18 = .ok (.aload_n 0, 1) := by decide +kernel
theorem d_Ro_open_19 : decode prog_9_method_11_code 19 = .ok (.getfield 32, 3) := by decide +kernel
theorem d_Ro_open_22 : decode prog_9_method_11_code 22 = .ok (.aload_n 0, 1) := by decide +kernel
theorem d_Ro_open_23 : decode prog_9_method_11_code 23 = .ok (.getfield 28, 3) := by decide +kernel
theorem d_Ro_open_26 : decode prog_9_method_11_code 26 = .ok (.iastore, 1) := by decide +kernel
theorem d_Ro_open_27 : decode prog_9_method_11_code 27 = .ok (.aload_n 0, 1) := by decide +kernel
theorem d_Ro_open_28 : decode prog_9_method_11_code 28 = .ok (.getfield 16, 3) := by decide +kernel
theorem d_Ro_open_31 : decode prog_9_method_11_code 31 = .ok (.aload_n 0, 1) := by decide +kernel
theorem d_Ro_open_32 : decode prog_9_method_11_code 32 = .ok (.getfield 32, 3) := by decide +kernel
theorem d_Ro_open_35 : decode prog_9_method_11_code 35 = .ok (.iload_n 3, 1) := by decide +kernel
theorem d_Ro_open_36 : decode prog_9_method_11_code 36 = .ok (.iastore, 1) := by decide +kernel
theorem d_Ro_open_37 : decode prog_9_method_11_code 37 = .ok (.aload_n 0, 1) := by decide +kernel
theorem d_Ro_open_38 : decode prog_9_method_11_code 38 = .ok (.getfield 19, 3) := by decide +kernel
theorem d_Ro_open_41 : decode prog_9_method_11_code 41 = .ok (.aload_n 0, 1) := by decide +kernel
theorem d_Ro_open_42 : decode prog_9_method_11_code 42 = .ok (.getfield 32, 3) := by decide +kernel
theorem d_Ro_open_45 : decode prog_9_method_11_code 45 = .ok (.iload 4, 2) := by decide +kernel
theorem d_Ro_open_47 : decode prog_9_method_11_code 47 = .ok (.iastore, 1) := by decide +kernel
theorem d_Ro_open_48 : decode prog_9_method_11_code 48 = .ok (.aload_n 0, 1) := by decide +kernel
theorem d_Ro_open_49 : decode prog_9_method_11_code 49 = .ok (.getfield 22, 3) := by decide +kernel
theorem d_Ro_open_52 : decode prog_9_method_11_code 52 = .ok (.aload_n 0, 1) := by decide +kernel
theorem d_Ro_open_53 : decode prog_9_method_11_code 53 = .ok (.getfield 32, 3) := by decide +kernel
theorem d_Ro_open_56 : decode prog_9_method_11_code 56 = .ok (.iload_n 2, 1) := by decide +kernel
theorem d_Ro_open_57 : decode prog_9_method_11_code 57 = .ok (.iastore, 1) := by decide +kernel
theorem d_Ro_open_58 : decode prog_9_method_11_code 58 = .ok (.aload_n 1, 1) := by decide +kernel
theorem d_Ro_open_59 : decode prog_9_method_11_code 59 = .ok (.iconst 0, 1) := by decide +kernel
theorem d_Ro_open_60 : decode prog_9_method_11_code 60 = .ok (.aload_n 0, 1) := by decide +kernel
theorem d_Ro_open_61 : decode prog_9_method_11_code 61 = .ok (.getfield 25, 3) := by decide +kernel
theorem d_Ro_open_64 : decode prog_9_method_11_code 64 = .ok (.aload_n 0, 1) := by decide +kernel
theorem d_Ro_open_65 : decode prog_9_method_11_code 65 = .ok (.getfield 32, 3) := by decide +kernel
theorem d_Ro_open_68 : decode prog_9_method_11_code 68 = .ok (.bipush 15, 2) := by decide +kernel
theorem d_Ro_open_70 : decode prog_9_method_11_code 70 = .ok (.imul, 1) := by decide +kernel
theorem d_Ro_open_71 : decode prog_9_method_11_code 71 = .ok (.iload_n 2, 1) := by decide +kernel
theorem d_Ro_open_72 : decode prog_9_method_11_code 72 = .ok (.invokestatic 49, 3) := by decide +kernel
theorem d_Ro_open_75 : decode prog_9_method_11_code 75 = .ok (.return_, 1) := by decide +kernel
theorem d_Ro_behind_0 : decode prog_9_method_12_code 0 = .ok (.aload_n 0, 1) := by decide +kernel
theorem d_Ro_behind_1 : decode prog_9_method_12_code 1 = .ok (.getfield 16, 3) := by decide +kernel
theorem d_Ro_behind_4 : decode prog_9_method_12_code 4 = .ok (.aload_n 0, 1) := by decide +kernel
theorem d_Ro_behind_5 : decode prog_9_method_12_code 5 = .ok (.getfield 32, 3) := by decide +kernel
theorem d_Ro_behind_8 : decode prog_9_method_12_code 8 = .ok (.iaload, 1) := by decide +kernel
theorem d_Ro_behind_9 : decode prog_9_method_12_code 9 = .ok (.ireturn, 1) := by decide +kernel
theorem d_Ro_result_0 : decode prog_9_method_13_code 0 = .ok (.aload_n 0, 1) := by decide +kernel
theorem d_Ro_result_1 : decode prog_9_method_13_code 1 = .ok (.getfield 19, 3) := by decide +kernel
theorem d_Ro_result_4 : decode prog_9_method_13_code 4 = .ok (.aload_n 0, 1) := by decide +kernel
theorem d_Ro_result_5 : decode prog_9_method_13_code 5 = .ok (.getfield 32, 3) := by decide +kernel
theorem d_Ro_result_8 : decode prog_9_method_13_code 8 = .ok (.iaload, 1) := by decide +kernel
theorem d_Ro_result_9 : decode prog_9_method_13_code 9 = .ok (.ireturn, 1) := by decide +kernel
theorem d_Ro_close_0 : decode prog_9_method_14_code 0 = .ok (.aload_n 0, 1) := by decide +kernel
theorem d_Ro_close_1 : decode prog_9_method_14_code 1 = .ok (.getfield 32, 3) := by decide +kernel
theorem d_Ro_close_4 : decode prog_9_method_14_code 4 = .ok (.ifCond .ne 11, 3) := by decide +kernel
theorem d_Ro_close_7 : decode prog_9_method_14_code 7 = .ok (.new 43, 3) := by decide +kernel
theorem d_Ro_close_10 : decode prog_9_method_14_code 10 = .ok (.dup, 1) := by decide +kernel
theorem d_Ro_close_11 : decode prog_9_method_14_code 11 = .ok (.invokespecial 45, 3) := by decide +kernel
theorem d_Ro_close_14 : decode prog_9_method_14_code 14 = .ok (.athrow, 1) := by decide +kernel
theorem d_Ro_close_15 : decode prog_9_method_14_code 15 = .ok (.aload_n 0, 1) := by decide +kernel
theorem d_Ro_close_16 : decode prog_9_method_14_code 16 = .ok (.aload_n 0, 1) := by decide +kernel
theorem d_Ro_close_17 : decode prog_9_method_14_code 17 = .ok (.getfield 13, 3) := by decide +kernel
theorem d_Ro_close_20 : decode prog_9_method_14_code 20 = .ok (.aload_n 0, 1) := by decide +kernel
theorem d_Ro_close_21 : decode prog_9_method_14_code 21 = .ok (.getfield 32, 3) := by decide +kernel
theorem d_Ro_close_24 : decode prog_9_method_14_code 24 = .ok (.iaload, 1) := by decide +kernel
theorem d_Ro_close_25 : decode prog_9_method_14_code 25 = .ok (.putfield 28, 3) := by decide +kernel
theorem d_Ro_close_28 : decode prog_9_method_14_code 28 = .ok (.aload_n 0, 1) := by decide +kernel
theorem d_Ro_close_29 : decode prog_9_method_14_code 29 = .ok (.dup, 1) := by decide +kernel
theorem d_Ro_close_30 : decode prog_9_method_14_code 30 = .ok (.getfield 32, 3) := by decide +kernel
theorem d_Ro_close_33 : decode prog_9_method_14_code 33 = .ok (.iconst 1, 1) := by decide +kernel
theorem d_Ro_close_34 : decode prog_9_method_14_code 34 = .ok (.isub, 1) := by decide +kernel
theorem d_Ro_close_35 : decode prog_9_method_14_code 35 = .ok (.putfield 32, 3) := by decide +kernel
theorem d_Ro_close_38 : decode prog_9_method_14_code 38 = .ok (.return_, 1) := by decide +kernel
theorem d_Va_read_0 : decode prog_11_method_2_code 0 = .ok (.iload_n 1, 1) := by decide +kernel
theorem d_Va_read_1 : decode prog_11_method_2_code 1 = .ok (.ifCond .ne 25, 3) := by decide +kernel
theorem d_Va_read_4 : decode prog_11_method_2_code 4 = .ok (.iload_n 2, 1) := by decide +kernel
theorem d_Va_read_5 : decode prog_11_method_2_code 5 = .ok (.ifCond .eq 13, 3) := by decide +kernel
theorem d_Va_read_8 : decode prog_11_method_2_code 8 = .ok (.aload_n 0, 1) := by decide +kernel
theorem d_Va_read_9 : decode prog_11_method_2_code 9 = .ok (.getfield 13, 3) := by decide +kernel
theorem d_Va_read_12 : decode prog_11_method_2_code 12 = .ok (.invokevirtual 17, 3) := by decide +kernel
theorem d_Va_read_15 : decode prog_11_method_2_code 15 = .ok (.goto 10, 3) := by decide +kernel
theorem d_Va_read_18 : decode prog_11_method_2_code 18 = .ok (.aload_n 0, 1) := by decide +kernel
theorem d_Va_read_19 : decode prog_11_method_2_code 19 = .ok (.getfield 13, 3) := by decide +kernel
theorem d_Va_read_22 : decode prog_11_method_2_code 22 = .ok (.invokevirtual 23, 3) := by decide +kernel
theorem d_Va_read_25 : decode prog_11_method_2_code 25 = .ok (.ireturn, 1) := by decide +kernel
theorem d_Va_read_26 : decode prog_11_method_2_code 26 = .ok (.iload_n 1, 1) := by decide +kernel
theorem d_Va_read_27 : decode prog_11_method_2_code 27 = .ok (.bipush 16, 2) := by decide +kernel
theorem d_Va_read_29 : decode prog_11_method_2_code 29 = .ok (.if_icmp .ge 12, 3) := by decide +kernel
theorem d_Va_read_32 : decode prog_11_method_2_code 32 = .ok (.aload_n 0, 1) := by decide +kernel
theorem d_Va_read_33 : decode prog_11_method_2_code 33 = .ok (.getfield 13, 3) := by decide +kernel
theorem d_Va_read_36 : decode prog_11_method_2_code 36 = .ok (.iload_n 1, 1) := by decide +kernel
theorem d_Va_read_37 : decode prog_11_method_2_code 37 = .ok (.invokevirtual 26, 3) := by decide +kernel
theorem d_Va_read_40 : decode prog_11_method_2_code 40 = .ok (.ireturn, 1) := by decide +kernel
theorem d_Va_read_41 : decode prog_11_method_2_code 41 = .ok (.aload_n 0, 1) := by decide +kernel
theorem d_Va_read_42 : decode prog_11_method_2_code 42 = .ok (.getfield 7, 3) := by decide +kernel
theorem d_Va_read_45 : decode prog_11_method_2_code 45 = .ok (.aload_n 0, 1) := by decide +kernel
theorem d_Va_read_46 : decode prog_11_method_2_code 46 = .ok (.iload_n 1, 1) := by decide +kernel
theorem d_Va_read_47 : decode prog_11_method_2_code 47 = .ok (.invokevirtual 30, 3) := by decide +kernel
theorem d_Va_read_50 : decode prog_11_method_2_code 50 = .ok (.invokevirtual 33, 3) := by decide +kernel
theorem d_Va_read_53 : decode prog_11_method_2_code 53 = .ok (.ireturn, 1) := by decide +kernel
theorem d_Va_globalPlace_0 : decode prog_11_method_4_code 0 = .ok (.iload_n 1, 1) := by decide +kernel
theorem d_Va_globalPlace_1 : decode prog_11_method_4_code 1 = .ok (.bipush 48, 2) := by decide +kernel
theorem d_Va_globalPlace_3 : decode prog_11_method_4_code 3 = .ok (.if_icmp .lt 11, 3) := by decide +kernel
theorem d_Va_globalPlace_6 : decode prog_11_method_4_code 6 = .ok (.new 52, 3) := by decide +kernel
theorem d_Va_globalPlace_9 : decode prog_11_method_4_code 9 = .ok (.dup, 1) := by decide +kernel
theorem d_Va_globalPlace_10 : decode prog_11_method_4_code 10 = .ok (.invokespecial 54, 3) := by decide +kernel
theorem d_Va_globalPlace_13 : decode prog_11_method_4_code 13 = .ok (.athrow, 1) := by decide +kernel
theorem d_Va_globalPlace_14 : decode prog_11_method_4_code 14 = .ok (.aload_n 0, 1) := by decide +kernel
theorem d_Va_globalPlace_15 : decode prog_11_method_4_code 15 = .ok (.getfield 7, 3) := by decide +kernel
theorem d_Va_globalPlace_18 : decode prog_11_method_4_code 18 = .ok (.bipush 10, 2) := by decide +kernel
theorem d_Va_globalPlace_20 : decode prog_11_method_4_code 20 = .ok (.invokevirtual 33, 3) := by decide +kernel
theorem d_Va_globalPlace_23 : decode prog_11_method_4_code 23 = .ok (.iconst 2, 1) := by decide +kernel
theorem d_Va_globalPlace_24 : decode prog_11_method_4_code 24 = .ok (.iload_n 1, 1) := by decide +kernel
theorem d_Va_globalPlace_25 : decode prog_11_method_4_code 25 = .ok (.bipush 16, 2) := by decide +kernel
theorem d_Va_globalPlace_27 : decode prog_11_method_4_code 27 = .ok (.isub, 1) := by decide +kernel
theorem d_Va_globalPlace_28 : decode prog_11_method_4_code 28 = .ok (.imul, 1) := by decide +kernel
theorem d_Va_globalPlace_29 : decode prog_11_method_4_code 29 = .ok (.iadd, 1) := by decide +kernel
theorem d_Va_globalPlace_30 : decode prog_11_method_4_code 30 = .ok (.ireturn, 1) := by decide +kernel
theorem d_Va_write_0 : decode prog_11_method_3_code 0 = .ok (.iload_n 1, 1) := by decide +kernel
theorem d_Va_write_1 : decode prog_11_method_3_code 1 = .ok (.ifCond .ne 18, 3) := by decide +kernel
theorem d_Va_write_4 : decode prog_11_method_3_code 4 = .ok (.iload_n 3, 1) := by decide +kernel
theorem d_Va_write_5 : decode prog_11_method_3_code 5 = .ok (.ifCond .eq 14, 3) := by decide +kernel
theorem d_Va_write_8 : decode prog_11_method_3_code 8 = .ok (.aload_n 0, 1) := by decide +kernel
theorem d_Va_write_9 : decode prog_11_method_3_code 9 = .ok (.getfield 13, 3) := by decide +kernel
theorem d_Va_write_12 : decode prog_11_method_3_code 12 = .ok (.iload_n 2, 1) := by decide +kernel
theorem d_Va_write_13 : decode prog_11_method_3_code 13 = .ok (.invokevirtual 38, 3) := by decide +kernel
theorem d_Va_write_16 : decode prog_11_method_3_code 16 = .ok (.goto 49, 3) := by decide +kernel
theorem d_Va_write_19 : decode prog_11_method_3_code 19 = .ok (.iload_n 1, 1) := by decide +kernel
theorem d_Va_write_20 : decode prog_11_method_3_code 20 = .ok (.ifCond .ne 14, 3) := by decide +kernel
theorem d_Va_write_23 : decode prog_11_method_3_code 23 = .ok (.aload_n 0, 1) := by decide +kernel
theorem d_Va_write_24 : decode prog_11_method_3_code 24 = .ok (.getfield 13, 3) := by decide +kernel
theorem d_Va_write_27 : decode prog_11_method_3_code 27 = .ok (.iload_n 2, 1) := by decide +kernel
theorem d_Va_write_28 : decode prog_11_method_3_code 28 = .ok (.invokevirtual 42, 3) := by decide +kernel
theorem d_Va_write_31 : decode prog_11_method_3_code 31 = .ok (.goto 34, 3) := by decide +kernel
theorem d_Va_write_34 : decode prog_11_method_3_code 34 = .ok (.iload_n 1, 1) := by decide +kernel
theorem d_Va_write_35 : decode prog_11_method_3_code 35 = .ok (.bipush 16, 2) := by decide +kernel
theorem d_Va_write_37 : decode prog_11_method_3_code 37 = .ok (.if_icmp .ge 15, 3) := by decide +kernel
theorem d_Va_write_40 : decode prog_11_method_3_code 40 = .ok (.aload_n 0, 1) := by decide +kernel
theorem d_Va_write_41 : decode prog_11_method_3_code 41 = .ok (.getfield 13, 3) := by decide +kernel
theorem d_Va_write_44 : decode prog_11_method_3_code 44 = .ok (.iload_n 1, 1) := by decide +kernel
theorem d_Va_write_45 : decode prog_11_method_3_code 45 = .ok (.iload_n 2, 1) := by decide +kernel
theorem d_Va_write_46 : decode prog_11_method_3_code 46 = .ok (.invokevirtual 45, 3) := by decide +kernel
theorem d_Va_write_49 : decode prog_11_method_3_code 49 = .ok (.goto 16, 3) := by decide +kernel
theorem d_Va_write_52 : decode prog_11_method_3_code 52 = .ok (.aload_n 0, 1) := by decide +kernel
theorem d_Va_write_53 : decode prog_11_method_3_code 53 = .ok (.getfield 7, 3) := by decide +kernel
theorem d_Va_write_56 : decode prog_11_method_3_code 56 = .ok (.aload_n 0, 1) := by decide +kernel
theorem d_Va_write_57 : decode prog_11_method_3_code 57 = .ok (.iload_n 1, 1) := by decide +kernel
theorem d_Va_write_58 : decode prog_11_method_3_code 58 = .ok (.invokevirtual 30, 3) := by decide +kernel
theorem d_Va_write_61 : decode prog_11_method_3_code 61 = .ok (.iload_n 2, 1) := by decide +kernel
theorem d_Va_write_62 : decode prog_11_method_3_code 62 = .ok (.invokevirtual 49, 3) := by decide +kernel
theorem d_Va_write_65 : decode prog_11_method_3_code 65 = .ok (.return_, 1) := by decide +kernel
theorem d_Li_clear_0 : decode prog_6_method_2_code 0 = .ok (.aload_n 0, 1) := by decide +kernel
theorem d_Li_clear_1 : decode prog_6_method_2_code 1 = .ok (.iconst 0, 1) := by decide +kernel
theorem d_Li_clear_2 : decode prog_6_method_2_code 2 = .ok (.putfield 16, 3) := by decide +kernel
theorem d_Li_clear_5 : decode prog_6_method_2_code 5 = .ok (.aload_n 0, 1) := by decide +kernel
theorem d_Li_clear_6 : decode prog_6_method_2_code 6 = .ok (.iconst 0, 1) := by decide +kernel
theorem d_Li_clear_7 : decode prog_6_method_2_code 7 = .ok (.putfield 20, 3) := by decide +kernel
theorem d_Li_clear_10 : decode prog_6_method_2_code 10 = .ok (.return_, 1) := by decide +kernel
theorem d_Li_add_0 : decode prog_6_method_3_code 0 = .ok (.aload_n 0, 1) := by decide +kernel
theorem d_Li_add_1 : decode prog_6_method_3_code 1 = .ok (.getfield 16, 3) := by decide +kernel
theorem d_Li_add_4 : decode prog_6_method_3_code 4 = .ok (.bipush 24, 2) := by decide +kernel
theorem d_Li_add_6 : decode prog_6_method_3_code 6 = .ok (.if_icmp .ge 23, 3) := by decide +kernel
theorem d_Li_add_9 : decode prog_6_method_3_code 9 = .ok (.aload_n 0, 1) := by decide +kernel
theorem d_Li_add_10 : decode prog_6_method_3_code 10 = .ok (.getfield 9, 3) := by decide +kernel
theorem d_Li_add_13 : decode prog_6_method_3_code 13 = .ok (.aload_n 0, 1) := by decide +kernel
theorem d_Li_add_14 : decode prog_6_method_3_code 14 = .ok (.getfield 16, 3) := by decide +kernel
theorem d_Li_add_17 : decode prog_6_method_3_code 17 = .ok (.iload_n 1, 1) := by decide +kernel
theorem d_Li_add_18 : decode prog_6_method_3_code 18 = .ok (.iastore, 1) := by decide +kernel
theorem d_Li_add_19 : decode prog_6_method_3_code 19 = .ok (.aload_n 0, 1) := by decide +kernel
theorem d_Li_add_20 : decode prog_6_method_3_code 20 = .ok (.dup, 1) := by decide +kernel
theorem d_Li_add_21 : decode prog_6_method_3_code 21 = .ok (.getfield 16, 3) := by decide +kernel
theorem d_Li_add_24 : decode prog_6_method_3_code 24 = .ok (.iconst 1, 1) := by decide +kernel
theorem d_Li_add_25 : decode prog_6_method_3_code 25 = .ok (.iadd, 1) := by decide +kernel
theorem d_Li_add_26 : decode prog_6_method_3_code 26 = .ok (.putfield 16, 3) := by decide +kernel
theorem d_Li_add_29 : decode prog_6_method_3_code 29 = .ok (.return_, 1) := by decide +kernel
theorem d_Li_finish_0 : decode prog_6_method_4_code 0 = .ok (.iconst 0, 1) := by decide +kernel
theorem d_Li_finish_1 : decode prog_6_method_4_code 1 = .ok (.istore_n 1, 1) := by decide +kernel
theorem d_Li_finish_2 : decode prog_6_method_4_code 2 = .ok (.iload_n 1, 1) := by decide +kernel
theorem d_Li_finish_3 : decode prog_6_method_4_code 3 = .ok (.aload_n 0, 1) := by decide +kernel
theorem d_Li_finish_4 : decode prog_6_method_4_code 4 = .ok (.getfield 16, 3) := by decide +kernel
theorem d_Li_finish_7 : decode prog_6_method_4_code 7 = .ok (.if_icmp .ge 55, 3) := by decide +kernel
theorem d_Li_finish_10 : decode prog_6_method_4_code 10 = .ok (.aload_n 0, 1) := by decide +kernel
theorem d_Li_finish_11 : decode prog_6_method_4_code 11 = .ok (.getfield 9, 3) := by decide +kernel
theorem d_Li_finish_14 : decode prog_6_method_4_code 14 = .ok (.iload_n 1, 1) := by decide +kernel
theorem d_Li_finish_15 : decode prog_6_method_4_code 15 = .ok (.iaload, 1) := by decide +kernel
theorem d_Li_finish_16 : decode prog_6_method_4_code 16 = .ok (.istore_n 2, 1) := by decide +kernel
theorem d_Li_finish_17 : decode prog_6_method_4_code 17 = .ok (.iload_n 2, 1) := by decide +kernel
theorem d_Li_finish_18 : decode prog_6_method_4_code 18 = .ok (.bipush 65, 2) := by decide +kernel
theorem d_Li_finish_20 : decode prog_6_method_4_code 20 = .ok (.if_icmp .lt 13, 3) := by decide +kernel
theorem d_Li_finish_23 : decode prog_6_method_4_code 23 = .ok (.iload_n 2, 1) := by decide +kernel
theorem d_Li_finish_24 : decode prog_6_method_4_code 24 = .ok (.bipush 90, 2) := by decide +kernel
theorem d_Li_finish_26 : decode prog_6_method_4_code 26 = .ok (.if_icmp .gt 7, 3) := by decide +kernel
theorem d_Li_finish_29 : decode prog_6_method_4_code 29 = .ok (.iconst 1, 1) := by decide +kernel
theorem d_Li_finish_30 : decode prog_6_method_4_code 30 = .ok (.goto 4, 3) := by decide +kernel
theorem d_Li_finish_33 : decode prog_6_method_4_code 33 = .ok (.iconst 0, 1) := by decide +kernel
theorem d_Li_finish_34 : decode prog_6_method_4_code 34 = .ok (.istore_n 3, 1) := by decide +kernel
theorem d_Li_finish_35 : decode prog_6_method_4_code 35 = .ok (.aload_n 0, 1) := by decide +kernel
theorem d_Li_finish_36 : decode prog_6_method_4_code 36 = .ok (.getfield 13, 3) := by decide +kernel
theorem d_Li_finish_39 : decode prog_6_method_4_code 39 = .ok (.iload_n 1, 1) := by decide +kernel
theorem d_Li_finish_40 : decode prog_6_method_4_code 40 = .ok (.iload_n 3, 1) := by decide +kernel
theorem d_Li_finish_41 : decode prog_6_method_4_code 41 = .ok (.ifCond .eq 13, 3) := by decide +kernel
theorem d_Li_finish_44 : decode prog_6_method_4_code 44 = .ok (.iload_n 2, 1) := by decide +kernel
theorem d_Li_finish_45 : decode prog_6_method_4_code 45 = .ok (.bipush 65, 2) := by decide +kernel
theorem d_Li_finish_47 : decode prog_6_method_4_code 47 = .ok (.isub, 1) := by decide +kernel
theorem d_Li_finish_48 : decode prog_6_method_4_code 48 = .ok (.bipush 97, 2) := by decide +kernel
theorem d_Li_finish_50 : decode prog_6_method_4_code 50 = .ok (.iadd, 1) := by decide +kernel
theorem d_Li_finish_51 : decode prog_6_method_4_code 51 = .ok (.goto 4, 3) := by decide +kernel
theorem d_Li_finish_54 : decode prog_6_method_4_code 54 = .ok (.iload_n 2, 1) := by decide +kernel
theorem d_Li_finish_55 : decode prog_6_method_4_code 55 = .ok (.iastore, 1) := by decide +kernel
theorem d_Li_finish_56 : decode prog_6_method_4_code 56 = .ok (.iinc 1 1, 3) := by decide +kernel
theorem d_Li_finish_59 : decode prog_6_method_4_code 59 = .ok (.goto (-57), 3) := by decide +kernel
theorem d_Li_finish_62 : decode prog_6_method_4_code 62 = .ok (.aload_n 0, 1) := by decide +kernel
theorem d_Li_finish_63 : decode prog_6_method_4_code 63 = .ok (.aload_n 0, 1) := by decide +kernel
theorem d_Li_finish_64 : decode prog_6_method_4_code 64 = .ok (.getfield 16, 3) := by decide +kernel
theorem d_Li_finish_67 : decode prog_6_method_4_code 67 = .ok (.putfield 24, 3) := by decide +kernel
theorem d_Li_finish_70 : decode prog_6_method_4_code 70 = .ok (.aload_n 0, 1) := by decide +kernel
theorem d_Li_finish_71 : decode prog_6_method_4_code 71 = .ok (.iconst 0, 1) := by decide +kernel
theorem d_Li_finish_72 : decode prog_6_method_4_code 72 = .ok (.putfield 16, 3) := by decide +kernel
theorem d_Li_finish_75 : decode prog_6_method_4_code 75 = .ok (.aload_n 0, 1) := by decide +kernel
theorem d_Li_finish_76 : decode prog_6_method_4_code 76 = .ok (.iconst 1, 1) := by decide +kernel
theorem d_Li_finish_77 : decode prog_6_method_4_code 77 = .ok (.putfield 20, 3) := by decide +kernel
theorem d_Li_finish_80 : decode prog_6_method_4_code 80 = .ok (.return_, 1) := by decide +kernel
theorem d_Pr_put_0 : decode prog_8_method_2_code 0 = .ok (.aload_n 0, 1) := by decide +kernel
theorem d_Pr_put_1 : decode prog_8_method_2_code 1 = .ok (.getfield 9, 3) := by decide +kernel
theorem d_Pr_put_4 : decode prog_8_method_2_code 4 = .ok (.aload_n 0, 1) := by decide +kernel
theorem d_Pr_put_5 : decode prog_8_method_2_code 5 = .ok (.getfield 17, 3) := by decide +kernel
theorem d_Pr_put_8 : decode prog_8_method_2_code 8 = .ok (.bipush 63, 2) := by decide +kernel
theorem d_Pr_put_10 : decode prog_8_method_2_code 10 = .ok (.iand, 1) := by decide +kernel
theorem d_Pr_put_11 : decode prog_8_method_2_code 11 = .ok (.iload_n 1, 1) := by decide +kernel
theorem d_Pr_put_12 : decode prog_8_method_2_code 12 = .ok (.iastore, 1) := by decide +kernel
theorem d_Pr_put_13 : decode prog_8_method_2_code 13 = .ok (.aload_n 0, 1) := by decide +kernel
theorem d_Pr_put_14 : decode prog_8_method_2_code 14 = .ok (.dup, 1) := by decide +kernel
theorem d_Pr_put_15 : decode prog_8_method_2_code 15 = .ok (.getfield 17, 3) := by decide +kernel
theorem d_Pr_put_18 : decode prog_8_method_2_code 18 = .ok (.iconst 1, 1) := by decide +kernel
theorem d_Pr_put_19 : decode prog_8_method_2_code 19 = .ok (.iadd, 1) := by decide +kernel
theorem d_Pr_put_20 : decode prog_8_method_2_code 20 = .ok (.putfield 17, 3) := by decide +kernel
theorem d_Pr_put_23 : decode prog_8_method_2_code 23 = .ok (.return_, 1) := by decide +kernel
theorem d_Pr_latest_0 : decode prog_8_method_3_code 0 = .ok (.aload_n 0, 1) := by decide +kernel
theorem d_Pr_latest_1 : decode prog_8_method_3_code 1 = .ok (.getfield 9, 3) := by decide +kernel
theorem d_Pr_latest_4 : decode prog_8_method_3_code 4 = .ok (.aload_n 0, 1) := by decide +kernel
theorem d_Pr_latest_5 : decode prog_8_method_3_code 5 = .ok (.getfield 17, 3) := by decide +kernel
theorem d_Pr_latest_8 : decode prog_8_method_3_code 8 = .ok (.iconst 1, 1) := by decide +kernel
theorem d_Pr_latest_9 : decode prog_8_method_3_code 9 = .ok (.isub, 1) := by decide +kernel
theorem d_Pr_latest_10 : decode prog_8_method_3_code 10 = .ok (.iload_n 1, 1) := by decide +kernel
theorem d_Pr_latest_11 : decode prog_8_method_3_code 11 = .ok (.isub, 1) := by decide +kernel
theorem d_Pr_latest_12 : decode prog_8_method_3_code 12 = .ok (.bipush 63, 2) := by decide +kernel
theorem d_Pr_latest_14 : decode prog_8_method_3_code 14 = .ok (.iand, 1) := by decide +kernel
theorem d_Pr_latest_15 : decode prog_8_method_3_code 15 = .ok (.iaload, 1) := by decide +kernel
theorem d_Pr_latest_16 : decode prog_8_method_3_code 16 = .ok (.ireturn, 1) := by decide +kernel
theorem d_Pr_putNumber_0 : decode prog_8_method_4_code 0 = .ok (.iload_n 1, 1) := by decide +kernel
theorem d_Pr_putNumber_1 : decode prog_8_method_4_code 1 = .ok (.ifCond .ge 9, 3) := by decide +kernel
theorem d_Pr_putNumber_4 : decode prog_8_method_4_code 4 = .ok (.aload_n 0, 1) := by decide +kernel
theorem d_Pr_putNumber_5 : decode prog_8_method_4_code 5 = .ok (.bipush 45, 2) := by decide +kernel
theorem d_Pr_putNumber_7 : decode prog_8_method_4_code 7 = .ok (.invokevirtual 21, 3) := by decide +kernel
theorem d_Pr_putNumber_10 : decode prog_8_method_4_code 10 = .ok (.iload_n 1, 1) := by decide +kernel
theorem d_Pr_putNumber_11 : decode prog_8_method_4_code 11 = .ok (.invokestatic 25, 3) := by decide +kernel
theorem d_Pr_putNumber_14 : decode prog_8_method_4_code 14 = .ok (.istore_n 2, 1) := by decide +kernel
theorem d_Pr_putNumber_15 : decode prog_8_method_4_code 15 = .ok (.sipush 10000, 3) := by decide +kernel
theorem d_Pr_putNumber_18 : decode prog_8_method_4_code 18 = .ok (.istore_n 3, 1) := by decide +kernel
theorem d_Pr_putNumber_19 : decode prog_8_method_4_code 19 = .ok (.iload_n 3, 1) := by decide +kernel
theorem d_Pr_putNumber_20 : decode prog_8_method_4_code 20 = .ok (.ifCond .le 34, 3) := by decide +kernel
theorem d_Pr_putNumber_23 : decode prog_8_method_4_code 23 = .ok (.iload_n 2, 1) := by decide +kernel
theorem d_Pr_putNumber_24 : decode prog_8_method_4_code 24 = .ok (.iload_n 3, 1) := by decide +kernel
theorem d_Pr_putNumber_25 : decode prog_8_method_4_code 25 = .ok (.if_icmp .ge 8, 3) := by decide +kernel
theorem d_Pr_putNumber_28 : decode prog_8_method_4_code 28 = .ok (.iload_n 3, 1) := by decide +kernel
theorem d_Pr_putNumber_29 : decode prog_8_method_4_code 29 = .ok (.iconst 1, 1) := by decide +kernel
theorem d_Pr_putNumber_30 : decode prog_8_method_4_code 30 = .ok (.if_icmp .ne 16, 3) := by decide +kernel
theorem d_Pr_putNumber_33 : decode prog_8_method_4_code 33 = .ok (.aload_n 0, 1) := by decide +kernel
theorem d_Pr_putNumber_34 : decode prog_8_method_4_code 34 = .ok (.bipush 48, 2) := by decide +kernel
theorem d_Pr_putNumber_36 : decode prog_8_method_4_code 36 = .ok (.iload_n 2, 1) := by decide +kernel
theorem d_Pr_putNumber_37 : decode prog_8_method_4_code 37 = .ok (.iload_n 3, 1) := by decide +kernel
theorem d_Pr_putNumber_38 : decode prog_8_method_4_code 38 = .ok (.idiv, 1) := by decide +kernel
theorem d_Pr_putNumber_39 : decode prog_8_method_4_code 39 = .ok (.bipush 10, 2) := by decide +kernel
theorem d_Pr_putNumber_41 : decode prog_8_method_4_code 41 = .ok (.irem, 1) := by decide +kernel
theorem d_Pr_putNumber_42 : decode prog_8_method_4_code 42 = .ok (.iadd, 1) := by decide +kernel
theorem d_Pr_putNumber_43 : decode prog_8_method_4_code 43 = .ok (.invokevirtual 21, 3) := by decide +kernel
theorem d_Pr_putNumber_46 : decode prog_8_method_4_code 46 = .ok (.iload_n 3, 1) := by decide +kernel
theorem d_Pr_putNumber_47 : decode prog_8_method_4_code 47 = .ok (.bipush 10, 2) := by decide +kernel
theorem d_Pr_putNumber_49 : decode prog_8_method_4_code 49 = .ok (.idiv, 1) := by decide +kernel
theorem d_Pr_putNumber_50 : decode prog_8_method_4_code 50 = .ok (.istore_n 3, 1) := by decide +kernel
theorem d_Pr_putNumber_51 : decode prog_8_method_4_code 51 = .ok (.goto (-32), 3) := by decide +kernel
theorem d_Pr_putNumber_54 : decode prog_8_method_4_code 54 = .ok (.return_, 1) := by decide +kernel
theorem d_Tr_placeOf_0 : decode prog_10_method_2_code 0 = .ok (.iload_n 1, 1) := by decide +kernel
theorem d_Tr_placeOf_1 : decode prog_10_method_2_code 1 = .ok (.iconst 1, 1) := by decide +kernel
theorem d_Tr_placeOf_2 : decode prog_10_method_2_code 2 = .ok (.if_icmp .lt 9, 3) := by decide +kernel
theorem d_Tr_placeOf_5 : decode prog_10_method_2_code 5 = .ok (.iload_n 1, 1) := by decide +kernel
theorem d_Tr_placeOf_6 : decode prog_10_method_2_code 6 = .ok (.bipush 20, 2) := by decide +kernel
theorem d_Tr_placeOf_8 : decode prog_10_method_2_code 8 = .ok (.if_icmp .le 11, 3) := by decide +kernel
theorem d_Tr_placeOf_11 : decode prog_10_method_2_code 11 = .ok (.new 13, 3) := by decide +kernel
theorem d_Tr_placeOf_14 : decode prog_10_method_2_code 14 = .ok (.dup, 1) := by decide +kernel
theorem d_Tr_placeOf_15 : decode prog_10_method_2_code 15 = .ok (.invokespecial 15, 3) := by decide +kernel
theorem d_Tr_placeOf_18 : decode prog_10_method_2_code 18 = .ok (.athrow, 1) := by decide +kernel
theorem d_Tr_placeOf_19 : decode prog_10_method_2_code 19 = .ok (.aload_n 0, 1) := by decide +kernel
theorem d_Tr_placeOf_20 : decode prog_10_method_2_code 20 = .ok (.getfield 7, 3) := by decide +kernel
theorem d_Tr_placeOf_23 : decode prog_10_method_2_code 23 = .ok (.bipush 8, 2) := by decide +kernel
theorem d_Tr_placeOf_25 : decode prog_10_method_2_code 25 = .ok (.invokevirtual 18, 3) := by decide +kernel
theorem d_Tr_placeOf_28 : decode prog_10_method_2_code 28 = .ok (.bipush 14, 2) := by decide +kernel
theorem d_Tr_placeOf_30 : decode prog_10_method_2_code 30 = .ok (.iadd, 1) := by decide +kernel
theorem d_Tr_placeOf_31 : decode prog_10_method_2_code 31 = .ok (.bipush 9, 2) := by decide +kernel
theorem d_Tr_placeOf_33 : decode prog_10_method_2_code 33 = .ok (.iload_n 1, 1) := by decide +kernel
theorem d_Tr_placeOf_34 : decode prog_10_method_2_code 34 = .ok (.iconst 1, 1) := by decide +kernel
theorem d_Tr_placeOf_35 : decode prog_10_method_2_code 35 = .ok (.isub, 1) := by decide +kernel
theorem d_Tr_placeOf_36 : decode prog_10_method_2_code 36 = .ok (.imul, 1) := by decide +kernel
theorem d_Tr_placeOf_37 : decode prog_10_method_2_code 37 = .ok (.iadd, 1) := by decide +kernel
theorem d_Tr_placeOf_38 : decode prog_10_method_2_code 38 = .ok (.ireturn, 1) := by decide +kernel
theorem d_Tr_parent_0 : decode prog_10_method_3_code 0 = .ok (.aload_n 0, 1) := by decide +kernel
theorem d_Tr_parent_1 : decode prog_10_method_3_code 1 = .ok (.getfield 7, 3) := by decide +kernel
theorem d_Tr_parent_4 : decode prog_10_method_3_code 4 = .ok (.aload_n 0, 1) := by decide +kernel
theorem d_Tr_parent_5 : decode prog_10_method_3_code 5 = .ok (.iload_n 1, 1) := by decide +kernel
theorem d_Tr_parent_6 : decode prog_10_method_3_code 6 = .ok (.invokevirtual 22, 3) := by decide +kernel
theorem d_Tr_parent_9 : decode prog_10_method_3_code 9 = .ok (.iconst 4, 1) := by decide +kernel
theorem d_Tr_parent_10 : decode prog_10_method_3_code 10 = .ok (.iadd, 1) := by decide +kernel
theorem d_Tr_parent_11 : decode prog_10_method_3_code 11 = .ok (.invokevirtual 25, 3) := by decide +kernel
theorem d_Tr_parent_14 : decode prog_10_method_3_code 14 = .ok (.ireturn, 1) := by decide +kernel
theorem d_Tr_sibling_0 : decode prog_10_method_4_code 0 = .ok (.aload_n 0, 1) := by decide +kernel
theorem d_Tr_sibling_1 : decode prog_10_method_4_code 1 = .ok (.getfield 7, 3) := by decide +kernel
theorem d_Tr_sibling_4 : decode prog_10_method_4_code 4 = .ok (.aload_n 0, 1) := by decide +kernel
theorem d_Tr_sibling_5 : decode prog_10_method_4_code 5 = .ok (.iload_n 1, 1) := by decide +kernel
theorem d_Tr_sibling_6 : decode prog_10_method_4_code 6 = .ok (.invokevirtual 22, 3) := by decide +kernel
theorem d_Tr_sibling_9 : decode prog_10_method_4_code 9 = .ok (.iconst 5, 1) := by decide +kernel
theorem d_Tr_sibling_10 : decode prog_10_method_4_code 10 = .ok (.iadd, 1) := by decide +kernel
theorem d_Tr_sibling_11 : decode prog_10_method_4_code 11 = .ok (.invokevirtual 25, 3) := by decide +kernel
theorem d_Tr_sibling_14 : decode prog_10_method_4_code 14 = .ok (.ireturn, 1) := by decide +kernel
theorem d_Tr_child_0 : decode prog_10_method_5_code 0 = .ok (.aload_n 0, 1) := by decide +kernel
theorem d_Tr_child_1 : decode prog_10_method_5_code 1 = .ok (.getfield 7, 3) := by decide +kernel
theorem d_Tr_child_4 : decode prog_10_method_5_code 4 = .ok (.aload_n 0, 1) := by decide +kernel
theorem d_Tr_child_5 : decode prog_10_method_5_code 5 = .ok (.iload_n 1, 1) := by decide +kernel
theorem d_Tr_child_6 : decode prog_10_method_5_code 6 = .ok (.invokevirtual 22, 3) := by decide +kernel
theorem d_Tr_child_9 : decode prog_10_method_5_code 9 = .ok (.bipush 6, 2) := by decide +kernel
theorem d_Tr_child_11 : decode prog_10_method_5_code 11 = .ok (.iadd, 1) := by decide +kernel
theorem d_Tr_child_12 : decode prog_10_method_5_code 12 = .ok (.invokevirtual 25, 3) := by decide +kernel
theorem d_Tr_child_15 : decode prog_10_method_5_code 15 = .ok (.ireturn, 1) := by decide +kernel
theorem d_Tr_hasAttribute_0 : decode prog_10_method_7_code 0 = .ok (.aload_n 0, 1) := by decide +kernel
theorem d_Tr_hasAttribute_1 : decode prog_10_method_7_code 1 = .ok (.getfield 7, 3) := by decide +kernel
theorem d_Tr_hasAttribute_4 : decode prog_10_method_7_code 4 = .ok (.aload_n 0, 1) := by decide +kernel
theorem d_Tr_hasAttribute_5 : decode prog_10_method_7_code 5 = .ok (.iload_n 1, 1) := by decide +kernel
theorem d_Tr_hasAttribute_6 : decode prog_10_method_7_code 6 = .ok (.iload_n 2, 1) := by decide +kernel
theorem d_Tr_hasAttribute_7 : decode prog_10_method_7_code 7 = .ok (.invokevirtual 28, 3) := by decide +kernel
theorem d_Tr_hasAttribute_10 : decode prog_10_method_7_code 10 = .ok (.invokevirtual 25, 3) := by decide +kernel
theorem d_Tr_hasAttribute_13 : decode prog_10_method_7_code 13 = .ok (.istore_n 3, 1) := by decide +kernel
theorem d_Tr_hasAttribute_14 : decode prog_10_method_7_code 14 = .ok (.iload_n 3, 1) := by decide +kernel
theorem d_Tr_hasAttribute_15 : decode prog_10_method_7_code 15 = .ok (.sipush 128, 3) := by decide +kernel
theorem d_Tr_hasAttribute_18 : decode prog_10_method_7_code 18 = .ok (.iload_n 2, 1) := by decide +kernel
theorem d_Tr_hasAttribute_19 : decode prog_10_method_7_code 19 = .ok (.bipush 8, 2) := by decide +kernel
theorem d_Tr_hasAttribute_21 : decode prog_10_method_7_code 21 = .ok (.irem, 1) := by decide +kernel
theorem d_Tr_hasAttribute_22 : decode prog_10_method_7_code 22 = .ok (.ishr, 1) := by decide +kernel
theorem d_Tr_hasAttribute_23 : decode prog_10_method_7_code 23 = .ok (.iand, 1) := by decide +kernel
theorem d_Tr_hasAttribute_24 : decode prog_10_method_7_code 24 = .ok (.ifCond .eq 7, 3) := by decide +kernel
theorem d_Tr_hasAttribute_27 : decode prog_10_method_7_code 27 = .ok (.iconst 1, 1) := by decide +kernel
theorem d_Tr_hasAttribute_28 : decode prog_10_method_7_code 28 = .ok (.goto 4, 3) := by decide +kernel
theorem d_Tr_hasAttribute_31 : decode prog_10_method_7_code 31 = .ok (.iconst 0, 1) := by decide +kernel
theorem d_Tr_hasAttribute_32 : decode prog_10_method_7_code 32 = .ok (.ireturn, 1) := by decide +kernel
theorem d_Tr_attributePlace_0 : decode prog_10_method_6_code 0 = .ok (.aload_n 0, 1) := by decide +kernel
theorem d_Tr_attributePlace_1 : decode prog_10_method_6_code 1 = .ok (.iload_n 1, 1) := by decide +kernel
theorem d_Tr_attributePlace_2 : decode prog_10_method_6_code 2 = .ok (.invokevirtual 22, 3) := by decide +kernel
theorem d_Tr_attributePlace_5 : decode prog_10_method_6_code 5 = .ok (.istore_n 3, 1) := by decide +kernel
theorem d_Tr_attributePlace_6 : decode prog_10_method_6_code 6 = .ok (.iload_n 2, 1) := by decide +kernel
theorem d_Tr_attributePlace_7 : decode prog_10_method_6_code 7 = .ok (.bipush 31, 2) := by decide +kernel
theorem d_Tr_attributePlace_9 : decode prog_10_method_6_code 9 = .ok (.if_icmp .le 11, 3) := by decide +kernel
theorem d_Tr_attributePlace_12 : decode prog_10_method_6_code 12 = .ok (.new 13, 3) := by decide +kernel
theorem d_Tr_attributePlace_15 : decode prog_10_method_6_code 15 = .ok (.dup, 1) := by decide +kernel
theorem d_Tr_attributePlace_16 : decode prog_10_method_6_code 16 = .ok (.invokespecial 15, 3) := by decide +kernel
theorem d_Tr_attributePlace_19 : decode prog_10_method_6_code 19 = .ok (.athrow, 1) := by decide +kernel
theorem d_Tr_attributePlace_20 : decode prog_10_method_6_code 20 = .ok (.iload_n 3, 1) := by decide +kernel
theorem d_Tr_attributePlace_21 : decode prog_10_method_6_code 21 = .ok (.iload_n 2, 1) := by decide +kernel
theorem d_Tr_attributePlace_22 : decode prog_10_method_6_code 22 = .ok (.bipush 8, 2) := by decide +kernel
theorem d_Tr_attributePlace_24 : decode prog_10_method_6_code 24 = .ok (.idiv, 1) := by decide +kernel
theorem d_Tr_attributePlace_25 : decode prog_10_method_6_code 25 = .ok (.iadd, 1) := by decide +kernel
theorem d_Tr_attributePlace_26 : decode prog_10_method_6_code 26 = .ok (.ireturn, 1) := by decide +kernel
theorem d_Tr_setAttribute_0 : decode prog_10_method_8_code 0 = .ok (.aload_n 0, 1) := by decide +kernel
theorem d_Tr_setAttribute_1 : decode prog_10_method_8_code 1 = .ok (.iload_n 1, 1) := by decide +kernel
theorem d_Tr_setAttribute_2 : decode prog_10_method_8_code 2 = .ok (.iload_n 2, 1) := by decide +kernel
theorem d_Tr_setAttribute_3 : decode prog_10_method_8_code 3 = .ok (.invokevirtual 28, 3) := by decide +kernel
theorem d_Tr_setAttribute_6 : decode prog_10_method_8_code 6 = .ok (.istore 4, 2) := by decide +kernel
theorem d_Tr_setAttribute_8 : decode prog_10_method_8_code 8 = .ok (.aload_n 0, 1) := by decide +kernel
theorem d_Tr_setAttribute_9 : decode prog_10_method_8_code 9 = .ok (.getfield 7, 3) := by decide +kernel
theorem d_Tr_setAttribute_12 : decode prog_10_method_8_code 12 = .ok (.iload 4, 2) := by decide +kernel
theorem d_Tr_setAttribute_14 : decode prog_10_method_8_code 14 = .ok (.invokevirtual 25, 3) := by decide +kernel
theorem d_Tr_setAttribute_17 : decode prog_10_method_8_code 17 = .ok (.istore 5, 2) := by decide +kernel
theorem d_Tr_setAttribute_19 : decode prog_10_method_8_code 19 = .ok (.sipush 128, 3) := by decide +kernel
theorem d_Tr_setAttribute_22 : decode prog_10_method_8_code 22 = .ok (.iload_n 2, 1) := by decide +kernel
theorem d_Tr_setAttribute_23 : decode prog_10_method_8_code 23 = .ok (.bipush 8, 2) := by decide +kernel
theorem d_Tr_setAttribute_25 : decode prog_10_method_8_code 25 = .ok (.irem, 1) := by decide +kernel
theorem d_Tr_setAttribute_26 : decode prog_10_method_8_code 26 = .ok (.ishr, 1) := by decide +kernel
theorem d_Tr_setAttribute_27 : decode prog_10_method_8_code 27 = .ok (.istore 6, 2) := by decide +kernel
theorem d_Tr_setAttribute_29 : decode prog_10_method_8_code 29 = .ok (.aload_n 0, 1) := by decide +kernel
theorem d_Tr_setAttribute_30 : decode prog_10_method_8_code 30 = .ok (.getfield 7, 3) := by decide +kernel
theorem d_Tr_setAttribute_33 : decode prog_10_method_8_code 33 = .ok (.iload 4, 2) := by decide +kernel
theorem d_Tr_setAttribute_35 : decode prog_10_method_8_code 35 = .ok (.iload_n 3, 1) := by decide +kernel
theorem d_Tr_setAttribute_36 : decode prog_10_method_8_code 36 = .ok (.ifCond .eq 11, 3) := by decide +kernel
theorem d_Tr_setAttribute_39 : decode prog_10_method_8_code 39 = .ok (.iload 5, 2) := by decide +kernel
theorem d_Tr_setAttribute_41 : decode prog_10_method_8_code 41 = .ok (.iload 6, 2) := by decide +kernel
theorem d_Tr_setAttribute_43 : decode prog_10_method_8_code 43 = .ok (.ior, 1) := by decide +kernel
theorem d_Tr_setAttribute_44 : decode prog_10_method_8_code 44 = .ok (.goto 10, 3) := by decide +kernel
theorem d_Tr_setAttribute_47 : decode prog_10_method_8_code 47 = .ok (.iload 5, 2) := by decide +kernel
theorem d_Tr_setAttribute_49 : decode prog_10_method_8_code 49 = .ok (.iload 6, 2) := by decide +kernel
theorem d_Tr_setAttribute_51 : decode prog_10_method_8_code 51 = .ok (.iconst (-1), 1) := by decide +kernel
theorem d_Tr_setAttribute_52 : decode prog_10_method_8_code 52 = .ok (.ixor, 1) := by decide +kernel
theorem d_Tr_setAttribute_53 : decode prog_10_method_8_code 53 = .ok (.iand, 1) := by decide +kernel
theorem d_Tr_setAttribute_54 : decode prog_10_method_8_code 54 = .ok (.invokevirtual 32, 3) := by decide +kernel
theorem d_Tr_setAttribute_57 : decode prog_10_method_8_code 57 = .ok (.return_, 1) := by decide +kernel
theorem d_Tr_takeFromParent_0 : decode prog_10_method_9_code 0 = .ok (.aload_n 0, 1) := by decide +kernel
theorem d_Tr_takeFromParent_1 : decode prog_10_method_9_code 1 = .ok (.iload_n 1, 1) := by decide +kernel
theorem d_Tr_takeFromParent_2 : decode prog_10_method_9_code 2 = .ok (.invokevirtual 22, 3) := by decide +kernel
theorem d_Tr_takeFromParent_5 : decode prog_10_method_9_code 5 = .ok (.istore_n 2, 1) := by decide +kernel
theorem d_Tr_takeFromParent_6 : decode prog_10_method_9_code 6 = .ok (.aload_n 0, 1) := by decide +kernel
theorem d_Tr_takeFromParent_7 : decode prog_10_method_9_code 7 = .ok (.getfield 7, 3) := by decide +kernel
theorem d_Tr_takeFromParent_10 : decode prog_10_method_9_code 10 = .ok (.iload_n 2, 1) := by decide +kernel
theorem d_Tr_takeFromParent_11 : decode prog_10_method_9_code 11 = .ok (.iconst 4, 1) := by decide +kernel
theorem d_Tr_takeFromParent_12 : decode prog_10_method_9_code 12 = .ok (.iadd, 1) := by decide +kernel
theorem d_Tr_takeFromParent_13 : decode prog_10_method_9_code 13 = .ok (.invokevirtual 25, 3) := by decide +kernel
theorem d_Tr_takeFromParent_16 : decode prog_10_method_9_code 16 = .ok (.istore_n 3, 1) := by decide +kernel
theorem d_Tr_takeFromParent_17 : decode prog_10_method_9_code 17 = .ok (.iload_n 3, 1) := by decide +kernel
theorem d_Tr_takeFromParent_18 : decode prog_10_method_9_code 18 = .ok (.ifCond .ne 4, 3) := by decide +kernel
theorem d_Tr_takeFromParent_21 : decode prog_10_method_9_code 21 = .ok (.return_, 1) := by decide +kernel
theorem d_Tr_takeFromParent_22 : decode prog_10_method_9_code 22 = .ok (.aload_n 0, 1) := by decide +kernel
theorem d_Tr_takeFromParent_23 : decode prog_10_method_9_code 23 = .ok (.getfield 7, 3) := by decide +kernel
theorem d_Tr_takeFromParent_26 : decode prog_10_method_9_code 26 = .ok (.iload_n 2, 1) := by decide +kernel
theorem d_Tr_takeFromParent_27 : decode prog_10_method_9_code 27 = .ok (.iconst 5, 1) := by decide +kernel
theorem d_Tr_takeFromParent_28 : decode prog_10_method_9_code 28 = .ok (.iadd, 1) := by decide +kernel
theorem d_Tr_takeFromParent_29 : decode prog_10_method_9_code 29 = .ok (.invokevirtual 25, 3) := by decide +kernel
theorem d_Tr_takeFromParent_32 : decode prog_10_method_9_code 32 = .ok (.istore 4, 2) := by decide +kernel
theorem d_Tr_takeFromParent_34 : decode prog_10_method_9_code 34 = .ok (.aload_n 0, 1) := by decide +kernel
theorem d_Tr_takeFromParent_35 : decode prog_10_method_9_code 35 = .ok (.getfield 7, 3) := by decide +kernel
theorem d_Tr_takeFromParent_38 : decode prog_10_method_9_code 38 = .ok (.aload_n 0, 1) := by decide +kernel
theorem d_Tr_takeFromParent_39 : decode prog_10_method_9_code 39 = .ok (.iload_n 1, 1) := by decide +kernel
theorem d_Tr_takeFromParent_40 : decode prog_10_method_9_code 40 = .ok (.iload_n 3, 1) := by decide +kernel
theorem d_Tr_takeFromParent_41 : decode prog_10_method_9_code 41 = .ok (.invokevirtual 36, 3) := by decide +kernel
theorem d_Tr_takeFromParent_44 : decode prog_10_method_9_code 44 = .ok (.iload 4, 2) := by decide +kernel
theorem d_Tr_takeFromParent_46 : decode prog_10_method_9_code 46 = .ok (.invokevirtual 32, 3) := by decide +kernel
theorem d_Tr_takeFromParent_49 : decode prog_10_method_9_code 49 = .ok (.aload_n 0, 1) := by decide +kernel
theorem d_Tr_takeFromParent_50 : decode prog_10_method_9_code 50 = .ok (.getfield 7, 3) := by decide +kernel
theorem d_Tr_takeFromParent_53 : decode prog_10_method_9_code 53 = .ok (.iload_n 2, 1) := by decide +kernel
theorem d_Tr_takeFromParent_54 : decode prog_10_method_9_code 54 = .ok (.iconst 4, 1) := by decide +kernel
theorem d_Tr_takeFromParent_55 : decode prog_10_method_9_code 55 = .ok (.iadd, 1) := by decide +kernel
theorem d_Tr_takeFromParent_56 : decode prog_10_method_9_code 56 = .ok (.iconst 0, 1) := by decide +kernel
theorem d_Tr_takeFromParent_57 : decode prog_10_method_9_code 57 = .ok (.invokevirtual 32, 3) := by decide +kernel
theorem d_Tr_takeFromParent_60 : decode prog_10_method_9_code 60 = .ok (.aload_n 0, 1) := by decide +kernel
theorem d_Tr_takeFromParent_61 : decode prog_10_method_9_code 61 = .ok (.getfield 7, 3) := by decide +kernel
theorem d_Tr_takeFromParent_64 : decode prog_10_method_9_code 64 = .ok (.iload_n 2, 1) := by decide +kernel
theorem d_Tr_takeFromParent_65 : decode prog_10_method_9_code 65 = .ok (.iconst 5, 1) := by decide +kernel
theorem d_Tr_takeFromParent_66 : decode prog_10_method_9_code 66 = .ok (.iadd, 1) := by decide +kernel
theorem d_Tr_takeFromParent_67 : decode prog_10_method_9_code 67 = .ok (.iconst 0, 1) := by decide +kernel
theorem d_Tr_takeFromParent_68 : decode prog_10_method_9_code 68 = .ok (.invokevirtual 32, 3) := by decide +kernel
theorem d_Tr_takeFromParent_71 : decode prog_10_method_9_code 71 = .ok (.return_, 1) := by decide +kernel
theorem d_Tr_linkTo_0 : decode prog_10_method_10_code 0 = .ok (.aload_n 0, 1) := by decide +kernel
theorem d_Tr_linkTo_1 : decode prog_10_method_10_code 1 = .ok (.iload_n 2, 1) := by decide +kernel
theorem d_Tr_linkTo_2 : decode prog_10_method_10_code 2 = .ok (.invokevirtual 22, 3) := by decide +kernel
theorem d_Tr_linkTo_5 : decode prog_10_method_10_code 5 = .ok (.bipush 6, 2) := by decide +kernel
theorem d_Tr_linkTo_7 : decode prog_10_method_10_code 7 = .ok (.iadd, 1) := by decide +kernel
theorem d_Tr_linkTo_8 : decode prog_10_method_10_code 8 = .ok (.istore_n 3, 1) := by decide +kernel
theorem d_Tr_linkTo_9 : decode prog_10_method_10_code 9 = .ok (.iconst 0, 1) := by decide +kernel
theorem d_Tr_linkTo_10 : decode prog_10_method_10_code 10 = .ok (.istore 4, 2) := by decide +kernel
theorem d_Tr_linkTo_12 : decode prog_10_method_10_code 12 = .ok (.iload 4, 2) := by decide +kernel
theorem d_Tr_linkTo_14 : decode prog_10_method_10_code 14 = .ok (.bipush 20, 2) := by decide +kernel
theorem d_Tr_linkTo_16 : decode prog_10_method_10_code 16 = .ok (.if_icmp .ge 36, 3) := by decide +kernel
theorem d_Tr_linkTo_19 : decode prog_10_method_10_code 19 = .ok (.aload_n 0, 1) := by decide +kernel
theorem d_Tr_linkTo_20 : decode prog_10_method_10_code 20 = .ok (.getfield 7, 3) := by decide +kernel
theorem d_Tr_linkTo_23 : decode prog_10_method_10_code 23 = .ok (.iload_n 3, 1) := by decide +kernel
theorem d_Tr_linkTo_24 : decode prog_10_method_10_code 24 = .ok (.invokevirtual 25, 3) := by decide +kernel
theorem d_Tr_linkTo_27 : decode prog_10_method_10_code 27 = .ok (.istore 5, 2) := by decide +kernel
theorem d_Tr_linkTo_29 : decode prog_10_method_10_code 29 = .ok (.iload 5, 2) := by decide +kernel
theorem d_Tr_linkTo_31 : decode prog_10_method_10_code 31 = .ok (.iload_n 1, 1) := by decide +kernel
theorem d_Tr_linkTo_32 : decode prog_10_method_10_code 32 = .ok (.if_icmp .ne 5, 3) := by decide +kernel
theorem d_Tr_linkTo_35 : decode prog_10_method_10_code 35 = .ok (.iload_n 3, 1) := by decide +kernel
theorem d_Tr_linkTo_36 : decode prog_10_method_10_code 36 = .ok (.ireturn, 1) := by decide +kernel
theorem d_Tr_linkTo_37 : decode prog_10_method_10_code 37 = .ok (.aload_n 0, 1) := by decide +kernel
theorem d_Tr_linkTo_38 : decode prog_10_method_10_code 38 = .ok (.iload 5, 2) := by decide +kernel
theorem d_Tr_linkTo_40 : decode prog_10_method_10_code 40 = .ok (.invokevirtual 22, 3) := by decide +kernel
theorem d_Tr_linkTo_43 : decode prog_10_method_10_code 43 = .ok (.iconst 5, 1) := by decide +kernel
theorem d_Tr_linkTo_44 : decode prog_10_method_10_code 44 = .ok (.iadd, 1) := by decide +kernel
theorem d_Tr_linkTo_45 : decode prog_10_method_10_code 45 = .ok (.istore_n 3, 1) := by decide +kernel
theorem d_Tr_linkTo_46 : decode prog_10_method_10_code 46 = .ok (.iinc 4 1, 3) := by decide +kernel
theorem d_Tr_linkTo_49 : decode prog_10_method_10_code 49 = .ok (.goto (-37), 3) := by decide +kernel
theorem d_Tr_linkTo_52 : decode prog_10_method_10_code 52 = .ok (.new 13, 3) := by decide +kernel
theorem d_Tr_linkTo_55 : decode prog_10_method_10_code 55 = .ok (.dup, 1) := by decide +kernel
theorem d_Tr_linkTo_56 : decode prog_10_method_10_code 56 = .ok (.invokespecial 15, 3) := by decide +kernel
theorem d_Tr_linkTo_59 : decode prog_10_method_10_code 59 = .ok (.athrow, 1) := by decide +kernel
theorem d_Tr_putInto_0 : decode prog_10_method_11_code 0 = .ok (.aload_n 0, 1) := by decide +kernel
theorem d_Tr_putInto_1 : decode prog_10_method_11_code 1 = .ok (.iload_n 1, 1) := by decide +kernel
theorem d_Tr_putInto_2 : decode prog_10_method_11_code 2 = .ok (.invokevirtual 22, 3) := by decide +kernel
theorem d_Tr_putInto_5 : decode prog_10_method_11_code 5 = .ok (.istore_n 3, 1) := by decide +kernel
theorem d_Tr_putInto_6 : decode prog_10_method_11_code 6 = .ok (.aload_n 0, 1) := by decide +kernel
theorem d_Tr_putInto_7 : decode prog_10_method_11_code 7 = .ok (.iload_n 2, 1) := by decide +kernel
theorem d_Tr_putInto_8 : decode prog_10_method_11_code 8 = .ok (.invokevirtual 22, 3) := by decide +kernel
theorem d_Tr_putInto_11 : decode prog_10_method_11_code 11 = .ok (.istore 4, 2) := by decide +kernel
theorem d_Tr_putInto_13 : decode prog_10_method_11_code 13 = .ok (.aload_n 0, 1) := by decide +kernel
theorem d_Tr_putInto_14 : decode prog_10_method_11_code 14 = .ok (.iload_n 1, 1) := by decide +kernel
theorem d_Tr_putInto_15 : decode prog_10_method_11_code 15 = .ok (.invokevirtual 39, 3) := by decide +kernel
theorem d_Tr_putInto_18 : decode prog_10_method_11_code 18 = .ok (.aload_n 0, 1) := by decide +kernel
theorem d_Tr_putInto_19 : decode prog_10_method_11_code 19 = .ok (.getfield 7, 3) := by decide +kernel
theorem d_Tr_putInto_22 : decode prog_10_method_11_code 22 = .ok (.iload_n 3, 1) := by decide +kernel
theorem d_Tr_putInto_23 : decode prog_10_method_11_code 23 = .ok (.iconst 4, 1) := by decide +kernel
theorem d_Tr_putInto_24 : decode prog_10_method_11_code 24 = .ok (.iadd, 1) := by decide +kernel
theorem d_Tr_putInto_25 : decode prog_10_method_11_code 25 = .ok (.iload_n 2, 1) := by decide +kernel
theorem d_Tr_putInto_26 : decode prog_10_method_11_code 26 = .ok (.invokevirtual 32, 3) := by decide +kernel
theorem d_Tr_putInto_29 : decode prog_10_method_11_code 29 = .ok (.aload_n 0, 1) := by decide +kernel
theorem d_Tr_putInto_30 : decode prog_10_method_11_code 30 = .ok (.getfield 7, 3) := by decide +kernel
theorem d_Tr_putInto_33 : decode prog_10_method_11_code 33 = .ok (.iload_n 3, 1) := by decide +kernel
theorem d_Tr_putInto_34 : decode prog_10_method_11_code 34 = .ok (.iconst 5, 1) := by decide +kernel
theorem d_Tr_putInto_35 : decode prog_10_method_11_code 35 = .ok (.iadd, 1) := by decide +kernel
theorem d_Tr_putInto_36 : decode prog_10_method_11_code 36 = .ok (.aload_n 0, 1) := by decide +kernel
theorem d_Tr_putInto_37 : decode prog_10_method_11_code 37 = .ok (.getfield 7, 3) := by decide +kernel
theorem d_Tr_putInto_40 : decode prog_10_method_11_code 40 = .ok (.iload 4, 2) := by decide +kernel
theorem d_Tr_putInto_42 : decode prog_10_method_11_code 42 = .ok (.bipush 6, 2) := by decide +kernel
theorem d_Tr_putInto_44 : decode prog_10_method_11_code 44 = .ok (.iadd, 1) := by decide +kernel
theorem d_Tr_putInto_45 : decode prog_10_method_11_code 45 = .ok (.invokevirtual 25, 3) := by decide +kernel
theorem d_Tr_putInto_48 : decode prog_10_method_11_code 48 = .ok (.invokevirtual 32, 3) := by decide +kernel
theorem d_Tr_putInto_51 : decode prog_10_method_11_code 51 = .ok (.aload_n 0, 1) := by decide +kernel
theorem d_Tr_putInto_52 : decode prog_10_method_11_code 52 = .ok (.getfield 7, 3) := by decide +kernel
theorem d_Tr_putInto_55 : decode prog_10_method_11_code 55 = .ok (.iload 4, 2) := by decide +kernel
theorem d_Tr_putInto_57 : decode prog_10_method_11_code 57 = .ok (.bipush 6, 2) := by decide +kernel
theorem d_Tr_putInto_59 : decode prog_10_method_11_code 59 = .ok (.iadd, 1) := by decide +kernel
theorem d_Tr_putInto_60 : decode prog_10_method_11_code 60 = .ok (.iload_n 1, 1) := by decide +kernel
theorem d_Tr_putInto_61 : decode prog_10_method_11_code 61 = .ok (.invokevirtual 32, 3) := by decide +kernel
theorem d_Tr_putInto_64 : decode prog_10_method_11_code 64 = .ok (.return_, 1) := by decide +kernel
theorem d_Tr_namePlace_0 : decode prog_10_method_12_code 0 = .ok (.aload_n 0, 1) := by decide +kernel
theorem d_Tr_namePlace_1 : decode prog_10_method_12_code 1 = .ok (.getfield 7, 3) := by decide +kernel
theorem d_Tr_namePlace_4 : decode prog_10_method_12_code 4 = .ok (.aload_n 0, 1) := by decide +kernel
theorem d_Tr_namePlace_5 : decode prog_10_method_12_code 5 = .ok (.iload_n 1, 1) := by decide +kernel
theorem d_Tr_namePlace_6 : decode prog_10_method_12_code 6 = .ok (.invokevirtual 22, 3) := by decide +kernel
theorem d_Tr_namePlace_9 : decode prog_10_method_12_code 9 = .ok (.bipush 7, 2) := by decide +kernel
theorem d_Tr_namePlace_11 : decode prog_10_method_12_code 11 = .ok (.iadd, 1) := by decide +kernel
theorem d_Tr_namePlace_12 : decode prog_10_method_12_code 12 = .ok (.invokevirtual 18, 3) := by decide +kernel
theorem d_Tr_namePlace_15 : decode prog_10_method_12_code 15 = .ok (.ireturn, 1) := by decide +kernel
theorem d_Tr_properties_0 : decode prog_10_method_13_code 0 = .ok (.aload_n 0, 1) := by decide +kernel
theorem d_Tr_properties_1 : decode prog_10_method_13_code 1 = .ok (.getfield 7, 3) := by decide +kernel
theorem d_Tr_properties_4 : decode prog_10_method_13_code 4 = .ok (.aload_n 0, 1) := by decide +kernel
theorem d_Tr_properties_5 : decode prog_10_method_13_code 5 = .ok (.iload_n 1, 1) := by decide +kernel
theorem d_Tr_properties_6 : decode prog_10_method_13_code 6 = .ok (.invokevirtual 22, 3) := by decide +kernel
theorem d_Tr_properties_9 : decode prog_10_method_13_code 9 = .ok (.bipush 7, 2) := by decide +kernel
theorem d_Tr_properties_11 : decode prog_10_method_13_code 11 = .ok (.iadd, 1) := by decide +kernel
theorem d_Tr_properties_12 : decode prog_10_method_13_code 12 = .ok (.invokevirtual 18, 3) := by decide +kernel
theorem d_Tr_properties_15 : decode prog_10_method_13_code 15 = .ok (.istore_n 2, 1) := by decide +kernel
theorem d_Tr_properties_16 : decode prog_10_method_13_code 16 = .ok (.iload_n 2, 1) := by decide +kernel
theorem d_Tr_properties_17 : decode prog_10_method_13_code 17 = .ok (.iconst 1, 1) := by decide +kernel
theorem d_Tr_properties_18 : decode prog_10_method_13_code 18 = .ok (.iadd, 1) := by decide +kernel
theorem d_Tr_properties_19 : decode prog_10_method_13_code 19 = .ok (.iconst 2, 1) := by decide +kernel
theorem d_Tr_properties_20 : decode prog_10_method_13_code 20 = .ok (.aload_n 0, 1) := by decide +kernel
theorem d_Tr_properties_21 : decode prog_10_method_13_code 21 = .ok (.getfield 7, 3) := by decide +kernel
theorem d_Tr_properties_24 : decode prog_10_method_13_code 24 = .ok (.iload_n 2, 1) := by decide +kernel
theorem d_Tr_properties_25 : decode prog_10_method_13_code 25 = .ok (.invokevirtual 25, 3) := by decide +kernel
theorem d_Tr_properties_28 : decode prog_10_method_13_code 28 = .ok (.imul, 1) := by decide +kernel
theorem d_Tr_properties_29 : decode prog_10_method_13_code 29 = .ok (.iadd, 1) := by decide +kernel
theorem d_Tr_properties_30 : decode prog_10_method_13_code 30 = .ok (.ireturn, 1) := by decide +kernel
theorem d_Tr_propertyPlace_0 : decode prog_10_method_14_code 0 = .ok (.iload_n 1, 1) := by decide +kernel
theorem d_Tr_propertyPlace_1 : decode prog_10_method_14_code 1 = .ok (.istore_n 3, 1) := by decide +kernel
theorem d_Tr_propertyPlace_2 : decode prog_10_method_14_code 2 = .ok (.iconst 0, 1) := by decide +kernel
theorem d_Tr_propertyPlace_3 : decode prog_10_method_14_code 3 = .ok (.istore 4, 2) := by decide +kernel
theorem d_Tr_propertyPlace_5 : decode prog_10_method_14_code 5 = .ok (.iload 4, 2) := by decide +kernel
theorem d_Tr_propertyPlace_7 : decode prog_10_method_14_code 7 = .ok (.sipush 512, 3) := by decide +kernel
theorem d_Tr_propertyPlace_10 : decode prog_10_method_14_code 10 = .ok (.if_icmp .ge 49, 3) := by decide +kernel
theorem d_Tr_propertyPlace_13 : decode prog_10_method_14_code 13 = .ok (.aload_n 0, 1) := by decide +kernel
theorem d_Tr_propertyPlace_14 : decode prog_10_method_14_code 14 = .ok (.getfield 7, 3) := by decide +kernel
theorem d_Tr_propertyPlace_17 : decode prog_10_method_14_code 17 = .ok (.iload_n 3, 1) := by decide +kernel
theorem d_Tr_propertyPlace_18 : decode prog_10_method_14_code 18 = .ok (.invokevirtual 25, 3) := by decide +kernel
theorem d_Tr_propertyPlace_21 : decode prog_10_method_14_code 21 = .ok (.istore 5, 2) := by decide +kernel
theorem d_Tr_propertyPlace_23 : decode prog_10_method_14_code 23 = .ok (.iload 5, 2) := by decide +kernel
theorem d_Tr_propertyPlace_25 : decode prog_10_method_14_code 25 = .ok (.ifCond .ne 5, 3) := by decide +kernel
theorem d_Tr_propertyPlace_28 : decode prog_10_method_14_code 28 = .ok (.iconst 0, 1) := by decide +kernel
theorem d_Tr_propertyPlace_29 : decode prog_10_method_14_code 29 = .ok (.ireturn, 1) := by decide +kernel
theorem d_Tr_propertyPlace_30 : decode prog_10_method_14_code 30 = .ok (.iload 5, 2) := by decide +kernel
theorem d_Tr_propertyPlace_32 : decode prog_10_method_14_code 32 = .ok (.bipush 31, 2) := by decide +kernel
theorem d_Tr_propertyPlace_34 : decode prog_10_method_14_code 34 = .ok (.iand, 1) := by decide +kernel
theorem d_Tr_propertyPlace_35 : decode prog_10_method_14_code 35 = .ok (.iload_n 2, 1) := by decide +kernel
theorem d_Tr_propertyPlace_36 : decode prog_10_method_14_code 36 = .ok (.if_icmp .ne 7, 3) := by decide +kernel
theorem d_Tr_propertyPlace_39 : decode prog_10_method_14_code 39 = .ok (.iload_n 3, 1) := by decide +kernel
theorem d_Tr_propertyPlace_40 : decode prog_10_method_14_code 40 = .ok (.iconst 1, 1) := by decide +kernel
theorem d_Tr_propertyPlace_41 : decode prog_10_method_14_code 41 = .ok (.iadd, 1) := by decide +kernel
theorem d_Tr_propertyPlace_42 : decode prog_10_method_14_code 42 = .ok (.ireturn, 1) := by decide +kernel
theorem d_Tr_propertyPlace_43 : decode prog_10_method_14_code 43 = .ok (.iload_n 3, 1) := by decide +kernel
theorem d_Tr_propertyPlace_44 : decode prog_10_method_14_code 44 = .ok (.iconst 1, 1) := by decide +kernel
theorem d_Tr_propertyPlace_45 : decode prog_10_method_14_code 45 = .ok (.iload 5, 2) := by decide +kernel
theorem d_Tr_propertyPlace_47 : decode prog_10_method_14_code 47 = .ok (.invokestatic 43, 3) := by decide +kernel
theorem d_Tr_propertyPlace_50 : decode prog_10_method_14_code 50 = .ok (.iadd, 1) := by decide +kernel
theorem d_Tr_propertyPlace_51 : decode prog_10_method_14_code 51 = .ok (.iadd, 1) := by decide +kernel
theorem d_Tr_propertyPlace_52 : decode prog_10_method_14_code 52 = .ok (.istore_n 3, 1) := by decide +kernel
theorem d_Tr_propertyPlace_53 : decode prog_10_method_14_code 53 = .ok (.iinc 4 1, 3) := by decide +kernel
theorem d_Tr_propertyPlace_56 : decode prog_10_method_14_code 56 = .ok (.goto (-51), 3) := by decide +kernel
theorem d_Tr_propertyPlace_59 : decode prog_10_method_14_code 59 = .ok (.new 13, 3) := by decide +kernel
theorem d_Tr_propertyPlace_62 : decode prog_10_method_14_code 62 = .ok (.dup, 1) := by decide +kernel
theorem d_Tr_propertyPlace_63 : decode prog_10_method_14_code 63 = .ok (.invokespecial 15, 3) := by decide +kernel
theorem d_Tr_propertyPlace_66 : decode prog_10_method_14_code 66 = .ok (.athrow, 1) := by decide +kernel
theorem d_Tr_lengthIn_0 : decode prog_10_method_15_code 0 = .ok (.iload_n 0, 1) := by decide +kernel
theorem d_Tr_lengthIn_1 : decode prog_10_method_15_code 1 = .ok (.bipush 32, 2) := by decide +kernel
theorem d_Tr_lengthIn_3 : decode prog_10_method_15_code 3 = .ok (.idiv, 1) := by decide +kernel
theorem d_Tr_lengthIn_4 : decode prog_10_method_15_code 4 = .ok (.iconst 1, 1) := by decide +kernel
theorem d_Tr_lengthIn_5 : decode prog_10_method_15_code 5 = .ok (.iadd, 1) := by decide +kernel
theorem d_Tr_lengthIn_6 : decode prog_10_method_15_code 6 = .ok (.ireturn, 1) := by decide +kernel
theorem d_Tr_propertyLength_0 : decode prog_10_method_16_code 0 = .ok (.aload_n 0, 1) := by decide +kernel
theorem d_Tr_propertyLength_1 : decode prog_10_method_16_code 1 = .ok (.getfield 7, 3) := by decide +kernel
theorem d_Tr_propertyLength_4 : decode prog_10_method_16_code 4 = .ok (.iload_n 1, 1) := by decide +kernel
theorem d_Tr_propertyLength_5 : decode prog_10_method_16_code 5 = .ok (.iconst 1, 1) := by decide +kernel
theorem d_Tr_propertyLength_6 : decode prog_10_method_16_code 6 = .ok (.isub, 1) := by decide +kernel
theorem d_Tr_propertyLength_7 : decode prog_10_method_16_code 7 = .ok (.invokevirtual 25, 3) := by decide +kernel
theorem d_Tr_propertyLength_10 : decode prog_10_method_16_code 10 = .ok (.invokestatic 43, 3) := by decide +kernel
theorem d_Tr_propertyLength_13 : decode prog_10_method_16_code 13 = .ok (.ireturn, 1) := by decide +kernel
theorem d_Tr_propertyValue_0 : decode prog_10_method_17_code 0 = .ok (.aload_n 0, 1) := by decide +kernel
theorem d_Tr_propertyValue_1 : decode prog_10_method_17_code 1 = .ok (.iload_n 1, 1) := by decide +kernel
theorem d_Tr_propertyValue_2 : decode prog_10_method_17_code 2 = .ok (.iload_n 2, 1) := by decide +kernel
theorem d_Tr_propertyValue_3 : decode prog_10_method_17_code 3 = .ok (.invokevirtual 46, 3) := by decide +kernel
theorem d_Tr_propertyValue_6 : decode prog_10_method_17_code 6 = .ok (.istore_n 3, 1) := by decide +kernel
theorem d_Tr_propertyValue_7 : decode prog_10_method_17_code 7 = .ok (.iload_n 3, 1) := by decide +kernel
theorem d_Tr_propertyValue_8 : decode prog_10_method_17_code 8 = .ok (.ifCond .ne 9, 3) := by decide +kernel
theorem d_Tr_propertyValue_11 : decode prog_10_method_17_code 11 = .ok (.aload_n 0, 1) := by decide +kernel
theorem d_Tr_propertyValue_12 : decode prog_10_method_17_code 12 = .ok (.iload_n 2, 1) := by decide +kernel
theorem d_Tr_propertyValue_13 : decode prog_10_method_17_code 13 = .ok (.invokevirtual 49, 3) := by decide +kernel
theorem d_Tr_propertyValue_16 : decode prog_10_method_17_code 16 = .ok (.ireturn, 1) := by decide +kernel
theorem d_Tr_propertyValue_17 : decode prog_10_method_17_code 17 = .ok (.aload_n 0, 1) := by decide +kernel
theorem d_Tr_propertyValue_18 : decode prog_10_method_17_code 18 = .ok (.iload_n 3, 1) := by decide +kernel
theorem d_Tr_propertyValue_19 : decode prog_10_method_17_code 19 = .ok (.invokevirtual 52, 3) := by decide +kernel
theorem d_Tr_propertyValue_22 : decode prog_10_method_17_code 22 = .ok (.istore 4, 2) := by decide +kernel
theorem d_Tr_propertyValue_24 : decode prog_10_method_17_code 24 = .ok (.iload 4, 2) := by decide +kernel
theorem d_Tr_propertyValue_26 : decode prog_10_method_17_code 26 = .ok (.iconst 2, 1) := by decide +kernel
theorem d_Tr_propertyValue_27 : decode prog_10_method_17_code 27 = .ok (.if_icmp .le 11, 3) := by decide +kernel
theorem d_Tr_propertyValue_30 : decode prog_10_method_17_code 30 = .ok (.new 13, 3) := by decide +kernel
theorem d_Tr_propertyValue_33 : decode prog_10_method_17_code 33 = .ok (.dup, 1) := by decide +kernel
theorem d_Tr_propertyValue_34 : decode prog_10_method_17_code 34 = .ok (.invokespecial 15, 3) := by decide +kernel
theorem d_Tr_propertyValue_37 : decode prog_10_method_17_code 37 = .ok (.athrow, 1) := by decide +kernel
theorem d_Tr_propertyValue_38 : decode prog_10_method_17_code 38 = .ok (.iload 4, 2) := by decide +kernel
theorem d_Tr_propertyValue_40 : decode prog_10_method_17_code 40 = .ok (.iconst 1, 1) := by decide +kernel
theorem d_Tr_propertyValue_41 : decode prog_10_method_17_code 41 = .ok (.if_icmp .ne 14, 3) := by decide +kernel
theorem d_Tr_propertyValue_44 : decode prog_10_method_17_code 44 = .ok (.aload_n 0, 1) := by decide +kernel
theorem d_Tr_propertyValue_45 : decode prog_10_method_17_code 45 = .ok (.getfield 7, 3) := by decide +kernel
theorem d_Tr_propertyValue_48 : decode prog_10_method_17_code 48 = .ok (.iload_n 3, 1) := by decide +kernel
theorem d_Tr_propertyValue_49 : decode prog_10_method_17_code 49 = .ok (.invokevirtual 25, 3) := by decide +kernel
theorem d_Tr_propertyValue_52 : decode prog_10_method_17_code 52 = .ok (.goto 11, 3) := by decide +kernel
theorem d_Tr_propertyValue_55 : decode prog_10_method_17_code 55 = .ok (.aload_n 0, 1) := by decide +kernel
theorem d_Tr_propertyValue_56 : decode prog_10_method_17_code 56 = .ok (.getfield 7, 3) := by decide +kernel
theorem d_Tr_propertyValue_59 : decode prog_10_method_17_code 59 = .ok (.iload_n 3, 1) := by decide +kernel
theorem d_Tr_propertyValue_60 : decode prog_10_method_17_code 60 = .ok (.invokevirtual 18, 3) := by decide +kernel
theorem d_Tr_propertyValue_63 : decode prog_10_method_17_code 63 = .ok (.ireturn, 1) := by decide +kernel
theorem d_Tr_defaultOf_0 : decode prog_10_method_18_code 0 = .ok (.iload_n 1, 1) := by decide +kernel
theorem d_Tr_defaultOf_1 : decode prog_10_method_18_code 1 = .ok (.iconst 1, 1) := by decide +kernel
theorem d_Tr_defaultOf_2 : decode prog_10_method_18_code 2 = .ok (.if_icmp .lt 9, 3) := by decide +kernel
theorem d_Tr_defaultOf_5 : decode prog_10_method_18_code 5 = .ok (.iload_n 1, 1) := by decide +kernel
theorem d_Tr_defaultOf_6 : decode prog_10_method_18_code 6 = .ok (.bipush 7, 2) := by decide +kernel
theorem d_Tr_defaultOf_8 : decode prog_10_method_18_code 8 = .ok (.if_icmp .le 11, 3) := by decide +kernel
theorem d_Tr_defaultOf_11 : decode prog_10_method_18_code 11 = .ok (.new 13, 3) := by decide +kernel
theorem d_Tr_defaultOf_14 : decode prog_10_method_18_code 14 = .ok (.dup, 1) := by decide +kernel
theorem d_Tr_defaultOf_15 : decode prog_10_method_18_code 15 = .ok (.invokespecial 15, 3) := by decide +kernel
theorem d_Tr_defaultOf_18 : decode prog_10_method_18_code 18 = .ok (.athrow, 1) := by decide +kernel
theorem d_Tr_defaultOf_19 : decode prog_10_method_18_code 19 = .ok (.aload_n 0, 1) := by decide +kernel
theorem d_Tr_defaultOf_20 : decode prog_10_method_18_code 20 = .ok (.getfield 7, 3) := by decide +kernel
theorem d_Tr_defaultOf_23 : decode prog_10_method_18_code 23 = .ok (.aload_n 0, 1) := by decide +kernel
theorem d_Tr_defaultOf_24 : decode prog_10_method_18_code 24 = .ok (.getfield 7, 3) := by decide +kernel
theorem d_Tr_defaultOf_27 : decode prog_10_method_18_code 27 = .ok (.bipush 8, 2) := by decide +kernel
theorem d_Tr_defaultOf_29 : decode prog_10_method_18_code 29 = .ok (.invokevirtual 18, 3) := by decide +kernel
theorem d_Tr_defaultOf_32 : decode prog_10_method_18_code 32 = .ok (.iconst 2, 1) := by decide +kernel
theorem d_Tr_defaultOf_33 : decode prog_10_method_18_code 33 = .ok (.iload_n 1, 1) := by decide +kernel
theorem d_Tr_defaultOf_34 : decode prog_10_method_18_code 34 = .ok (.iconst 1, 1) := by decide +kernel
theorem d_Tr_defaultOf_35 : decode prog_10_method_18_code 35 = .ok (.isub, 1) := by decide +kernel
theorem d_Tr_defaultOf_36 : decode prog_10_method_18_code 36 = .ok (.imul, 1) := by decide +kernel
theorem d_Tr_defaultOf_37 : decode prog_10_method_18_code 37 = .ok (.iadd, 1) := by decide +kernel
theorem d_Tr_defaultOf_38 : decode prog_10_method_18_code 38 = .ok (.invokevirtual 18, 3) := by decide +kernel
theorem d_Tr_defaultOf_41 : decode prog_10_method_18_code 41 = .ok (.ireturn, 1) := by decide +kernel
theorem d_Tr_setProperty_0 : decode prog_10_method_19_code 0 = .ok (.aload_n 0, 1) := by decide +kernel
theorem d_Tr_setProperty_1 : decode prog_10_method_19_code 1 = .ok (.iload_n 1, 1) := by decide +kernel
theorem d_Tr_setProperty_2 : decode prog_10_method_19_code 2 = .ok (.iload_n 2, 1) := by decide +kernel
theorem d_Tr_setProperty_3 : decode prog_10_method_19_code 3 = .ok (.invokevirtual 46, 3) := by decide +kernel
theorem d_Tr_setProperty_6 : decode prog_10_method_19_code 6 = .ok (.istore 4, 2) := by decide +kernel
theorem d_Tr_setProperty_8 : decode prog_10_method_19_code 8 = .ok (.iload 4, 2) := by decide +kernel
theorem d_Tr_setProperty_10 : decode prog_10_method_19_code 10 = .ok (.ifCond .ne 7, 3) := by decide +kernel
theorem d_Tr_setProperty_13 : decode prog_10_method_19_code 13 = .ok (.iconst 0, 1) := by decide +kernel
theorem d_Tr_setProperty_14 : decode prog_10_method_19_code 14 = .ok (.goto 9, 3) := by decide +kernel
theorem d_Tr_setProperty_17 : decode prog_10_method_19_code 17 = .ok (.aload_n 0, 1) := by decide +kernel
theorem d_Tr_setProperty_18 : decode prog_10_method_19_code 18 = .ok (.iload 4, 2) := by decide +kernel
theorem d_Tr_setProperty_20 : decode prog_10_method_19_code 20 = .ok (.invokevirtual 52, 3) := by decide +kernel
theorem d_Tr_setProperty_23 : decode prog_10_method_19_code 23 = .ok (.istore 5, 2) := by decide +kernel
theorem d_Tr_setProperty_25 : decode prog_10_method_19_code 25 = .ok (.iload 5, 2) := by decide +kernel
theorem d_Tr_setProperty_27 : decode prog_10_method_19_code 27 = .ok (.iconst 1, 1) := by decide +kernel
theorem d_Tr_setProperty_28 : decode prog_10_method_19_code 28 = .ok (.if_icmp .ne 16, 3) := by decide +kernel
theorem d_Tr_setProperty_31 : decode prog_10_method_19_code 31 = .ok (.aload_n 0, 1) := by decide +kernel
theorem d_Tr_setProperty_32 : decode prog_10_method_19_code 32 = .ok (.getfield 7, 3) := by decide +kernel
theorem d_Tr_setProperty_35 : decode prog_10_method_19_code 35 = .ok (.iload 4, 2) := by decide +kernel
theorem d_Tr_setProperty_37 : decode prog_10_method_19_code 37 = .ok (.iload_n 3, 1) := by decide +kernel
theorem d_Tr_setProperty_38 : decode prog_10_method_19_code 38 = .ok (.invokevirtual 32, 3) := by decide +kernel
theorem d_Tr_setProperty_41 : decode prog_10_method_19_code 41 = .ok (.goto 30, 3) := by decide +kernel
theorem d_Tr_setProperty_44 : decode prog_10_method_19_code 44 = .ok (.iload 5, 2) := by decide +kernel
theorem d_Tr_setProperty_46 : decode prog_10_method_19_code 46 = .ok (.iconst 2, 1) := by decide +kernel
theorem d_Tr_setProperty_47 : decode prog_10_method_19_code 47 = .ok (.if_icmp .ne 16, 3) := by decide +kernel
theorem d_Tr_setProperty_50 : decode prog_10_method_19_code 50 = .ok (.aload_n 0, 1) := by decide +kernel
theorem d_Tr_setProperty_51 : decode prog_10_method_19_code 51 = .ok (.getfield 7, 3) := by decide +kernel
theorem d_Tr_setProperty_54 : decode prog_10_method_19_code 54 = .ok (.iload 4, 2) := by decide +kernel
theorem d_Tr_setProperty_56 : decode prog_10_method_19_code 56 = .ok (.iload_n 3, 1) := by decide +kernel
theorem d_Tr_setProperty_57 : decode prog_10_method_19_code 57 = .ok (.invokevirtual 55, 3) := by decide +kernel
theorem d_Tr_setProperty_60 : decode prog_10_method_19_code 60 = .ok (.goto 11, 3) := by decide +kernel
theorem d_Tr_setProperty_63 : decode prog_10_method_19_code 63 = .ok (.new 13, 3) := by decide +kernel
theorem d_Tr_setProperty_66 : decode prog_10_method_19_code 66 = .ok (.dup, 1) := by decide +kernel
theorem d_Tr_setProperty_67 : decode prog_10_method_19_code 67 = .ok (.invokespecial 15, 3) := by decide +kernel
theorem d_Tr_setProperty_70 : decode prog_10_method_19_code 70 = .ok (.athrow, 1) := by decide +kernel
theorem d_Tr_setProperty_71 : decode prog_10_method_19_code 71 = .ok (.return_, 1) := by decide +kernel
theorem d_Tr_propertyBehind_0 : decode prog_10_method_20_code 0 = .ok (.iload_n 2, 1) := by decide +kernel
theorem d_Tr_propertyBehind_1 : decode prog_10_method_20_code 1 = .ok (.ifCond .ne 15, 3) := by decide +kernel
theorem d_Tr_propertyBehind_4 : decode prog_10_method_20_code 4 = .ok (.aload_n 0, 1) := by decide +kernel
theorem d_Tr_propertyBehind_5 : decode prog_10_method_20_code 5 = .ok (.getfield 7, 3) := by decide +kernel
theorem d_Tr_propertyBehind_8 : decode prog_10_method_20_code 8 = .ok (.iload_n 1, 1) := by decide +kernel
theorem d_Tr_propertyBehind_9 : decode prog_10_method_20_code 9 = .ok (.invokevirtual 25, 3) := by decide +kernel
theorem d_Tr_propertyBehind_12 : decode prog_10_method_20_code 12 = .ok (.bipush 31, 2) := by decide +kernel
theorem d_Tr_propertyBehind_14 : decode prog_10_method_20_code 14 = .ok (.iand, 1) := by decide +kernel
theorem d_Tr_propertyBehind_15 : decode prog_10_method_20_code 15 = .ok (.ireturn, 1) := by decide +kernel
theorem d_Tr_propertyBehind_16 : decode prog_10_method_20_code 16 = .ok (.aload_n 0, 1) := by decide +kernel
theorem d_Tr_propertyBehind_17 : decode prog_10_method_20_code 17 = .ok (.iload_n 1, 1) := by decide +kernel
theorem d_Tr_propertyBehind_18 : decode prog_10_method_20_code 18 = .ok (.iload_n 2, 1) := by decide +kernel
theorem d_Tr_propertyBehind_19 : decode prog_10_method_20_code 19 = .ok (.invokevirtual 46, 3) := by decide +kernel
theorem d_Tr_propertyBehind_22 : decode prog_10_method_20_code 22 = .ok (.istore_n 3, 1) := by decide +kernel
theorem d_Tr_propertyBehind_23 : decode prog_10_method_20_code 23 = .ok (.iload_n 3, 1) := by decide +kernel
theorem d_Tr_propertyBehind_24 : decode prog_10_method_20_code 24 = .ok (.ifCond .ne 11, 3) := by decide +kernel
theorem d_Tr_propertyBehind_27 : decode prog_10_method_20_code 27 = .ok (.new 13, 3) := by decide +kernel
theorem d_Tr_propertyBehind_30 : decode prog_10_method_20_code 30 = .ok (.dup, 1) := by decide +kernel
theorem d_Tr_propertyBehind_31 : decode prog_10_method_20_code 31 = .ok (.invokespecial 15, 3) := by decide +kernel
theorem d_Tr_propertyBehind_34 : decode prog_10_method_20_code 34 = .ok (.athrow, 1) := by decide +kernel
theorem d_Tr_propertyBehind_35 : decode prog_10_method_20_code 35 = .ok (.aload_n 0, 1) := by decide +kernel
theorem d_Tr_propertyBehind_36 : decode prog_10_method_20_code 36 = .ok (.getfield 7, 3) := by decide +kernel
theorem d_Tr_propertyBehind_39 : decode prog_10_method_20_code 39 = .ok (.iload_n 3, 1) := by decide +kernel
theorem d_Tr_propertyBehind_40 : decode prog_10_method_20_code 40 = .ok (.aload_n 0, 1) := by decide +kernel
theorem d_Tr_propertyBehind_41 : decode prog_10_method_20_code 41 = .ok (.iload_n 3, 1) := by decide +kernel
theorem d_Tr_propertyBehind_42 : decode prog_10_method_20_code 42 = .ok (.invokevirtual 52, 3) := by decide +kernel
theorem d_Tr_propertyBehind_45 : decode prog_10_method_20_code 45 = .ok (.iadd, 1) := by decide +kernel
theorem d_Tr_propertyBehind_46 : decode prog_10_method_20_code 46 = .ok (.invokevirtual 25, 3) := by decide +kernel
theorem d_Tr_propertyBehind_49 : decode prog_10_method_20_code 49 = .ok (.bipush 31, 2) := by decide +kernel
theorem d_Tr_propertyBehind_51 : decode prog_10_method_20_code 51 = .ok (.iand, 1) := by decide +kernel
theorem d_Tr_propertyBehind_52 : decode prog_10_method_20_code 52 = .ok (.ireturn, 1) := by decide +kernel
theorem d_Di_isSeparator_0 : decode prog_3_method_4_code 0 = .ok (.aload_n 0, 1) := by decide +kernel
theorem d_Di_isSeparator_1 : decode prog_3_method_4_code 1 = .ok (.getfield 21, 3) := by decide +kernel
theorem d_Di_isSeparator_4 : decode prog_3_method_4_code 4 = .ok (.bipush 6, 2) := by decide +kernel
theorem d_Di_isSeparator_6 : decode prog_3_method_4_code 6 = .ok (.invokevirtual 39, 3) := by decide +kernel
theorem d_Di_isSeparator_9 : decode prog_3_method_4_code 9 = .ok (.istore_n 2, 1) := by decide +kernel
theorem d_Di_isSeparator_10 : decode prog_3_method_4_code 10 = .ok (.aload_n 0, 1) := by decide +kernel
theorem d_Di_isSeparator_11 : decode prog_3_method_4_code 11 = .ok (.getfield 21, 3) := by decide +kernel
theorem d_Di_isSeparator_14 : decode prog_3_method_4_code 14 = .ok (.iload_n 2, 1) := by decide +kernel
theorem d_Di_isSeparator_15 : decode prog_3_method_4_code 15 = .ok (.invokevirtual 43, 3) := by decide +kernel
theorem d_Di_isSeparator_18 : decode prog_3_method_4_code 18 = .ok (.istore_n 3, 1) := by decide +kernel
theorem d_Di_isSeparator_19 : decode prog_3_method_4_code 19 = .ok (.iconst 1, 1) := by decide +kernel
theorem d_Di_isSeparator_20 : decode prog_3_method_4_code 20 = .ok (.istore 4, 2) := by decide +kernel
theorem d_Di_isSeparator_22 : decode prog_3_method_4_code 22 = .ok (.iload 4, 2) := by decide +kernel
theorem d_Di_isSeparator_24 : decode prog_3_method_4_code 24 = .ok (.iload_n 3, 1) := by decide +kernel
theorem d_Di_isSeparator_25 : decode prog_3_method_4_code 25 = .ok (.if_icmp .gt 26, 3) := by decide +kernel
theorem d_Di_isSeparator_28 : decode prog_3_method_4_code 28 = .ok (.aload_n 0, 1) := by decide +kernel
theorem d_Di_isSeparator_29 : decode prog_3_method_4_code 29 = .ok (.getfield 21, 3) := by decide +kernel
theorem d_Di_isSeparator_32 : decode prog_3_method_4_code 32 = .ok (.iload_n 2, 1) := by decide +kernel
theorem d_Di_isSeparator_33 : decode prog_3_method_4_code 33 = .ok (.iload 4, 2) := by decide +kernel
theorem d_Di_isSeparator_35 : decode prog_3_method_4_code 35 = .ok (.iadd, 1) := by decide +kernel
theorem d_Di_isSeparator_36 : decode prog_3_method_4_code 36 = .ok (.invokevirtual 43, 3) := by decide +kernel
theorem d_Di_isSeparator_39 : decode prog_3_method_4_code 39 = .ok (.iload_n 1, 1) := by decide +kernel
theorem d_Di_isSeparator_40 : decode prog_3_method_4_code 40 = .ok (.if_icmp .ne 5, 3) := by decide +kernel
theorem d_Di_isSeparator_43 : decode prog_3_method_4_code 43 = .ok (.iconst 1, 1) := by decide +kernel
theorem d_Di_isSeparator_44 : decode prog_3_method_4_code 44 = .ok (.ireturn, 1) := by decide +kernel
theorem d_Di_isSeparator_45 : decode prog_3_method_4_code 45 = .ok (.iinc 4 1, 3) := by decide +kernel
theorem d_Di_isSeparator_48 : decode prog_3_method_4_code 48 = .ok (.goto (-26), 3) := by decide +kernel
theorem d_Di_isSeparator_51 : decode prog_3_method_4_code 51 = .ok (.iconst 0, 1) := by decide +kernel
theorem d_Di_isSeparator_52 : decode prog_3_method_4_code 52 = .ok (.ireturn, 1) := by decide +kernel
theorem d_Di_addLetter_0 : decode prog_3_method_8_code 0 = .ok (.aload_n 0, 1) := by decide +kernel
theorem d_Di_addLetter_1 : decode prog_3_method_8_code 1 = .ok (.getfield 57, 3) := by decide +kernel
theorem d_Di_addLetter_4 : decode prog_3_method_8_code 4 = .ok (.bipush 6, 2) := by decide +kernel
theorem d_Di_addLetter_6 : decode prog_3_method_8_code 6 = .ok (.if_icmp .ge 23, 3) := by decide +kernel
theorem d_Di_addLetter_9 : decode prog_3_method_8_code 9 = .ok (.aload_n 0, 1) := by decide +kernel
theorem d_Di_addLetter_10 : decode prog_3_method_8_code 10 = .ok (.getfield 18, 3) := by decide +kernel
theorem d_Di_addLetter_13 : decode prog_3_method_8_code 13 = .ok (.aload_n 0, 1) := by decide +kernel
theorem d_Di_addLetter_14 : decode prog_3_method_8_code 14 = .ok (.getfield 57, 3) := by decide +kernel
theorem d_Di_addLetter_17 : decode prog_3_method_8_code 17 = .ok (.iload_n 1, 1) := by decide +kernel
theorem d_Di_addLetter_18 : decode prog_3_method_8_code 18 = .ok (.iastore, 1) := by decide +kernel
theorem d_Di_addLetter_19 : decode prog_3_method_8_code 19 = .ok (.aload_n 0, 1) := by decide +kernel
theorem d_Di_addLetter_20 : decode prog_3_method_8_code 20 = .ok (.dup, 1) := by decide +kernel
theorem d_Di_addLetter_21 : decode prog_3_method_8_code 21 = .ok (.getfield 57, 3) := by decide +kernel
theorem d_Di_addLetter_24 : decode prog_3_method_8_code 24 = .ok (.iconst 1, 1) := by decide +kernel
theorem d_Di_addLetter_25 : decode prog_3_method_8_code 25 = .ok (.iadd, 1) := by decide +kernel
theorem d_Di_addLetter_26 : decode prog_3_method_8_code 26 = .ok (.putfield 57, 3) := by decide +kernel
theorem d_Di_addLetter_29 : decode prog_3_method_8_code 29 = .ok (.return_, 1) := by decide +kernel
theorem d_Di_packedWord_0 : decode prog_3_method_9_code 0 = .ok (.aload_n 0, 1) := by decide +kernel
theorem d_Di_packedWord_1 : decode prog_3_method_9_code 1 = .ok (.getfield 18, 3) := by decide +kernel
theorem d_Di_packedWord_4 : decode prog_3_method_9_code 4 = .ok (.iload_n 1, 1) := by decide +kernel
theorem d_Di_packedWord_5 : decode prog_3_method_9_code 5 = .ok (.iaload, 1) := by decide +kernel
theorem d_Di_packedWord_6 : decode prog_3_method_9_code 6 = .ok (.bipush 10, 2) := by decide +kernel
theorem d_Di_packedWord_8 : decode prog_3_method_9_code 8 = .ok (.ishl, 1) := by decide +kernel
theorem d_Di_packedWord_9 : decode prog_3_method_9_code 9 = .ok (.aload_n 0, 1) := by decide +kernel
theorem d_Di_packedWord_10 : decode prog_3_method_9_code 10 = .ok (.getfield 18, 3) := by decide +kernel
theorem d_Di_packedWord_13 : decode prog_3_method_9_code 13 = .ok (.iload_n 1, 1) := by decide +kernel
theorem d_Di_packedWord_14 : decode prog_3_method_9_code 14 = .ok (.iconst 1, 1) := by decide +kernel
theorem d_Di_packedWord_15 : decode prog_3_method_9_code 15 = .ok (.iadd, 1) := by decide +kernel
theorem d_Di_packedWord_16 : decode prog_3_method_9_code 16 = .ok (.iaload, 1) := by decide +kernel
theorem d_Di_packedWord_17 : decode prog_3_method_9_code 17 = .ok (.iconst 5, 1) := by decide +kernel
theorem d_Di_packedWord_18 : decode prog_3_method_9_code 18 = .ok (.ishl, 1) := by decide +kernel
theorem d_Di_packedWord_19 : decode prog_3_method_9_code 19 = .ok (.ior, 1) := by decide +kernel
theorem d_Di_packedWord_20 : decode prog_3_method_9_code 20 = .ok (.aload_n 0, 1) := by decide +kernel
theorem d_Di_packedWord_21 : decode prog_3_method_9_code 21 = .ok (.getfield 18, 3) := by decide +kernel
theorem d_Di_packedWord_24 : decode prog_3_method_9_code 24 = .ok (.iload_n 1, 1) := by decide +kernel
theorem d_Di_packedWord_25 : decode prog_3_method_9_code 25 = .ok (.iconst 2, 1) := by decide +kernel
theorem d_Di_packedWord_26 : decode prog_3_method_9_code 26 = .ok (.iadd, 1) := by decide +kernel
theorem d_Di_packedWord_27 : decode prog_3_method_9_code 27 = .ok (.iaload, 1) := by decide +kernel
theorem d_Di_packedWord_28 : decode prog_3_method_9_code 28 = .ok (.ior, 1) := by decide +kernel
theorem d_Di_packedWord_29 : decode prog_3_method_9_code 29 = .ok (.ireturn, 1) := by decide +kernel
theorem d_As_keep_0 : decode prog_2_method_2_code 0 = .ok (.aload_n 0, 1) := by decide +kernel
theorem d_As_keep_1 : decode prog_2_method_2_code 1 = .ok (.getfield 10, 3) := by decide +kernel
theorem d_As_keep_4 : decode prog_2_method_2_code 4 = .ok (.aload_n 1, 1) := by decide +kernel
theorem d_As_keep_5 : decode prog_2_method_2_code 5 = .ok (.invokevirtual 23, 3) := by decide +kernel
theorem d_As_keep_8 : decode prog_2_method_2_code 8 = .ok (.aload_n 0, 1) := by decide +kernel
theorem d_As_keep_9 : decode prog_2_method_2_code 9 = .ok (.getfield 19, 3) := by decide +kernel
theorem d_As_keep_12 : decode prog_2_method_2_code 12 = .ok (.aload_n 2, 1) := by decide +kernel
theorem d_As_keep_13 : decode prog_2_method_2_code 13 = .ok (.invokevirtual 27, 3) := by decide +kernel
theorem d_As_keep_16 : decode prog_2_method_2_code 16 = .ok (.aload_n 0, 1) := by decide +kernel
theorem d_As_keep_17 : decode prog_2_method_2_code 17 = .ok (.iload_n 3, 1) := by decide +kernel
theorem d_As_keep_18 : decode prog_2_method_2_code 18 = .ok (.putfield 30, 3) := by decide +kernel
theorem d_As_keep_21 : decode prog_2_method_2_code 21 = .ok (.aload_n 0, 1) := by decide +kernel
theorem d_As_keep_22 : decode prog_2_method_2_code 22 = .ok (.iconst 1, 1) := by decide +kernel
theorem d_As_keep_23 : decode prog_2_method_2_code 23 = .ok (.putfield 34, 3) := by decide +kernel
theorem d_As_keep_26 : decode prog_2_method_2_code 26 = .ok (.return_, 1) := by decide +kernel
theorem d_As_bringBack_0 : decode prog_2_method_3_code 0 = .ok (.aload_n 1, 1) := by decide +kernel
theorem d_As_bringBack_1 : decode prog_2_method_3_code 1 = .ok (.aload_n 0, 1) := by decide +kernel
theorem d_As_bringBack_2 : decode prog_2_method_3_code 2 = .ok (.getfield 10, 3) := by decide +kernel
theorem d_As_bringBack_5 : decode prog_2_method_3_code 5 = .ok (.invokevirtual 23, 3) := by decide +kernel
theorem d_As_bringBack_8 : decode prog_2_method_3_code 8 = .ok (.aload_n 2, 1) := by decide +kernel
theorem d_As_bringBack_9 : decode prog_2_method_3_code 9 = .ok (.aload_n 0, 1) := by decide +kernel
theorem d_As_bringBack_10 : decode prog_2_method_3_code 10 = .ok (.getfield 19, 3) := by decide +kernel
theorem d_As_bringBack_13 : decode prog_2_method_3_code 13 = .ok (.invokevirtual 27, 3) := by decide +kernel
theorem d_As_bringBack_16 : decode prog_2_method_3_code 16 = .ok (.aload_n 0, 1) := by decide +kernel
theorem d_As_bringBack_17 : decode prog_2_method_3_code 17 = .ok (.getfield 30, 3) := by decide +kernel
theorem d_As_bringBack_20 : decode prog_2_method_3_code 20 = .ok (.ireturn, 1) := by decide +kernel
