/-! Decode rows; written by wip/tools/gen.py. -/
theorem d_Me_byteAt_0 : decode prog_7_method_2_code 0 = .ok (.iload_n 1, 1) := by decide +kernel
theorem d_Me_byteAt_1 : decode prog_7_method_2_code 1 = .ok (.ifCond .lt 10, 3) := by decide +kernel
theorem d_Me_byteAt_4 : decode prog_7_method_2_code 4 = .ok (.iload_n 1, 1) := by decide +kernel
theorem d_Me_byteAt_5 : decode prog_7_method_2_code 5 = .ok (.sipush 512, 3) := by decide +kernel
theorem d_Me_byteAt_8 : decode prog_7_method_2_code 8 = .ok (.if_icmp .lt 11, 3) := by decide +kernel
theorem d_Me_byteAt_11 : decode prog_7_method_2_code 11 = .ok (.new 13, 3) := by decide +kernel
theorem d_Me_byteAt_14 : decode prog_7_method_2_code 14 = .ok (.dup, 1) := by decide +kernel
theorem d_Me_byteAt_15 : decode prog_7_method_2_code 15 = .ok (.invokespecial 15, 3) := by decide +kernel
theorem d_Me_byteAt_18 : decode prog_7_method_2_code 18 = .ok (.athrow, 1) := by decide +kernel
theorem d_Me_byteAt_19 : decode prog_7_method_2_code 19 = .ok (.aload_n 0, 1) := by decide +kernel
theorem d_Me_byteAt_20 : decode prog_7_method_2_code 20 = .ok (.getfield 9, 3) := by decide +kernel
theorem d_Me_byteAt_23 : decode prog_7_method_2_code 23 = .ok (.iload_n 1, 1) := by decide +kernel
theorem d_Me_byteAt_24 : decode prog_7_method_2_code 24 = .ok (.iaload, 1) := by decide +kernel
theorem d_Me_byteAt_25 : decode prog_7_method_2_code 25 = .ok (.ireturn, 1) := by decide +kernel
theorem d_Me_wordAt_0 : decode prog_7_method_3_code 0 = .ok (.iload_n 1, 1) := by decide +kernel
theorem d_Me_wordAt_1 : decode prog_7_method_3_code 1 = .ok (.ifCond .lt 10, 3) := by decide +kernel
theorem d_Me_wordAt_4 : decode prog_7_method_3_code 4 = .ok (.iload_n 1, 1) := by decide +kernel
theorem d_Me_wordAt_5 : decode prog_7_method_3_code 5 = .ok (.sipush 511, 3) := by decide +kernel
theorem d_Me_wordAt_8 : decode prog_7_method_3_code 8 = .ok (.if_icmp .lt 11, 3) := by decide +kernel
theorem d_Me_wordAt_11 : decode prog_7_method_3_code 11 = .ok (.new 13, 3) := by decide +kernel
theorem d_Me_wordAt_14 : decode prog_7_method_3_code 14 = .ok (.dup, 1) := by decide +kernel
theorem d_Me_wordAt_15 : decode prog_7_method_3_code 15 = .ok (.invokespecial 15, 3) := by decide +kernel
theorem d_Me_wordAt_18 : decode prog_7_method_3_code 18 = .ok (.athrow, 1) := by decide +kernel
theorem d_Me_wordAt_19 : decode prog_7_method_3_code 19 = .ok (.sipush 256, 3) := by decide +kernel
theorem d_Me_wordAt_22 : decode prog_7_method_3_code 22 = .ok (.aload_n 0, 1) := by decide +kernel
theorem d_Me_wordAt_23 : decode prog_7_method_3_code 23 = .ok (.getfield 9, 3) := by decide +kernel
theorem d_Me_wordAt_26 : decode prog_7_method_3_code 26 = .ok (.iload_n 1, 1) := by decide +kernel
theorem d_Me_wordAt_27 : decode prog_7_method_3_code 27 = .ok (.iaload, 1) := by decide +kernel
theorem d_Me_wordAt_28 : decode prog_7_method_3_code 28 = .ok (.imul, 1) := by decide +kernel
theorem d_Me_wordAt_29 : decode prog_7_method_3_code 29 = .ok (.aload_n 0, 1) := by decide +kernel
theorem d_Me_wordAt_30 : decode prog_7_method_3_code 30 = .ok (.getfield 9, 3) := by decide +kernel
theorem d_Me_wordAt_33 : decode prog_7_method_3_code 33 = .ok (.iload_n 1, 1) := by decide +kernel
theorem d_Me_wordAt_34 : decode prog_7_method_3_code 34 = .ok (.iconst 1, 1) := by decide +kernel
theorem d_Me_wordAt_35 : decode prog_7_method_3_code 35 = .ok (.iadd, 1) := by decide +kernel
theorem d_Me_wordAt_36 : decode prog_7_method_3_code 36 = .ok (.iaload, 1) := by decide +kernel
theorem d_Me_wordAt_37 : decode prog_7_method_3_code 37 = .ok (.iadd, 1) := by decide +kernel
theorem d_Me_wordAt_38 : decode prog_7_method_3_code 38 = .ok (.ireturn, 1) := by decide +kernel
theorem d_Me_mayWrite_0 : decode prog_7_method_6_code 0 = .ok (.sipush 256, 3) := by decide +kernel
theorem d_Me_mayWrite_3 : decode prog_7_method_6_code 3 = .ok (.aload_n 0, 1) := by decide +kernel
theorem d_Me_mayWrite_4 : decode prog_7_method_6_code 4 = .ok (.getfield 9, 3) := by decide +kernel
theorem d_Me_mayWrite_7 : decode prog_7_method_6_code 7 = .ok (.bipush 12, 2) := by decide +kernel
theorem d_Me_mayWrite_9 : decode prog_7_method_6_code 9 = .ok (.iaload, 1) := by decide +kernel
theorem d_Me_mayWrite_10 : decode prog_7_method_6_code 10 = .ok (.imul, 1) := by decide +kernel
theorem d_Me_mayWrite_11 : decode prog_7_method_6_code 11 = .ok (.aload_n 0, 1) := by decide +kernel
theorem d_Me_mayWrite_12 : decode prog_7_method_6_code 12 = .ok (.getfield 9, 3) := by decide +kernel
theorem d_Me_mayWrite_15 : decode prog_7_method_6_code 15 = .ok (.bipush 13, 2) := by decide +kernel
theorem d_Me_mayWrite_17 : decode prog_7_method_6_code 17 = .ok (.iaload, 1) := by decide +kernel
theorem d_Me_mayWrite_18 : decode prog_7_method_6_code 18 = .ok (.iadd, 1) := by decide +kernel
theorem d_Me_mayWrite_19 : decode prog_7_method_6_code 19 = .ok (.istore_n 3, 1) := by decide +kernel
theorem d_Me_mayWrite_20 : decode prog_7_method_6_code 20 = .ok (.iload_n 1, 1) := by decide +kernel
theorem d_Me_mayWrite_21 : decode prog_7_method_6_code 21 = .ok (.bipush 16, 2) := by decide +kernel
theorem d_Me_mayWrite_23 : decode prog_7_method_6_code 23 = .ok (.if_icmp .lt 23, 3) := by decide +kernel
theorem d_Me_mayWrite_26 : decode prog_7_method_6_code 26 = .ok (.iload_n 1, 1) := by decide +kernel
theorem d_Me_mayWrite_27 : decode prog_7_method_6_code 27 = .ok (.sipush 512, 3) := by decide +kernel
theorem d_Me_mayWrite_30 : decode prog_7_method_6_code 30 = .ok (.iload_n 2, 1) := by decide +kernel
theorem d_Me_mayWrite_31 : decode prog_7_method_6_code 31 = .ok (.isub, 1) := by decide +kernel
theorem d_Me_mayWrite_32 : decode prog_7_method_6_code 32 = .ok (.if_icmp .gt 14, 3) := by decide +kernel
theorem d_Me_mayWrite_35 : decode prog_7_method_6_code 35 = .ok (.iload_n 1, 1) := by decide +kernel
theorem d_Me_mayWrite_36 : decode prog_7_method_6_code 36 = .ok (.iload_n 3, 1) := by decide +kernel
theorem d_Me_mayWrite_37 : decode prog_7_method_6_code 37 = .ok (.iload_n 2, 1) := by decide +kernel
theorem d_Me_mayWrite_38 : decode prog_7_method_6_code 38 = .ok (.isub, 1) := by decide +kernel
theorem d_Me_mayWrite_39 : decode prog_7_method_6_code 39 = .ok (.if_icmp .gt 7, 3) := by decide +kernel
theorem d_Me_mayWrite_42 : decode prog_7_method_6_code 42 = .ok (.iconst 1, 1) := by decide +kernel
theorem d_Me_mayWrite_43 : decode prog_7_method_6_code 43 = .ok (.goto 4, 3) := by decide +kernel
theorem d_Me_mayWrite_46 : decode prog_7_method_6_code 46 = .ok (.iconst 0, 1) := by decide +kernel
theorem d_Me_mayWrite_47 : decode prog_7_method_6_code 47 = .ok (.ireturn, 1) := by decide +kernel
theorem d_Me_writeByte_0 : decode prog_7_method_4_code 0 = .ok (.aload_n 0, 1) := by decide +kernel
theorem d_Me_writeByte_1 : decode prog_7_method_4_code 1 = .ok (.iload_n 1, 1) := by decide +kernel
theorem d_Me_writeByte_2 : decode prog_7_method_4_code 2 = .ok (.iconst 1, 1) := by decide +kernel
theorem d_Me_writeByte_3 : decode prog_7_method_4_code 3 = .ok (.invokevirtual 16, 3) := by decide +kernel
theorem d_Me_writeByte_6 : decode prog_7_method_4_code 6 = .ok (.ifCond .ne 11, 3) := by decide +kernel
theorem d_Me_writeByte_9 : decode prog_7_method_4_code 9 = .ok (.new 13, 3) := by decide +kernel
theorem d_Me_writeByte_12 : decode prog_7_method_4_code 12 = .ok (.dup, 1) := by decide +kernel
theorem d_Me_writeByte_13 : decode prog_7_method_4_code 13 = .ok (.invokespecial 15, 3) := by decide +kernel
theorem d_Me_writeByte_16 : decode prog_7_method_4_code 16 = .ok (.athrow, 1) := by decide +kernel
theorem d_Me_writeByte_17 : decode prog_7_method_4_code 17 = .ok (.aload_n 0, 1) := by decide +kernel
theorem d_Me_writeByte_18 : decode prog_7_method_4_code 18 = .ok (.getfield 9, 3) := by decide +kernel
theorem d_Me_writeByte_21 : decode prog_7_method_4_code 21 = .ok (.iload_n 1, 1) := by decide +kernel
theorem d_Me_writeByte_22 : decode prog_7_method_4_code 22 = .ok (.iload_n 2, 1) := by decide +kernel
theorem d_Me_writeByte_23 : decode prog_7_method_4_code 23 = .ok (.sipush 255, 3) := by decide +kernel
theorem d_Me_writeByte_26 : decode prog_7_method_4_code 26 = .ok (.iand, 1) := by decide +kernel
theorem d_Me_writeByte_27 : decode prog_7_method_4_code 27 = .ok (.iastore, 1) := by decide +kernel
theorem d_Me_writeByte_28 : decode prog_7_method_4_code 28 = .ok (.return_, 1) := by decide +kernel
theorem d_Me_writeWord_0 : decode prog_7_method_5_code 0 = .ok (.aload_n 0, 1) := by decide +kernel
theorem d_Me_writeWord_1 : decode prog_7_method_5_code 1 = .ok (.iload_n 1, 1) := by decide +kernel
theorem d_Me_writeWord_2 : decode prog_7_method_5_code 2 = .ok (.iconst 2, 1) := by decide +kernel
theorem d_Me_writeWord_3 : decode prog_7_method_5_code 3 = .ok (.invokevirtual 16, 3) := by decide +kernel
theorem d_Me_writeWord_6 : decode prog_7_method_5_code 6 = .ok (.ifCond .ne 11, 3) := by decide +kernel
theorem d_Me_writeWord_9 : decode prog_7_method_5_code 9 = .ok (.new 13, 3) := by decide +kernel
theorem d_Me_writeWord_12 : decode prog_7_method_5_code 12 = .ok (.dup, 1) := by decide +kernel
theorem d_Me_writeWord_13 : decode prog_7_method_5_code 13 = .ok (.invokespecial 15, 3) := by decide +kernel
theorem d_Me_writeWord_16 : decode prog_7_method_5_code 16 = .ok (.athrow, 1) := by decide +kernel
theorem d_Me_writeWord_17 : decode prog_7_method_5_code 17 = .ok (.aload_n 0, 1) := by decide +kernel
theorem d_Me_writeWord_18 : decode prog_7_method_5_code 18 = .ok (.getfield 9, 3) := by decide +kernel
theorem d_Me_writeWord_21 : decode prog_7_method_5_code 21 = .ok (.iload_n 1, 1) := by decide +kernel
theorem d_Me_writeWord_22 : decode prog_7_method_5_code 22 = .ok (.iload_n 2, 1) := by decide +kernel
theorem d_Me_writeWord_23 : decode prog_7_method_5_code 23 = .ok (.bipush 8, 2) := by decide +kernel
theorem d_Me_writeWord_25 : decode prog_7_method_5_code 25 = .ok (.ishr, 1) := by decide +kernel
theorem d_Me_writeWord_26 : decode prog_7_method_5_code 26 = .ok (.sipush 255, 3) := by decide +kernel
theorem d_Me_writeWord_29 : decode prog_7_method_5_code 29 = .ok (.iand, 1) := by decide +kernel
theorem d_Me_writeWord_30 : decode prog_7_method_5_code 30 = .ok (.iastore, 1) := by decide +kernel
theorem d_Me_writeWord_31 : decode prog_7_method_5_code 31 = .ok (.aload_n 0, 1) := by decide +kernel
theorem d_Me_writeWord_32 : decode prog_7_method_5_code 32 = .ok (.getfield 9, 3) := by decide +kernel
theorem d_Me_writeWord_35 : decode prog_7_method_5_code 35 = .ok (.iload_n 1, 1) := by decide +kernel
theorem d_Me_writeWord_36 : decode prog_7_method_5_code 36 = .ok (.iconst 1, 1) := by decide +kernel
theorem d_Me_writeWord_37 : decode prog_7_method_5_code 37 = .ok (.iadd, 1) := by decide +kernel
theorem d_Me_writeWord_38 : decode prog_7_method_5_code 38 = .ok (.iload_n 2, 1) := by decide +kernel
theorem d_Me_writeWord_39 : decode prog_7_method_5_code 39 = .ok (.sipush 255, 3) := by decide +kernel
theorem d_Me_writeWord_42 : decode prog_7_method_5_code 42 = .ok (.iand, 1) := by decide +kernel
theorem d_Me_writeWord_43 : decode prog_7_method_5_code 43 = .ok (.iastore, 1) := by decide +kernel
theorem d_Me_writeWord_44 : decode prog_7_method_5_code 44 = .ok (.return_, 1) := by decide +kernel
