/-! Decode rows; written by wip/tools/gen.py. -/
theorem d_Me_init_0 : decode prog_7_method_1_code 0 = .ok (.aload_n 0, 1) := by decide +kernel
theorem d_Me_init_1 : decode prog_7_method_1_code 1 = .ok (.invokespecial 1, 3) := by decide +kernel
theorem d_Me_init_4 : decode prog_7_method_1_code 4 = .ok (.aload_n 0, 1) := by decide +kernel
theorem d_Me_init_5 : decode prog_7_method_1_code 5 = .ok (.sipush 512, 3) := by decide +kernel
theorem d_Me_init_8 : decode prog_7_method_1_code 8 = .ok (.newarray .int, 2) := by decide +kernel
theorem d_Me_init_10 : decode prog_7_method_1_code 10 = .ok (.putfield 9, 3) := by decide +kernel
theorem d_Me_init_13 : decode prog_7_method_1_code 13 = .ok (.return_, 1) := by decide +kernel
theorem d_Li_init_0 : decode prog_6_method_1_code 0 = .ok (.aload_n 0, 1) := by decide +kernel
theorem d_Li_init_1 : decode prog_6_method_1_code 1 = .ok (.invokespecial 1, 3) := by decide +kernel
theorem d_Li_init_4 : decode prog_6_method_1_code 4 = .ok (.aload_n 0, 1) := by decide +kernel
theorem d_Li_init_5 : decode prog_6_method_1_code 5 = .ok (.bipush 24, 2) := by decide +kernel
theorem d_Li_init_7 : decode prog_6_method_1_code 7 = .ok (.newarray .int, 2) := by decide +kernel
theorem d_Li_init_9 : decode prog_6_method_1_code 9 = .ok (.putfield 9, 3) := by decide +kernel
theorem d_Li_init_12 : decode prog_6_method_1_code 12 = .ok (.aload_n 0, 1) := by decide +kernel
theorem d_Li_init_13 : decode prog_6_method_1_code 13 = .ok (.bipush 24, 2) := by decide +kernel
theorem d_Li_init_15 : decode prog_6_method_1_code 15 = .ok (.newarray .int, 2) := by decide +kernel
theorem d_Li_init_17 : decode prog_6_method_1_code 17 = .ok (.putfield 13, 3) := by decide +kernel
theorem d_Li_init_20 : decode prog_6_method_1_code 20 = .ok (.return_, 1) := by decide +kernel
theorem d_Ro_init_0 : decode prog_9_method_1_code 0 = .ok (.aload_n 0, 1) := by decide +kernel
theorem d_Ro_init_1 : decode prog_9_method_1_code 1 = .ok (.invokespecial 1, 3) := by decide +kernel
theorem d_Ro_init_4 : decode prog_9_method_1_code 4 = .ok (.aload_n 0, 1) := by decide +kernel
theorem d_Ro_init_5 : decode prog_9_method_1_code 5 = .ok (.bipush 48, 2) := by decide +kernel
theorem d_Ro_init_7 : decode prog_9_method_1_code 7 = .ok (.newarray .int, 2) := by decide +kernel
theorem d_Ro_init_9 : decode prog_9_method_1_code 9 = .ok (.putfield 9, 3) := by decide +kernel
theorem d_Ro_init_12 : decode prog_9_method_1_code 12 = .ok (.aload_n 0, 1) := by decide +kernel
theorem d_Ro_init_13 : decode prog_9_method_1_code 13 = .ok (.bipush 11, 2) := by decide +kernel
theorem d_Ro_init_15 : decode prog_9_method_1_code 15 = .ok (.newarray .int, 2) := by decide +kernel
theorem d_Ro_init_17 : decode prog_9_method_1_code 17 = .ok (.putfield 13, 3) := by decide +kernel
theorem d_Ro_init_20 : decode prog_9_method_1_code 20 = .ok (.aload_n 0, 1) := by decide +kernel
theorem d_Ro_init_21 : decode prog_9_method_1_code 21 = .ok (.bipush 11, 2) := by decide +kernel
theorem d_Ro_init_23 : decode prog_9_method_1_code 23 = .ok (.newarray .int, 2) := by decide +kernel
theorem d_Ro_init_25 : decode prog_9_method_1_code 25 = .ok (.putfield 16, 3) := by decide +kernel
theorem d_Ro_init_28 : decode prog_9_method_1_code 28 = .ok (.aload_n 0, 1) := by decide +kernel
theorem d_Ro_init_29 : decode prog_9_method_1_code 29 = .ok (.bipush 11, 2) := by decide +kernel
theorem d_Ro_init_31 : decode prog_9_method_1_code 31 = .ok (.newarray .int, 2) := by decide +kernel
theorem d_Ro_init_33 : decode prog_9_method_1_code 33 = .ok (.putfield 19, 3) := by decide +kernel
theorem d_Ro_init_36 : decode prog_9_method_1_code 36 = .ok (.aload_n 0, 1) := by decide +kernel
theorem d_Ro_init_37 : decode prog_9_method_1_code 37 = .ok (.bipush 11, 2) := by decide +kernel
theorem d_Ro_init_39 : decode prog_9_method_1_code 39 = .ok (.newarray .int, 2) := by decide +kernel
theorem d_Ro_init_41 : decode prog_9_method_1_code 41 = .ok (.putfield 22, 3) := by decide +kernel
theorem d_Ro_init_44 : decode prog_9_method_1_code 44 = .ok (.aload_n 0, 1) := by decide +kernel
theorem d_Ro_init_45 : decode prog_9_method_1_code 45 = .ok (.sipush 165, 3) := by decide +kernel
theorem d_Ro_init_48 : decode prog_9_method_1_code 48 = .ok (.newarray .int, 2) := by decide +kernel
theorem d_Ro_init_50 : decode prog_9_method_1_code 50 = .ok (.putfield 25, 3) := by decide +kernel
theorem d_Ro_init_53 : decode prog_9_method_1_code 53 = .ok (.return_, 1) := by decide +kernel
theorem d_Pr_init_0 : decode prog_8_method_1_code 0 = .ok (.aload_n 0, 1) := by decide +kernel
theorem d_Pr_init_1 : decode prog_8_method_1_code 1 = .ok (.invokespecial 1, 3) := by decide +kernel
theorem d_Pr_init_4 : decode prog_8_method_1_code 4 = .ok (.aload_n 0, 1) := by decide +kernel
theorem d_Pr_init_5 : decode prog_8_method_1_code 5 = .ok (.bipush 64, 2) := by decide +kernel
theorem d_Pr_init_7 : decode prog_8_method_1_code 7 = .ok (.newarray .int, 2) := by decide +kernel
theorem d_Pr_init_9 : decode prog_8_method_1_code 9 = .ok (.putfield 9, 3) := by decide +kernel
theorem d_Pr_init_12 : decode prog_8_method_1_code 12 = .ok (.aload_n 0, 1) := by decide +kernel
theorem d_Pr_init_13 : decode prog_8_method_1_code 13 = .ok (.aload_n 1, 1) := by decide +kernel
theorem d_Pr_init_14 : decode prog_8_method_1_code 14 = .ok (.putfield 13, 3) := by decide +kernel
theorem d_Pr_init_17 : decode prog_8_method_1_code 17 = .ok (.return_, 1) := by decide +kernel
theorem d_Va_init_0 : decode prog_11_method_1_code 0 = .ok (.aload_n 0, 1) := by decide +kernel
theorem d_Va_init_1 : decode prog_11_method_1_code 1 = .ok (.invokespecial 1, 3) := by decide +kernel
theorem d_Va_init_4 : decode prog_11_method_1_code 4 = .ok (.aload_n 0, 1) := by decide +kernel
theorem d_Va_init_5 : decode prog_11_method_1_code 5 = .ok (.aload_n 1, 1) := by decide +kernel
theorem d_Va_init_6 : decode prog_11_method_1_code 6 = .ok (.putfield 7, 3) := by decide +kernel
theorem d_Va_init_9 : decode prog_11_method_1_code 9 = .ok (.aload_n 0, 1) := by decide +kernel
theorem d_Va_init_10 : decode prog_11_method_1_code 10 = .ok (.aload_n 2, 1) := by decide +kernel
theorem d_Va_init_11 : decode prog_11_method_1_code 11 = .ok (.putfield 13, 3) := by decide +kernel
theorem d_Va_init_14 : decode prog_11_method_1_code 14 = .ok (.return_, 1) := by decide +kernel
theorem d_Tr_init_0 : decode prog_10_method_1_code 0 = .ok (.aload_n 0, 1) := by decide +kernel
theorem d_Tr_init_1 : decode prog_10_method_1_code 1 = .ok (.invokespecial 1, 3) := by decide +kernel
theorem d_Tr_init_4 : decode prog_10_method_1_code 4 = .ok (.aload_n 0, 1) := by decide +kernel
theorem d_Tr_init_5 : decode prog_10_method_1_code 5 = .ok (.aload_n 1, 1) := by decide +kernel
theorem d_Tr_init_6 : decode prog_10_method_1_code 6 = .ok (.putfield 7, 3) := by decide +kernel
theorem d_Tr_init_9 : decode prog_10_method_1_code 9 = .ok (.return_, 1) := by decide +kernel
theorem d_Di_init_0 : decode prog_3_method_1_code 0 = .ok (.aload_n 0, 1) := by decide +kernel
theorem d_Di_init_1 : decode prog_3_method_1_code 1 = .ok (.invokespecial 1, 3) := by decide +kernel
theorem d_Di_init_4 : decode prog_3_method_1_code 4 = .ok (.aload_n 0, 1) := by decide +kernel
theorem d_Di_init_5 : decode prog_3_method_1_code 5 = .ok (.bipush 24, 2) := by decide +kernel
theorem d_Di_init_7 : decode prog_3_method_1_code 7 = .ok (.newarray .int, 2) := by decide +kernel
theorem d_Di_init_9 : decode prog_3_method_1_code 9 = .ok (.putfield 9, 3) := by decide +kernel
theorem d_Di_init_12 : decode prog_3_method_1_code 12 = .ok (.aload_n 0, 1) := by decide +kernel
theorem d_Di_init_13 : decode prog_3_method_1_code 13 = .ok (.bipush 24, 2) := by decide +kernel
theorem d_Di_init_15 : decode prog_3_method_1_code 15 = .ok (.newarray .int, 2) := by decide +kernel
theorem d_Di_init_17 : decode prog_3_method_1_code 17 = .ok (.putfield 15, 3) := by decide +kernel
theorem d_Di_init_20 : decode prog_3_method_1_code 20 = .ok (.aload_n 0, 1) := by decide +kernel
theorem d_Di_init_21 : decode prog_3_method_1_code 21 = .ok (.bipush 6, 2) := by decide +kernel
theorem d_Di_init_23 : decode prog_3_method_1_code 23 = .ok (.newarray .int, 2) := by decide +kernel
theorem d_Di_init_25 : decode prog_3_method_1_code 25 = .ok (.putfield 18, 3) := by decide +kernel
theorem d_Di_init_28 : decode prog_3_method_1_code 28 = .ok (.aload_n 0, 1) := by decide +kernel
theorem d_Di_init_29 : decode prog_3_method_1_code 29 = .ok (.aload_n 1, 1) := by decide +kernel
theorem d_Di_init_30 : decode prog_3_method_1_code 30 = .ok (.putfield 21, 3) := by decide +kernel
theorem d_Di_init_33 : decode prog_3_method_1_code 33 = .ok (.return_, 1) := by decide +kernel
theorem d_In_init_0 : decode prog_5_method_1_code 0 = .ok (.aload_n 0, 1) := by decide +kernel
theorem d_In_init_1 : decode prog_5_method_1_code 1 = .ok (.invokespecial 1, 3) := by decide +kernel
theorem d_In_init_4 : decode prog_5_method_1_code 4 = .ok (.aload_n 0, 1) := by decide +kernel
theorem d_In_init_5 : decode prog_5_method_1_code 5 = .ok (.iconst 4, 1) := by decide +kernel
theorem d_In_init_6 : decode prog_5_method_1_code 6 = .ok (.newarray .int, 2) := by decide +kernel
theorem d_In_init_8 : decode prog_5_method_1_code 8 = .ok (.putfield 7, 3) := by decide +kernel
theorem d_In_init_11 : decode prog_5_method_1_code 11 = .ok (.aload_n 0, 1) := by decide +kernel
theorem d_In_init_12 : decode prog_5_method_1_code 12 = .ok (.aload_n 1, 1) := by decide +kernel
theorem d_In_init_13 : decode prog_5_method_1_code 13 = .ok (.putfield 13, 3) := by decide +kernel
theorem d_In_init_16 : decode prog_5_method_1_code 16 = .ok (.aload_n 0, 1) := by decide +kernel
theorem d_In_init_17 : decode prog_5_method_1_code 17 = .ok (.aload_n 2, 1) := by decide +kernel
theorem d_In_init_18 : decode prog_5_method_1_code 18 = .ok (.putfield 17, 3) := by decide +kernel
theorem d_In_init_21 : decode prog_5_method_1_code 21 = .ok (.return_, 1) := by decide +kernel
theorem d_As_init_0 : decode prog_2_method_1_code 0 = .ok (.aload_n 0, 1) := by decide +kernel
theorem d_As_init_1 : decode prog_2_method_1_code 1 = .ok (.invokespecial 1, 3) := by decide +kernel
theorem d_As_init_4 : decode prog_2_method_1_code 4 = .ok (.aload_n 0, 1) := by decide +kernel
theorem d_As_init_5 : decode prog_2_method_1_code 5 = .ok (.new 7, 3) := by decide +kernel
theorem d_As_init_8 : decode prog_2_method_1_code 8 = .ok (.dup, 1) := by decide +kernel
theorem d_As_init_9 : decode prog_2_method_1_code 9 = .ok (.invokespecial 9, 3) := by decide +kernel
theorem d_As_init_12 : decode prog_2_method_1_code 12 = .ok (.putfield 10, 3) := by decide +kernel
theorem d_As_init_15 : decode prog_2_method_1_code 15 = .ok (.aload_n 0, 1) := by decide +kernel
theorem d_As_init_16 : decode prog_2_method_1_code 16 = .ok (.new 16, 3) := by decide +kernel
theorem d_As_init_19 : decode prog_2_method_1_code 19 = .ok (.dup, 1) := by decide +kernel
theorem d_As_init_20 : decode prog_2_method_1_code 20 = .ok (.invokespecial 18, 3) := by decide +kernel
theorem d_As_init_23 : decode prog_2_method_1_code 23 = .ok (.putfield 19, 3) := by decide +kernel
theorem d_As_init_26 : decode prog_2_method_1_code 26 = .ok (.return_, 1) := by decide +kernel
theorem d_En_init_0 : decode prog_4_method_1_code 0 = .ok (.aload_n 0, 1) := by decide +kernel
theorem d_En_init_1 : decode prog_4_method_1_code 1 = .ok (.invokespecial 1, 3) := by decide +kernel
theorem d_En_init_4 : decode prog_4_method_1_code 4 = .ok (.aload_n 0, 1) := by decide +kernel
theorem d_En_init_5 : decode prog_4_method_1_code 5 = .ok (.new 7, 3) := by decide +kernel
theorem d_En_init_8 : decode prog_4_method_1_code 8 = .ok (.dup, 1) := by decide +kernel
theorem d_En_init_9 : decode prog_4_method_1_code 9 = .ok (.invokespecial 9, 3) := by decide +kernel
theorem d_En_init_12 : decode prog_4_method_1_code 12 = .ok (.putfield 10, 3) := by decide +kernel
theorem d_En_init_15 : decode prog_4_method_1_code 15 = .ok (.aload_n 0, 1) := by decide +kernel
theorem d_En_init_16 : decode prog_4_method_1_code 16 = .ok (.bipush 15, 2) := by decide +kernel
theorem d_En_init_18 : decode prog_4_method_1_code 18 = .ok (.newarray .int, 2) := by decide +kernel
theorem d_En_init_20 : decode prog_4_method_1_code 20 = .ok (.putfield 18, 3) := by decide +kernel
theorem d_En_init_23 : decode prog_4_method_1_code 23 = .ok (.aload_n 0, 1) := by decide +kernel
theorem d_En_init_24 : decode prog_4_method_1_code 24 = .ok (.iconst (-1), 1) := by decide +kernel
theorem d_En_init_25 : decode prog_4_method_1_code 25 = .ok (.putfield 22, 3) := by decide +kernel
theorem d_En_init_28 : decode prog_4_method_1_code 28 = .ok (.new 26, 3) := by decide +kernel
theorem d_En_init_31 : decode prog_4_method_1_code 31 = .ok (.dup, 1) := by decide +kernel
theorem d_En_init_32 : decode prog_4_method_1_code 32 = .ok (.aload_n 1, 1) := by decide +kernel
theorem d_En_init_33 : decode prog_4_method_1_code 33 = .ok (.aload_n 3, 1) := by decide +kernel
theorem d_En_init_34 : decode prog_4_method_1_code 34 = .ok (.invokespecial 28, 3) := by decide +kernel
theorem d_En_init_37 : decode prog_4_method_1_code 37 = .ok (.astore 5, 2) := by decide +kernel
theorem d_En_init_39 : decode prog_4_method_1_code 39 = .ok (.aload_n 0, 1) := by decide +kernel
theorem d_En_init_40 : decode prog_4_method_1_code 40 = .ok (.aload_n 1, 1) := by decide +kernel
theorem d_En_init_41 : decode prog_4_method_1_code 41 = .ok (.putfield 31, 3) := by decide +kernel
theorem d_En_init_44 : decode prog_4_method_1_code 44 = .ok (.aload_n 0, 1) := by decide +kernel
theorem d_En_init_45 : decode prog_4_method_1_code 45 = .ok (.aload_n 2, 1) := by decide +kernel
theorem d_En_init_46 : decode prog_4_method_1_code 46 = .ok (.putfield 35, 3) := by decide +kernel
theorem d_En_init_49 : decode prog_4_method_1_code 49 = .ok (.aload_n 0, 1) := by decide +kernel
theorem d_En_init_50 : decode prog_4_method_1_code 50 = .ok (.aload_n 3, 1) := by decide +kernel
theorem d_En_init_51 : decode prog_4_method_1_code 51 = .ok (.putfield 39, 3) := by decide +kernel
theorem d_En_init_54 : decode prog_4_method_1_code 54 = .ok (.aload_n 0, 1) := by decide +kernel
theorem d_En_init_55 : decode prog_4_method_1_code 55 = .ok (.aload 4, 2) := by decide +kernel
theorem d_En_init_57 : decode prog_4_method_1_code 57 = .ok (.putfield 43, 3) := by decide +kernel
theorem d_En_init_60 : decode prog_4_method_1_code 60 = .ok (.aload_n 0, 1) := by decide +kernel
theorem d_En_init_61 : decode prog_4_method_1_code 61 = .ok (.aload 5, 2) := by decide +kernel
theorem d_En_init_63 : decode prog_4_method_1_code 63 = .ok (.putfield 47, 3) := by decide +kernel
theorem d_En_init_66 : decode prog_4_method_1_code 66 = .ok (.aload_n 0, 1) := by decide +kernel
theorem d_En_init_67 : decode prog_4_method_1_code 67 = .ok (.new 51, 3) := by decide +kernel
theorem d_En_init_70 : decode prog_4_method_1_code 70 = .ok (.dup, 1) := by decide +kernel
theorem d_En_init_71 : decode prog_4_method_1_code 71 = .ok (.aload_n 1, 1) := by decide +kernel
theorem d_En_init_72 : decode prog_4_method_1_code 72 = .ok (.invokespecial 53, 3) := by decide +kernel
theorem d_En_init_75 : decode prog_4_method_1_code 75 = .ok (.putfield 56, 3) := by decide +kernel
theorem d_En_init_78 : decode prog_4_method_1_code 78 = .ok (.aload_n 0, 1) := by decide +kernel
theorem d_En_init_79 : decode prog_4_method_1_code 79 = .ok (.new 60, 3) := by decide +kernel
theorem d_En_init_82 : decode prog_4_method_1_code 82 = .ok (.dup, 1) := by decide +kernel
theorem d_En_init_83 : decode prog_4_method_1_code 83 = .ok (.aload_n 1, 1) := by decide +kernel
theorem d_En_init_84 : decode prog_4_method_1_code 84 = .ok (.invokespecial 62, 3) := by decide +kernel
theorem d_En_init_87 : decode prog_4_method_1_code 87 = .ok (.putfield 63, 3) := by decide +kernel
theorem d_En_init_90 : decode prog_4_method_1_code 90 = .ok (.aload_n 0, 1) := by decide +kernel
theorem d_En_init_91 : decode prog_4_method_1_code 91 = .ok (.new 67, 3) := by decide +kernel
theorem d_En_init_94 : decode prog_4_method_1_code 94 = .ok (.dup, 1) := by decide +kernel
theorem d_En_init_95 : decode prog_4_method_1_code 95 = .ok (.aload_n 1, 1) := by decide +kernel
theorem d_En_init_96 : decode prog_4_method_1_code 96 = .ok (.aload 5, 2) := by decide +kernel
theorem d_En_init_98 : decode prog_4_method_1_code 98 = .ok (.invokespecial 69, 3) := by decide +kernel
theorem d_En_init_101 : decode prog_4_method_1_code 101 = .ok (.putfield 72, 3) := by decide +kernel
theorem d_En_init_104 : decode prog_4_method_1_code 104 = .ok (.return_, 1) := by decide +kernel
theorem d_SM_init_0 : decode prog_1_method_1_code 0 = .ok (.aload_n 0, 1) := by decide +kernel
theorem d_SM_init_1 : decode prog_1_method_1_code 1 = .ok (.invokespecial 1, 3) := by decide +kernel
theorem d_SM_init_4 : decode prog_1_method_1_code 4 = .ok (.new 7, 3) := by decide +kernel
theorem d_SM_init_7 : decode prog_1_method_1_code 7 = .ok (.dup, 1) := by decide +kernel
theorem d_SM_init_8 : decode prog_1_method_1_code 8 = .ok (.invokespecial 9, 3) := by decide +kernel
theorem d_SM_init_11 : decode prog_1_method_1_code 11 = .ok (.astore_n 1, 1) := by decide +kernel
theorem d_SM_init_12 : decode prog_1_method_1_code 12 = .ok (.new 10, 3) := by decide +kernel
theorem d_SM_init_15 : decode prog_1_method_1_code 15 = .ok (.dup, 1) := by decide +kernel
theorem d_SM_init_16 : decode prog_1_method_1_code 16 = .ok (.invokespecial 12, 3) := by decide +kernel
theorem d_SM_init_19 : decode prog_1_method_1_code 19 = .ok (.astore_n 2, 1) := by decide +kernel
theorem d_SM_init_20 : decode prog_1_method_1_code 20 = .ok (.new 13, 3) := by decide +kernel
theorem d_SM_init_23 : decode prog_1_method_1_code 23 = .ok (.dup, 1) := by decide +kernel
theorem d_SM_init_24 : decode prog_1_method_1_code 24 = .ok (.invokespecial 15, 3) := by decide +kernel
theorem d_SM_init_27 : decode prog_1_method_1_code 27 = .ok (.astore_n 3, 1) := by decide +kernel
theorem d_SM_init_28 : decode prog_1_method_1_code 28 = .ok (.new 16, 3) := by decide +kernel
theorem d_SM_init_31 : decode prog_1_method_1_code 31 = .ok (.dup, 1) := by decide +kernel
theorem d_SM_init_32 : decode prog_1_method_1_code 32 = .ok (.aload_n 1, 1) := by decide +kernel
theorem d_SM_init_33 : decode prog_1_method_1_code 33 = .ok (.invokespecial 18, 3) := by decide +kernel
theorem d_SM_init_36 : decode prog_1_method_1_code 36 = .ok (.astore 4, 2) := by decide +kernel
theorem d_SM_init_38 : decode prog_1_method_1_code 38 = .ok (.aload_n 0, 1) := by decide +kernel
theorem d_SM_init_39 : decode prog_1_method_1_code 39 = .ok (.aload_n 1, 1) := by decide +kernel
theorem d_SM_init_40 : decode prog_1_method_1_code 40 = .ok (.putfield 21, 3) := by decide +kernel
theorem d_SM_init_43 : decode prog_1_method_1_code 43 = .ok (.aload_n 0, 1) := by decide +kernel
theorem d_SM_init_44 : decode prog_1_method_1_code 44 = .ok (.aload_n 2, 1) := by decide +kernel
theorem d_SM_init_45 : decode prog_1_method_1_code 45 = .ok (.putfield 27, 3) := by decide +kernel
theorem d_SM_init_48 : decode prog_1_method_1_code 48 = .ok (.aload_n 0, 1) := by decide +kernel
theorem d_SM_init_49 : decode prog_1_method_1_code 49 = .ok (.aload_n 3, 1) := by decide +kernel
theorem d_SM_init_50 : decode prog_1_method_1_code 50 = .ok (.putfield 31, 3) := by decide +kernel
theorem d_SM_init_53 : decode prog_1_method_1_code 53 = .ok (.aload_n 0, 1) := by decide +kernel
theorem d_SM_init_54 : decode prog_1_method_1_code 54 = .ok (.aload 4, 2) := by decide +kernel
theorem d_SM_init_56 : decode prog_1_method_1_code 56 = .ok (.putfield 35, 3) := by decide +kernel
theorem d_SM_init_59 : decode prog_1_method_1_code 59 = .ok (.aload_n 0, 1) := by decide +kernel
theorem d_SM_init_60 : decode prog_1_method_1_code 60 = .ok (.new 39, 3) := by decide +kernel
theorem d_SM_init_63 : decode prog_1_method_1_code 63 = .ok (.dup, 1) := by decide +kernel
theorem d_SM_init_64 : decode prog_1_method_1_code 64 = .ok (.aload_n 1, 1) := by decide +kernel
theorem d_SM_init_65 : decode prog_1_method_1_code 65 = .ok (.aload_n 2, 1) := by decide +kernel
theorem d_SM_init_66 : decode prog_1_method_1_code 66 = .ok (.aload_n 3, 1) := by decide +kernel
theorem d_SM_init_67 : decode prog_1_method_1_code 67 = .ok (.aload 4, 2) := by decide +kernel
theorem d_SM_init_69 : decode prog_1_method_1_code 69 = .ok (.invokespecial 41, 3) := by decide +kernel
theorem d_SM_init_72 : decode prog_1_method_1_code 72 = .ok (.putfield 44, 3) := by decide +kernel
theorem d_SM_init_75 : decode prog_1_method_1_code 75 = .ok (.return_, 1) := by decide +kernel
theorem d_Mo_init_0 : decode prog_13_method_1_code 0 = .ok (.aload_n 0, 1) := by decide +kernel
theorem d_Mo_init_1 : decode prog_13_method_1_code 1 = .ok (.invokespecial 1, 3) := by decide +kernel
theorem d_Mo_init_4 : decode prog_13_method_1_code 4 = .ok (.aload_n 0, 1) := by decide +kernel
theorem d_Mo_init_5 : decode prog_13_method_1_code 5 = .ok (.sipush 512, 3) := by decide +kernel
theorem d_Mo_init_8 : decode prog_13_method_1_code 8 = .ok (.newarray .int, 2) := by decide +kernel
theorem d_Mo_init_10 : decode prog_13_method_1_code 10 = .ok (.putfield 7, 3) := by decide +kernel
theorem d_Mo_init_13 : decode prog_13_method_1_code 13 = .ok (.aload_n 0, 1) := by decide +kernel
theorem d_Mo_init_14 : decode prog_13_method_1_code 14 = .ok (.bipush 48, 2) := by decide +kernel
theorem d_Mo_init_16 : decode prog_13_method_1_code 16 = .ok (.newarray .int, 2) := by decide +kernel
theorem d_Mo_init_18 : decode prog_13_method_1_code 18 = .ok (.putfield 13, 3) := by decide +kernel
theorem d_Mo_init_21 : decode prog_13_method_1_code 21 = .ok (.aload_n 0, 1) := by decide +kernel
theorem d_Mo_init_22 : decode prog_13_method_1_code 22 = .ok (.bipush 11, 2) := by decide +kernel
theorem d_Mo_init_24 : decode prog_13_method_1_code 24 = .ok (.newarray .int, 2) := by decide +kernel
theorem d_Mo_init_26 : decode prog_13_method_1_code 26 = .ok (.putfield 16, 3) := by decide +kernel
theorem d_Mo_init_29 : decode prog_13_method_1_code 29 = .ok (.aload_n 0, 1) := by decide +kernel
theorem d_Mo_init_30 : decode prog_13_method_1_code 30 = .ok (.bipush 11, 2) := by decide +kernel
theorem d_Mo_init_32 : decode prog_13_method_1_code 32 = .ok (.newarray .int, 2) := by decide +kernel
theorem d_Mo_init_34 : decode prog_13_method_1_code 34 = .ok (.putfield 19, 3) := by decide +kernel
theorem d_Mo_init_37 : decode prog_13_method_1_code 37 = .ok (.aload_n 0, 1) := by decide +kernel
theorem d_Mo_init_38 : decode prog_13_method_1_code 38 = .ok (.bipush 11, 2) := by decide +kernel
theorem d_Mo_init_40 : decode prog_13_method_1_code 40 = .ok (.newarray .int, 2) := by decide +kernel
theorem d_Mo_init_42 : decode prog_13_method_1_code 42 = .ok (.putfield 22, 3) := by decide +kernel
theorem d_Mo_init_45 : decode prog_13_method_1_code 45 = .ok (.aload_n 0, 1) := by decide +kernel
theorem d_Mo_init_46 : decode prog_13_method_1_code 46 = .ok (.bipush 11, 2) := by decide +kernel
theorem d_Mo_init_48 : decode prog_13_method_1_code 48 = .ok (.newarray .int, 2) := by decide +kernel
theorem d_Mo_init_50 : decode prog_13_method_1_code 50 = .ok (.putfield 25, 3) := by decide +kernel
theorem d_Mo_init_53 : decode prog_13_method_1_code 53 = .ok (.aload_n 0, 1) := by decide +kernel
theorem d_Mo_init_54 : decode prog_13_method_1_code 54 = .ok (.sipush 165, 3) := by decide +kernel
theorem d_Mo_init_57 : decode prog_13_method_1_code 57 = .ok (.newarray .int, 2) := by decide +kernel
theorem d_Mo_init_59 : decode prog_13_method_1_code 59 = .ok (.putfield 28, 3) := by decide +kernel
theorem d_Mo_init_62 : decode prog_13_method_1_code 62 = .ok (.aload_n 0, 1) := by decide +kernel
theorem d_Mo_init_63 : decode prog_13_method_1_code 63 = .ok (.sipush 512, 3) := by decide +kernel
theorem d_Mo_init_66 : decode prog_13_method_1_code 66 = .ok (.newarray .int, 2) := by decide +kernel
theorem d_Mo_init_68 : decode prog_13_method_1_code 68 = .ok (.putfield 31, 3) := by decide +kernel
theorem d_Mo_init_71 : decode prog_13_method_1_code 71 = .ok (.aload_n 0, 1) := by decide +kernel
theorem d_Mo_init_72 : decode prog_13_method_1_code 72 = .ok (.bipush 48, 2) := by decide +kernel
theorem d_Mo_init_74 : decode prog_13_method_1_code 74 = .ok (.newarray .int, 2) := by decide +kernel
theorem d_Mo_init_76 : decode prog_13_method_1_code 76 = .ok (.putfield 34, 3) := by decide +kernel
theorem d_Mo_init_79 : decode prog_13_method_1_code 79 = .ok (.aload_n 0, 1) := by decide +kernel
theorem d_Mo_init_80 : decode prog_13_method_1_code 80 = .ok (.bipush 11, 2) := by decide +kernel
theorem d_Mo_init_82 : decode prog_13_method_1_code 82 = .ok (.newarray .int, 2) := by decide +kernel
theorem d_Mo_init_84 : decode prog_13_method_1_code 84 = .ok (.putfield 37, 3) := by decide +kernel
theorem d_Mo_init_87 : decode prog_13_method_1_code 87 = .ok (.aload_n 0, 1) := by decide +kernel
theorem d_Mo_init_88 : decode prog_13_method_1_code 88 = .ok (.bipush 11, 2) := by decide +kernel
theorem d_Mo_init_90 : decode prog_13_method_1_code 90 = .ok (.newarray .int, 2) := by decide +kernel
theorem d_Mo_init_92 : decode prog_13_method_1_code 92 = .ok (.putfield 40, 3) := by decide +kernel
theorem d_Mo_init_95 : decode prog_13_method_1_code 95 = .ok (.aload_n 0, 1) := by decide +kernel
theorem d_Mo_init_96 : decode prog_13_method_1_code 96 = .ok (.bipush 11, 2) := by decide +kernel
theorem d_Mo_init_98 : decode prog_13_method_1_code 98 = .ok (.newarray .int, 2) := by decide +kernel
theorem d_Mo_init_100 : decode prog_13_method_1_code 100 = .ok (.putfield 43, 3) := by decide +kernel
theorem d_Mo_init_103 : decode prog_13_method_1_code 103 = .ok (.aload_n 0, 1) := by decide +kernel
theorem d_Mo_init_104 : decode prog_13_method_1_code 104 = .ok (.bipush 11, 2) := by decide +kernel
theorem d_Mo_init_106 : decode prog_13_method_1_code 106 = .ok (.newarray .int, 2) := by decide +kernel
theorem d_Mo_init_108 : decode prog_13_method_1_code 108 = .ok (.putfield 46, 3) := by decide +kernel
theorem d_Mo_init_111 : decode prog_13_method_1_code 111 = .ok (.aload_n 0, 1) := by decide +kernel
theorem d_Mo_init_112 : decode prog_13_method_1_code 112 = .ok (.sipush 165, 3) := by decide +kernel
theorem d_Mo_init_115 : decode prog_13_method_1_code 115 = .ok (.newarray .int, 2) := by decide +kernel
theorem d_Mo_init_117 : decode prog_13_method_1_code 117 = .ok (.putfield 49, 3) := by decide +kernel
theorem d_Mo_init_120 : decode prog_13_method_1_code 120 = .ok (.aload_n 0, 1) := by decide +kernel
theorem d_Mo_init_121 : decode prog_13_method_1_code 121 = .ok (.bipush 64, 2) := by decide +kernel
theorem d_Mo_init_123 : decode prog_13_method_1_code 123 = .ok (.newarray .int, 2) := by decide +kernel
theorem d_Mo_init_125 : decode prog_13_method_1_code 125 = .ok (.putfield 52, 3) := by decide +kernel
theorem d_Mo_init_128 : decode prog_13_method_1_code 128 = .ok (.aload_n 0, 1) := by decide +kernel
theorem d_Mo_init_129 : decode prog_13_method_1_code 129 = .ok (.bipush 24, 2) := by decide +kernel
theorem d_Mo_init_131 : decode prog_13_method_1_code 131 = .ok (.newarray .int, 2) := by decide +kernel
theorem d_Mo_init_133 : decode prog_13_method_1_code 133 = .ok (.putfield 55, 3) := by decide +kernel
theorem d_Mo_init_136 : decode prog_13_method_1_code 136 = .ok (.aload_n 0, 1) := by decide +kernel
theorem d_Mo_init_137 : decode prog_13_method_1_code 137 = .ok (.bipush 24, 2) := by decide +kernel
theorem d_Mo_init_139 : decode prog_13_method_1_code 139 = .ok (.newarray .int, 2) := by decide +kernel
theorem d_Mo_init_141 : decode prog_13_method_1_code 141 = .ok (.putfield 58, 3) := by decide +kernel
theorem d_Mo_init_144 : decode prog_13_method_1_code 144 = .ok (.aload_n 0, 1) := by decide +kernel
theorem d_Mo_init_145 : decode prog_13_method_1_code 145 = .ok (.iconst 4, 1) := by decide +kernel
theorem d_Mo_init_146 : decode prog_13_method_1_code 146 = .ok (.newarray .int, 2) := by decide +kernel
theorem d_Mo_init_148 : decode prog_13_method_1_code 148 = .ok (.putfield 61, 3) := by decide +kernel
theorem d_Mo_init_151 : decode prog_13_method_1_code 151 = .ok (.aload_n 0, 1) := by decide +kernel
theorem d_Mo_init_152 : decode prog_13_method_1_code 152 = .ok (.bipush 6, 2) := by decide +kernel
theorem d_Mo_init_154 : decode prog_13_method_1_code 154 = .ok (.newarray .int, 2) := by decide +kernel
theorem d_Mo_init_156 : decode prog_13_method_1_code 156 = .ok (.putfield 64, 3) := by decide +kernel
theorem d_Mo_init_159 : decode prog_13_method_1_code 159 = .ok (.aload_n 0, 1) := by decide +kernel
theorem d_Mo_init_160 : decode prog_13_method_1_code 160 = .ok (.bipush 24, 2) := by decide +kernel
theorem d_Mo_init_162 : decode prog_13_method_1_code 162 = .ok (.newarray .int, 2) := by decide +kernel
theorem d_Mo_init_164 : decode prog_13_method_1_code 164 = .ok (.putfield 67, 3) := by decide +kernel
theorem d_Mo_init_167 : decode prog_13_method_1_code 167 = .ok (.aload_n 0, 1) := by decide +kernel
theorem d_Mo_init_168 : decode prog_13_method_1_code 168 = .ok (.bipush 24, 2) := by decide +kernel
theorem d_Mo_init_170 : decode prog_13_method_1_code 170 = .ok (.newarray .int, 2) := by decide +kernel
theorem d_Mo_init_172 : decode prog_13_method_1_code 172 = .ok (.putfield 70, 3) := by decide +kernel
theorem d_Mo_init_175 : decode prog_13_method_1_code 175 = .ok (.return_, 1) := by decide +kernel
theorem d_SM_packed_0 : decode prog_1_method_14_code 0 = .ok (.lload_n 0, 1) := by decide +kernel
theorem d_SM_packed_1 : decode prog_1_method_14_code 1 = .ok (.bipush 8, 2) := by decide +kernel
theorem d_SM_packed_3 : decode prog_1_method_14_code 3 = .ok (.iload_n 2, 1) := by decide +kernel
theorem d_SM_packed_4 : decode prog_1_method_14_code 4 = .ok (.iconst 1, 1) := by decide +kernel
theorem d_SM_packed_5 : decode prog_1_method_14_code 5 = .ok (.isub, 1) := by decide +kernel
theorem d_SM_packed_6 : decode prog_1_method_14_code 6 = .ok (.iload_n 3, 1) := by decide +kernel
theorem d_SM_packed_7 : decode prog_1_method_14_code 7 = .ok (.isub, 1) := by decide +kernel
theorem d_SM_packed_8 : decode prog_1_method_14_code 8 = .ok (.imul, 1) := by decide +kernel
theorem d_SM_packed_9 : decode prog_1_method_14_code 9 = .ok (.lshr, 1) := by decide +kernel
theorem d_SM_packed_10 : decode prog_1_method_14_code 10 = .ok (.l2i, 1) := by decide +kernel
theorem d_SM_packed_11 : decode prog_1_method_14_code 11 = .ok (.sipush 255, 3) := by decide +kernel
theorem d_SM_packed_14 : decode prog_1_method_14_code 14 = .ok (.iand, 1) := by decide +kernel
theorem d_SM_packed_15 : decode prog_1_method_14_code 15 = .ok (.ireturn, 1) := by decide +kernel
theorem d_SM_poke_0 : decode prog_1_method_2_code 0 = .ok (.iload 4, 2) := by decide +kernel
theorem d_SM_poke_2 : decode prog_1_method_2_code 2 = .ok (.iconst 1, 1) := by decide +kernel
theorem d_SM_poke_3 : decode prog_1_method_2_code 3 = .ok (.if_icmp .lt 24, 3) := by decide +kernel
theorem d_SM_poke_6 : decode prog_1_method_2_code 6 = .ok (.iload 4, 2) := by decide +kernel
theorem d_SM_poke_8 : decode prog_1_method_2_code 8 = .ok (.bipush 8, 2) := by decide +kernel
theorem d_SM_poke_10 : decode prog_1_method_2_code 10 = .ok (.if_icmp .gt 17, 3) := by decide +kernel
theorem d_SM_poke_13 : decode prog_1_method_2_code 13 = .ok (.iload_n 1, 1) := by decide +kernel
theorem d_SM_poke_14 : decode prog_1_method_2_code 14 = .ok (.ifCond .lt 13, 3) := by decide +kernel
theorem d_SM_poke_17 : decode prog_1_method_2_code 17 = .ok (.iload_n 1, 1) := by decide +kernel
theorem d_SM_poke_18 : decode prog_1_method_2_code 18 = .ok (.sipush 512, 3) := by decide +kernel
theorem d_SM_poke_21 : decode prog_1_method_2_code 21 = .ok (.iload 4, 2) := by decide +kernel
theorem d_SM_poke_23 : decode prog_1_method_2_code 23 = .ok (.isub, 1) := by decide +kernel
theorem d_SM_poke_24 : decode prog_1_method_2_code 24 = .ok (.if_icmp .le 11, 3) := by decide +kernel
theorem d_SM_poke_27 : decode prog_1_method_2_code 27 = .ok (.new 48, 3) := by decide +kernel
theorem d_SM_poke_30 : decode prog_1_method_2_code 30 = .ok (.dup, 1) := by decide +kernel
theorem d_SM_poke_31 : decode prog_1_method_2_code 31 = .ok (.invokespecial 50, 3) := by decide +kernel
theorem d_SM_poke_34 : decode prog_1_method_2_code 34 = .ok (.athrow, 1) := by decide +kernel
theorem d_SM_poke_35 : decode prog_1_method_2_code 35 = .ok (.iconst 0, 1) := by decide +kernel
theorem d_SM_poke_36 : decode prog_1_method_2_code 36 = .ok (.istore 5, 2) := by decide +kernel
theorem d_SM_poke_38 : decode prog_1_method_2_code 38 = .ok (.iload 5, 2) := by decide +kernel
theorem d_SM_poke_40 : decode prog_1_method_2_code 40 = .ok (.iload 4, 2) := by decide +kernel
theorem d_SM_poke_42 : decode prog_1_method_2_code 42 = .ok (.if_icmp .ge 29, 3) := by decide +kernel
theorem d_SM_poke_45 : decode prog_1_method_2_code 45 = .ok (.aload_n 0, 1) := by decide +kernel
theorem d_SM_poke_46 : decode prog_1_method_2_code 46 = .ok (.getfield 21, 3) := by decide +kernel
theorem d_SM_poke_49 : decode prog_1_method_2_code 49 = .ok (.getfield 51, 3) := by decide +kernel
theorem d_SM_poke_52 : decode prog_1_method_2_code 52 = .ok (.iload_n 1, 1) := by decide +kernel
theorem d_SM_poke_53 : decode prog_1_method_2_code 53 = .ok (.iload 5, 2) := by decide +kernel
theorem d_SM_poke_55 : decode prog_1_method_2_code 55 = .ok (.iadd, 1) := by decide +kernel
theorem d_SM_poke_56 : decode prog_1_method_2_code 56 = .ok (.lload_n 2, 1) := by decide +kernel
theorem d_SM_poke_57 : decode prog_1_method_2_code 57 = .ok (.iload 4, 2) := by decide +kernel
theorem d_SM_poke_59 : decode prog_1_method_2_code 59 = .ok (.iload 5, 2) := by decide +kernel
theorem d_SM_poke_61 : decode prog_1_method_2_code 61 = .ok (.invokestatic 55, 3) := by decide +kernel
theorem d_SM_poke_64 : decode prog_1_method_2_code 64 = .ok (.iastore, 1) := by decide +kernel
theorem d_SM_poke_65 : decode prog_1_method_2_code 65 = .ok (.iinc 5 1, 3) := by decide +kernel
theorem d_SM_poke_68 : decode prog_1_method_2_code 68 = .ok (.goto (-30), 3) := by decide +kernel
theorem d_SM_poke_71 : decode prog_1_method_2_code 71 = .ok (.return_, 1) := by decide +kernel
theorem d_SM_peek_0 : decode prog_1_method_3_code 0 = .ok (.iload_n 1, 1) := by decide +kernel
theorem d_SM_peek_1 : decode prog_1_method_3_code 1 = .ok (.ifCond .lt 10, 3) := by decide +kernel
theorem d_SM_peek_4 : decode prog_1_method_3_code 4 = .ok (.iload_n 1, 1) := by decide +kernel
theorem d_SM_peek_5 : decode prog_1_method_3_code 5 = .ok (.sipush 512, 3) := by decide +kernel
theorem d_SM_peek_8 : decode prog_1_method_3_code 8 = .ok (.if_icmp .lt 11, 3) := by decide +kernel
theorem d_SM_peek_11 : decode prog_1_method_3_code 11 = .ok (.new 48, 3) := by decide +kernel
theorem d_SM_peek_14 : decode prog_1_method_3_code 14 = .ok (.dup, 1) := by decide +kernel
theorem d_SM_peek_15 : decode prog_1_method_3_code 15 = .ok (.invokespecial 50, 3) := by decide +kernel
theorem d_SM_peek_18 : decode prog_1_method_3_code 18 = .ok (.athrow, 1) := by decide +kernel
theorem d_SM_peek_19 : decode prog_1_method_3_code 19 = .ok (.aload_n 0, 1) := by decide +kernel
theorem d_SM_peek_20 : decode prog_1_method_3_code 20 = .ok (.getfield 21, 3) := by decide +kernel
theorem d_SM_peek_23 : decode prog_1_method_3_code 23 = .ok (.getfield 51, 3) := by decide +kernel
theorem d_SM_peek_26 : decode prog_1_method_3_code 26 = .ok (.iload_n 1, 1) := by decide +kernel
theorem d_SM_peek_27 : decode prog_1_method_3_code 27 = .ok (.iaload, 1) := by decide +kernel
theorem d_SM_peek_28 : decode prog_1_method_3_code 28 = .ok (.ireturn, 1) := by decide +kernel
theorem d_Me_wordAt_0 : decode prog_7_method_3_code 0 = .ok (.iload_n 1, 1) := by decide +kernel
theorem d_Me_wordAt_1 : decode prog_7_method_3_code 1 = .ok (.ifCond .lt 10, 3) := by decide +kernel
theorem d_Me_wordAt_4 : decode prog_7_method_3_code 4 = .ok (.iload_n 1, 1) := by decide +kernel
theorem d_Me_wordAt_5 : decode prog_7_method_3_code 5 = .ok (.sipush 511, 3) := by decide +kernel
theorem d_Me_wordAt_8 : decode prog_7_method_3_code 8 = .ok (.if_icmp .lt 11, 3) := by decide +kernel
theorem d_Me_wordAt_11 : decode prog_7_method_3_code 11 = .ok (.new 13, 3) := by decide +kernel
theorem d_Me_wordAt_14 : decode prog_7_method_3_code 14 = .ok (.dup, 1) := by decide +kernel
theorem d_Me_wordAt_15 : decode prog_7_method_3_code 15 = .ok (.invokespecial 15, 3) := by decide +kernel
theorem d_Me_wordAt_18 : decode prog_7_method_3_code 18 = .ok (.athrow, 1) := by decide +kernel
theorem d_Me_wordAt_19 : decode prog_7_method_3_code 19 = .ok (.sipush 256, 3) := by decide +kernel
theorem d_Me_wordAt_22 : decode prog_7_method_3_code 22 = .ok (.aload_n 0, 1) := by decide +kernel
theorem d_Me_wordAt_23 : decode prog_7_method_3_code 23 = .ok (.getfield 9, 3) := by decide +kernel
theorem d_Me_wordAt_26 : decode prog_7_method_3_code 26 = .ok (.iload_n 1, 1) := by decide +kernel
theorem d_Me_wordAt_27 : decode prog_7_method_3_code 27 = .ok (.iaload, 1) := by decide +kernel
theorem d_Me_wordAt_28 : decode prog_7_method_3_code 28 = .ok (.imul, 1) := by decide +kernel
theorem d_Me_wordAt_29 : decode prog_7_method_3_code 29 = .ok (.aload_n 0, 1) := by decide +kernel
theorem d_Me_wordAt_30 : decode prog_7_method_3_code 30 = .ok (.getfield 9, 3) := by decide +kernel
theorem d_Me_wordAt_33 : decode prog_7_method_3_code 33 = .ok (.iload_n 1, 1) := by decide +kernel
theorem d_Me_wordAt_34 : decode prog_7_method_3_code 34 = .ok (.iconst 1, 1) := by decide +kernel
theorem d_Me_wordAt_35 : decode prog_7_method_3_code 35 = .ok (.iadd, 1) := by decide +kernel
theorem d_Me_wordAt_36 : decode prog_7_method_3_code 36 = .ok (.iaload, 1) := by decide +kernel
theorem d_Me_wordAt_37 : decode prog_7_method_3_code 37 = .ok (.iadd, 1) := by decide +kernel
theorem d_Me_wordAt_38 : decode prog_7_method_3_code 38 = .ok (.ireturn, 1) := by decide +kernel
theorem d_Ro_clear_0 : decode prog_9_method_2_code 0 = .ok (.aload_n 0, 1) := by decide +kernel
theorem d_Ro_clear_1 : decode prog_9_method_2_code 1 = .ok (.iconst 0, 1) := by decide +kernel
theorem d_Ro_clear_2 : decode prog_9_method_2_code 2 = .ok (.putfield 28, 3) := by decide +kernel
theorem d_Ro_clear_5 : decode prog_9_method_2_code 5 = .ok (.aload_n 0, 1) := by decide +kernel
theorem d_Ro_clear_6 : decode prog_9_method_2_code 6 = .ok (.iconst 0, 1) := by decide +kernel
theorem d_Ro_clear_7 : decode prog_9_method_2_code 7 = .ok (.putfield 32, 3) := by decide +kernel
theorem d_Ro_clear_10 : decode prog_9_method_2_code 10 = .ok (.aload_n 0, 1) := by decide +kernel
theorem d_Ro_clear_11 : decode prog_9_method_2_code 11 = .ok (.getfield 13, 3) := by decide +kernel
theorem d_Ro_clear_14 : decode prog_9_method_2_code 14 = .ok (.iconst 0, 1) := by decide +kernel
theorem d_Ro_clear_15 : decode prog_9_method_2_code 15 = .ok (.iconst 0, 1) := by decide +kernel
theorem d_Ro_clear_16 : decode prog_9_method_2_code 16 = .ok (.iastore, 1) := by decide +kernel
theorem d_Ro_clear_17 : decode prog_9_method_2_code 17 = .ok (.aload_n 0, 1) := by decide +kernel
theorem d_Ro_clear_18 : decode prog_9_method_2_code 18 = .ok (.getfield 22, 3) := by decide +kernel
theorem d_Ro_clear_21 : decode prog_9_method_2_code 21 = .ok (.iconst 0, 1) := by decide +kernel
theorem d_Ro_clear_22 : decode prog_9_method_2_code 22 = .ok (.iconst 0, 1) := by decide +kernel
theorem d_Ro_clear_23 : decode prog_9_method_2_code 23 = .ok (.iastore, 1) := by decide +kernel
theorem d_Ro_clear_24 : decode prog_9_method_2_code 24 = .ok (.return_, 1) := by decide +kernel
theorem d_Li_clear_0 : decode prog_6_method_2_code 0 = .ok (.aload_n 0, 1) := by decide +kernel
theorem d_Li_clear_1 : decode prog_6_method_2_code 1 = .ok (.iconst 0, 1) := by decide +kernel
theorem d_Li_clear_2 : decode prog_6_method_2_code 2 = .ok (.putfield 16, 3) := by decide +kernel
theorem d_Li_clear_5 : decode prog_6_method_2_code 5 = .ok (.aload_n 0, 1) := by decide +kernel
theorem d_Li_clear_6 : decode prog_6_method_2_code 6 = .ok (.iconst 0, 1) := by decide +kernel
theorem d_Li_clear_7 : decode prog_6_method_2_code 7 = .ok (.putfield 20, 3) := by decide +kernel
theorem d_Li_clear_10 : decode prog_6_method_2_code 10 = .ok (.return_, 1) := by decide +kernel
theorem d_En_startAt_0 : decode prog_4_method_2_code 0 = .ok (.aload_n 0, 1) := by decide +kernel
theorem d_En_startAt_1 : decode prog_4_method_2_code 1 = .ok (.iload_n 1, 1) := by decide +kernel
theorem d_En_startAt_2 : decode prog_4_method_2_code 2 = .ok (.putfield 22, 3) := by decide +kernel
theorem d_En_startAt_5 : decode prog_4_method_2_code 5 = .ok (.aload_n 0, 1) := by decide +kernel
theorem d_En_startAt_6 : decode prog_4_method_2_code 6 = .ok (.iconst 1, 1) := by decide +kernel
theorem d_En_startAt_7 : decode prog_4_method_2_code 7 = .ok (.putfield 76, 3) := by decide +kernel
theorem d_En_startAt_10 : decode prog_4_method_2_code 10 = .ok (.aload_n 0, 1) := by decide +kernel
theorem d_En_startAt_11 : decode prog_4_method_2_code 11 = .ok (.iconst 0, 1) := by decide +kernel
theorem d_En_startAt_12 : decode prog_4_method_2_code 12 = .ok (.putfield 80, 3) := by decide +kernel
theorem d_En_startAt_15 : decode prog_4_method_2_code 15 = .ok (.aload_n 0, 1) := by decide +kernel
theorem d_En_startAt_16 : decode prog_4_method_2_code 16 = .ok (.iconst 0, 1) := by decide +kernel
theorem d_En_startAt_17 : decode prog_4_method_2_code 17 = .ok (.putfield 83, 3) := by decide +kernel
theorem d_En_startAt_20 : decode prog_4_method_2_code 20 = .ok (.aload_n 0, 1) := by decide +kernel
theorem d_En_startAt_21 : decode prog_4_method_2_code 21 = .ok (.getfield 43, 3) := by decide +kernel
theorem d_En_startAt_24 : decode prog_4_method_2_code 24 = .ok (.iconst 0, 1) := by decide +kernel
theorem d_En_startAt_25 : decode prog_4_method_2_code 25 = .ok (.putfield 86, 3) := by decide +kernel
theorem d_En_startAt_28 : decode prog_4_method_2_code 28 = .ok (.aload_n 0, 1) := by decide +kernel
theorem d_En_startAt_29 : decode prog_4_method_2_code 29 = .ok (.getfield 10, 3) := by decide +kernel
theorem d_En_startAt_32 : decode prog_4_method_2_code 32 = .ok (.iconst 0, 1) := by decide +kernel
theorem d_En_startAt_33 : decode prog_4_method_2_code 33 = .ok (.putfield 91, 3) := by decide +kernel
theorem d_En_startAt_36 : decode prog_4_method_2_code 36 = .ok (.aload_n 0, 1) := by decide +kernel
theorem d_En_startAt_37 : decode prog_4_method_2_code 37 = .ok (.getfield 39, 3) := by decide +kernel
theorem d_En_startAt_40 : decode prog_4_method_2_code 40 = .ok (.invokevirtual 94, 3) := by decide +kernel
theorem d_En_startAt_43 : decode prog_4_method_2_code 43 = .ok (.aload_n 0, 1) := by decide +kernel
theorem d_En_startAt_44 : decode prog_4_method_2_code 44 = .ok (.getfield 35, 3) := by decide +kernel
theorem d_En_startAt_47 : decode prog_4_method_2_code 47 = .ok (.invokevirtual 97, 3) := by decide +kernel
theorem d_En_startAt_50 : decode prog_4_method_2_code 50 = .ok (.return_, 1) := by decide +kernel
theorem d_SM_begin_0 : decode prog_1_method_4_code 0 = .ok (.aload_n 0, 1) := by decide +kernel
theorem d_SM_begin_1 : decode prog_1_method_4_code 1 = .ok (.getfield 21, 3) := by decide +kernel
theorem d_SM_begin_4 : decode prog_1_method_4_code 4 = .ok (.iconst 4, 1) := by decide +kernel
theorem d_SM_begin_5 : decode prog_1_method_4_code 5 = .ok (.invokevirtual 59, 3) := by decide +kernel
theorem d_SM_begin_8 : decode prog_1_method_4_code 8 = .ok (.istore_n 1, 1) := by decide +kernel
theorem d_SM_begin_9 : decode prog_1_method_4_code 9 = .ok (.iload_n 1, 1) := by decide +kernel
theorem d_SM_begin_10 : decode prog_1_method_4_code 10 = .ok (.sipush 512, 3) := by decide +kernel
theorem d_SM_begin_13 : decode prog_1_method_4_code 13 = .ok (.if_icmp .lt 11, 3) := by decide +kernel
theorem d_SM_begin_16 : decode prog_1_method_4_code 16 = .ok (.new 63, 3) := by decide +kernel
theorem d_SM_begin_19 : decode prog_1_method_4_code 19 = .ok (.dup, 1) := by decide +kernel
theorem d_SM_begin_20 : decode prog_1_method_4_code 20 = .ok (.invokespecial 65, 3) := by decide +kernel
theorem d_SM_begin_23 : decode prog_1_method_4_code 23 = .ok (.athrow, 1) := by decide +kernel
theorem d_SM_begin_24 : decode prog_1_method_4_code 24 = .ok (.aload_n 0, 1) := by decide +kernel
theorem d_SM_begin_25 : decode prog_1_method_4_code 25 = .ok (.getfield 44, 3) := by decide +kernel
theorem d_SM_begin_28 : decode prog_1_method_4_code 28 = .ok (.iload_n 1, 1) := by decide +kernel
theorem d_SM_begin_29 : decode prog_1_method_4_code 29 = .ok (.invokevirtual 66, 3) := by decide +kernel
theorem d_SM_begin_32 : decode prog_1_method_4_code 32 = .ok (.return_, 1) := by decide +kernel
theorem d_SM_run_0 : decode prog_1_method_7_code 0 = .ok (.iload_n 1, 1) := by decide +kernel
theorem d_SM_run_1 : decode prog_1_method_7_code 1 = .ok (.iconst 1, 1) := by decide +kernel
theorem d_SM_run_2 : decode prog_1_method_7_code 2 = .ok (.if_icmp .lt 10, 3) := by decide +kernel
theorem d_SM_run_5 : decode prog_1_method_7_code 5 = .ok (.iload_n 1, 1) := by decide +kernel
theorem d_SM_run_6 : decode prog_1_method_7_code 6 = .ok (.sipush 300, 3) := by decide +kernel
theorem d_SM_run_9 : decode prog_1_method_7_code 9 = .ok (.if_icmp .le 11, 3) := by decide +kernel
theorem d_SM_run_12 : decode prog_1_method_7_code 12 = .ok (.new 48, 3) := by decide +kernel
theorem d_SM_run_15 : decode prog_1_method_7_code 15 = .ok (.dup, 1) := by decide +kernel
theorem d_SM_run_16 : decode prog_1_method_7_code 16 = .ok (.invokespecial 50, 3) := by decide +kernel
theorem d_SM_run_19 : decode prog_1_method_7_code 19 = .ok (.athrow, 1) := by decide +kernel
theorem d_SM_run_20 : decode prog_1_method_7_code 20 = .ok (.aload_n 0, 1) := by decide +kernel
theorem d_SM_run_21 : decode prog_1_method_7_code 21 = .ok (.getfield 44, 3) := by decide +kernel
theorem d_SM_run_24 : decode prog_1_method_7_code 24 = .ok (.getfield 80, 3) := by decide +kernel
theorem d_SM_run_27 : decode prog_1_method_7_code 27 = .ok (.ifCond .ne 11, 3) := by decide +kernel
theorem d_SM_run_30 : decode prog_1_method_7_code 30 = .ok (.new 63, 3) := by decide +kernel
theorem d_SM_run_33 : decode prog_1_method_7_code 33 = .ok (.dup, 1) := by decide +kernel
theorem d_SM_run_34 : decode prog_1_method_7_code 34 = .ok (.invokespecial 65, 3) := by decide +kernel
theorem d_SM_run_37 : decode prog_1_method_7_code 37 = .ok (.athrow, 1) := by decide +kernel
theorem d_SM_run_38 : decode prog_1_method_7_code 38 = .ok (.iconst 0, 1) := by decide +kernel
theorem d_SM_run_39 : decode prog_1_method_7_code 39 = .ok (.istore_n 2, 1) := by decide +kernel
theorem d_SM_run_40 : decode prog_1_method_7_code 40 = .ok (.iconst 0, 1) := by decide +kernel
theorem d_SM_run_41 : decode prog_1_method_7_code 41 = .ok (.istore_n 3, 1) := by decide +kernel
theorem d_SM_run_42 : decode prog_1_method_7_code 42 = .ok (.iload_n 3, 1) := by decide +kernel
theorem d_SM_run_43 : decode prog_1_method_7_code 43 = .ok (.iload_n 1, 1) := by decide +kernel
theorem d_SM_run_44 : decode prog_1_method_7_code 44 = .ok (.if_icmp .ge 21, 3) := by decide +kernel
theorem d_SM_run_47 : decode prog_1_method_7_code 47 = .ok (.iload_n 2, 1) := by decide +kernel
theorem d_SM_run_48 : decode prog_1_method_7_code 48 = .ok (.ifCond .ne 17, 3) := by decide +kernel
theorem d_SM_run_51 : decode prog_1_method_7_code 51 = .ok (.aload_n 0, 1) := by decide +kernel
theorem d_SM_run_52 : decode prog_1_method_7_code 52 = .ok (.getfield 44, 3) := by decide +kernel
theorem d_SM_run_55 : decode prog_1_method_7_code 55 = .ok (.invokevirtual 84, 3) := by decide +kernel
theorem d_SM_run_58 : decode prog_1_method_7_code 58 = .ok (.istore_n 2, 1) := by decide +kernel
theorem d_SM_run_59 : decode prog_1_method_7_code 59 = .ok (.iinc 3 1, 3) := by decide +kernel
theorem d_SM_run_62 : decode prog_1_method_7_code 62 = .ok (.goto (-20), 3) := by decide +kernel
theorem d_SM_run_65 : decode prog_1_method_7_code 65 = .ok (.iload_n 2, 1) := by decide +kernel
theorem d_SM_run_66 : decode prog_1_method_7_code 66 = .ok (.ireturn, 1) := by decide +kernel
theorem d_SM_steps_0 : decode prog_1_method_8_code 0 = .ok (.aload_n 0, 1) := by decide +kernel
theorem d_SM_steps_1 : decode prog_1_method_8_code 1 = .ok (.getfield 44, 3) := by decide +kernel
theorem d_SM_steps_4 : decode prog_1_method_8_code 4 = .ok (.getfield 88, 3) := by decide +kernel
theorem d_SM_steps_7 : decode prog_1_method_8_code 7 = .ok (.ireturn, 1) := by decide +kernel
theorem d_SM_place_0 : decode prog_1_method_9_code 0 = .ok (.aload_n 0, 1) := by decide +kernel
theorem d_SM_place_1 : decode prog_1_method_9_code 1 = .ok (.getfield 44, 3) := by decide +kernel
theorem d_SM_place_4 : decode prog_1_method_9_code 4 = .ok (.getfield 91, 3) := by decide +kernel
theorem d_SM_place_7 : decode prog_1_method_9_code 7 = .ok (.ireturn, 1) := by decide +kernel
theorem d_SM_routines_0 : decode prog_1_method_13_code 0 = .ok (.aload_n 0, 1) := by decide +kernel
theorem d_SM_routines_1 : decode prog_1_method_13_code 1 = .ok (.getfield 31, 3) := by decide +kernel
theorem d_SM_routines_4 : decode prog_1_method_13_code 4 = .ok (.getfield 115, 3) := by decide +kernel
theorem d_SM_routines_7 : decode prog_1_method_13_code 7 = .ok (.ireturn, 1) := by decide +kernel
theorem d_SM_output_0 : decode prog_1_method_10_code 0 = .ok (.iload_n 1, 1) := by decide +kernel
theorem d_SM_output_1 : decode prog_1_method_10_code 1 = .ok (.iconst (-1), 1) := by decide +kernel
theorem d_SM_output_2 : decode prog_1_method_10_code 2 = .ok (.if_icmp .lt 20, 3) := by decide +kernel
theorem d_SM_output_5 : decode prog_1_method_10_code 5 = .ok (.iload_n 1, 1) := by decide +kernel
theorem d_SM_output_6 : decode prog_1_method_10_code 6 = .ok (.bipush 64, 2) := by decide +kernel
theorem d_SM_output_8 : decode prog_1_method_10_code 8 = .ok (.if_icmp .ge 14, 3) := by decide +kernel
theorem d_SM_output_11 : decode prog_1_method_10_code 11 = .ok (.iload_n 1, 1) := by decide +kernel
theorem d_SM_output_12 : decode prog_1_method_10_code 12 = .ok (.aload_n 0, 1) := by decide +kernel
theorem d_SM_output_13 : decode prog_1_method_10_code 13 = .ok (.getfield 35, 3) := by decide +kernel
theorem d_SM_output_16 : decode prog_1_method_10_code 16 = .ok (.getfield 94, 3) := by decide +kernel
theorem d_SM_output_19 : decode prog_1_method_10_code 19 = .ok (.if_icmp .lt 11, 3) := by decide +kernel
theorem d_SM_output_22 : decode prog_1_method_10_code 22 = .ok (.new 97, 3) := by decide +kernel
theorem d_SM_output_25 : decode prog_1_method_10_code 25 = .ok (.dup, 1) := by decide +kernel
theorem d_SM_output_26 : decode prog_1_method_10_code 26 = .ok (.invokespecial 99, 3) := by decide +kernel
theorem d_SM_output_29 : decode prog_1_method_10_code 29 = .ok (.athrow, 1) := by decide +kernel
theorem d_SM_output_30 : decode prog_1_method_10_code 30 = .ok (.iload_n 1, 1) := by decide +kernel
theorem d_SM_output_31 : decode prog_1_method_10_code 31 = .ok (.iconst (-1), 1) := by decide +kernel
theorem d_SM_output_32 : decode prog_1_method_10_code 32 = .ok (.if_icmp .ne 13, 3) := by decide +kernel
theorem d_SM_output_35 : decode prog_1_method_10_code 35 = .ok (.aload_n 0, 1) := by decide +kernel
theorem d_SM_output_36 : decode prog_1_method_10_code 36 = .ok (.getfield 35, 3) := by decide +kernel
theorem d_SM_output_39 : decode prog_1_method_10_code 39 = .ok (.getfield 94, 3) := by decide +kernel
theorem d_SM_output_42 : decode prog_1_method_10_code 42 = .ok (.goto 11, 3) := by decide +kernel
theorem d_SM_output_45 : decode prog_1_method_10_code 45 = .ok (.aload_n 0, 1) := by decide +kernel
theorem d_SM_output_46 : decode prog_1_method_10_code 46 = .ok (.getfield 35, 3) := by decide +kernel
theorem d_SM_output_49 : decode prog_1_method_10_code 49 = .ok (.iload_n 1, 1) := by decide +kernel
theorem d_SM_output_50 : decode prog_1_method_10_code 50 = .ok (.invokevirtual 100, 3) := by decide +kernel
theorem d_SM_output_53 : decode prog_1_method_10_code 53 = .ok (.ireturn, 1) := by decide +kernel
theorem d_SM_stack_0 : decode prog_1_method_11_code 0 = .ok (.iload_n 1, 1) := by decide +kernel
theorem d_SM_stack_1 : decode prog_1_method_11_code 1 = .ok (.iconst (-1), 1) := by decide +kernel
theorem d_SM_stack_2 : decode prog_1_method_11_code 2 = .ok (.if_icmp .lt 14, 3) := by decide +kernel
theorem d_SM_stack_5 : decode prog_1_method_11_code 5 = .ok (.iload_n 1, 1) := by decide +kernel
theorem d_SM_stack_6 : decode prog_1_method_11_code 6 = .ok (.aload_n 0, 1) := by decide +kernel
theorem d_SM_stack_7 : decode prog_1_method_11_code 7 = .ok (.getfield 31, 3) := by decide +kernel
theorem d_SM_stack_10 : decode prog_1_method_11_code 10 = .ok (.getfield 103, 3) := by decide +kernel
theorem d_SM_stack_13 : decode prog_1_method_11_code 13 = .ok (.if_icmp .lt 11, 3) := by decide +kernel
theorem d_SM_stack_16 : decode prog_1_method_11_code 16 = .ok (.new 97, 3) := by decide +kernel
theorem d_SM_stack_19 : decode prog_1_method_11_code 19 = .ok (.dup, 1) := by decide +kernel
theorem d_SM_stack_20 : decode prog_1_method_11_code 20 = .ok (.invokespecial 99, 3) := by decide +kernel
theorem d_SM_stack_23 : decode prog_1_method_11_code 23 = .ok (.athrow, 1) := by decide +kernel
theorem d_SM_stack_24 : decode prog_1_method_11_code 24 = .ok (.iload_n 1, 1) := by decide +kernel
theorem d_SM_stack_25 : decode prog_1_method_11_code 25 = .ok (.iconst (-1), 1) := by decide +kernel
theorem d_SM_stack_26 : decode prog_1_method_11_code 26 = .ok (.if_icmp .ne 13, 3) := by decide +kernel
theorem d_SM_stack_29 : decode prog_1_method_11_code 29 = .ok (.aload_n 0, 1) := by decide +kernel
theorem d_SM_stack_30 : decode prog_1_method_11_code 30 = .ok (.getfield 31, 3) := by decide +kernel
theorem d_SM_stack_33 : decode prog_1_method_11_code 33 = .ok (.getfield 103, 3) := by decide +kernel
theorem d_SM_stack_36 : decode prog_1_method_11_code 36 = .ok (.goto 22, 3) := by decide +kernel
theorem d_SM_stack_39 : decode prog_1_method_11_code 39 = .ok (.aload_n 0, 1) := by decide +kernel
theorem d_SM_stack_40 : decode prog_1_method_11_code 40 = .ok (.getfield 31, 3) := by decide +kernel
theorem d_SM_stack_43 : decode prog_1_method_11_code 43 = .ok (.getfield 106, 3) := by decide +kernel
theorem d_SM_stack_46 : decode prog_1_method_11_code 46 = .ok (.aload_n 0, 1) := by decide +kernel
theorem d_SM_stack_47 : decode prog_1_method_11_code 47 = .ok (.getfield 31, 3) := by decide +kernel
theorem d_SM_stack_50 : decode prog_1_method_11_code 50 = .ok (.getfield 103, 3) := by decide +kernel
theorem d_SM_stack_53 : decode prog_1_method_11_code 53 = .ok (.iconst 1, 1) := by decide +kernel
theorem d_SM_stack_54 : decode prog_1_method_11_code 54 = .ok (.isub, 1) := by decide +kernel
theorem d_SM_stack_55 : decode prog_1_method_11_code 55 = .ok (.iload_n 1, 1) := by decide +kernel
theorem d_SM_stack_56 : decode prog_1_method_11_code 56 = .ok (.isub, 1) := by decide +kernel
theorem d_SM_stack_57 : decode prog_1_method_11_code 57 = .ok (.iaload, 1) := by decide +kernel
theorem d_SM_stack_58 : decode prog_1_method_11_code 58 = .ok (.ireturn, 1) := by decide +kernel
theorem d_Ro_localCount_0 : decode prog_9_method_7_code 0 = .ok (.aload_n 0, 1) := by decide +kernel
theorem d_Ro_localCount_1 : decode prog_9_method_7_code 1 = .ok (.getfield 22, 3) := by decide +kernel
theorem d_Ro_localCount_4 : decode prog_9_method_7_code 4 = .ok (.aload_n 0, 1) := by decide +kernel
theorem d_Ro_localCount_5 : decode prog_9_method_7_code 5 = .ok (.getfield 32, 3) := by decide +kernel
theorem d_Ro_localCount_8 : decode prog_9_method_7_code 8 = .ok (.iaload, 1) := by decide +kernel
theorem d_Ro_localCount_9 : decode prog_9_method_7_code 9 = .ok (.ireturn, 1) := by decide +kernel
theorem d_SM_local_0 : decode prog_1_method_12_code 0 = .ok (.iload_n 1, 1) := by decide +kernel
theorem d_SM_local_1 : decode prog_1_method_12_code 1 = .ok (.ifCond .lt 9, 3) := by decide +kernel
theorem d_SM_local_4 : decode prog_1_method_12_code 4 = .ok (.iload_n 1, 1) := by decide +kernel
theorem d_SM_local_5 : decode prog_1_method_12_code 5 = .ok (.bipush 15, 2) := by decide +kernel
theorem d_SM_local_7 : decode prog_1_method_12_code 7 = .ok (.if_icmp .le 11, 3) := by decide +kernel
theorem d_SM_local_10 : decode prog_1_method_12_code 10 = .ok (.new 97, 3) := by decide +kernel
theorem d_SM_local_13 : decode prog_1_method_12_code 13 = .ok (.dup, 1) := by decide +kernel
theorem d_SM_local_14 : decode prog_1_method_12_code 14 = .ok (.invokespecial 99, 3) := by decide +kernel
theorem d_SM_local_17 : decode prog_1_method_12_code 17 = .ok (.athrow, 1) := by decide +kernel
theorem d_SM_local_18 : decode prog_1_method_12_code 18 = .ok (.iload_n 1, 1) := by decide +kernel
theorem d_SM_local_19 : decode prog_1_method_12_code 19 = .ok (.ifCond .ne 11, 3) := by decide +kernel
theorem d_SM_local_22 : decode prog_1_method_12_code 22 = .ok (.aload_n 0, 1) := by decide +kernel
theorem d_SM_local_23 : decode prog_1_method_12_code 23 = .ok (.getfield 31, 3) := by decide +kernel
theorem d_SM_local_26 : decode prog_1_method_12_code 26 = .ok (.invokevirtual 109, 3) := by decide +kernel
theorem d_SM_local_29 : decode prog_1_method_12_code 29 = .ok (.ireturn, 1) := by decide +kernel
theorem d_SM_local_30 : decode prog_1_method_12_code 30 = .ok (.iload_n 1, 1) := by decide +kernel
theorem d_SM_local_31 : decode prog_1_method_12_code 31 = .ok (.aload_n 0, 1) := by decide +kernel
theorem d_SM_local_32 : decode prog_1_method_12_code 32 = .ok (.getfield 31, 3) := by decide +kernel
theorem d_SM_local_35 : decode prog_1_method_12_code 35 = .ok (.invokevirtual 109, 3) := by decide +kernel
theorem d_SM_local_38 : decode prog_1_method_12_code 38 = .ok (.if_icmp .gt 14, 3) := by decide +kernel
theorem d_SM_local_41 : decode prog_1_method_12_code 41 = .ok (.aload_n 0, 1) := by decide +kernel
theorem d_SM_local_42 : decode prog_1_method_12_code 42 = .ok (.getfield 31, 3) := by decide +kernel
theorem d_SM_local_45 : decode prog_1_method_12_code 45 = .ok (.iload_n 1, 1) := by decide +kernel
theorem d_SM_local_46 : decode prog_1_method_12_code 46 = .ok (.invokevirtual 112, 3) := by decide +kernel
theorem d_SM_local_49 : decode prog_1_method_12_code 49 = .ok (.goto 4, 3) := by decide +kernel
theorem d_SM_local_52 : decode prog_1_method_12_code 52 = .ok (.iconst 0, 1) := by decide +kernel
theorem d_SM_local_53 : decode prog_1_method_12_code 53 = .ok (.ireturn, 1) := by decide +kernel
