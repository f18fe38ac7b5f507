/-! Decode rows; written by wip/tools/gen.py. -/
theorem d_Me_init_0 : decode prog_7_method_1_code 0 = .ok (.aload_n 0, 1) := by decide +kernel
theorem d_Me_init_1 : decode prog_7_method_1_code 1 = .ok (.invokespecial 1, 3) := by decide +kernel
theorem d_Me_init_4 : decode prog_7_method_1_code 4 = .ok (.aload_n 0, 1) := by decide +kernel
theorem d_Me_init_5 : decode prog_7_method_1_code 5 = .ok (.sipush 512, 3) := by decide +kernel
theorem d_Me_init_8 : decode prog_7_method_1_code 8 = .ok (.newarray .int, 2) := by decide +kernel
theorem d_Me_init_10 : decode prog_7_method_1_code 10 = .ok (.putfield 9, 3) := by decide +kernel
theorem d_Me_init_13 : decode prog_7_method_1_code 13 = .ok (.return_, 1) := by decide +kernel
theorem d_Li_init_0 : decode prog_6_method_1_code 0 = .ok (.aload_n 0, 1) := by decide +kernel
theorem d_Li_init_1 : decode prog_6_method_1_code 1 = .ok (.invokespecial 1, 3) := by decide +kernel
theorem d_Li_init_4 : decode prog_6_method_1_code 4 = .ok (.aload_n 0, 1) := by decide +kernel
theorem d_Li_init_5 : decode prog_6_method_1_code 5 = .ok (.bipush 24, 2) := by decide +kernel
theorem d_Li_init_7 : decode prog_6_method_1_code 7 = .ok (.newarray .int, 2) := by decide +kernel
theorem d_Li_init_9 : decode prog_6_method_1_code 9 = .ok (.putfield 9, 3) := by decide +kernel
theorem d_Li_init_12 : decode prog_6_method_1_code 12 = .ok (.aload_n 0, 1) := by decide +kernel
theorem d_Li_init_13 : decode prog_6_method_1_code 13 = .ok (.bipush 24, 2) := by decide +kernel
theorem d_Li_init_15 : decode prog_6_method_1_code 15 = .ok (.newarray .int, 2) := by decide +kernel
theorem d_Li_init_17 : decode prog_6_method_1_code 17 = .ok (.putfield 13, 3) := by decide +kernel
theorem d_Li_init_20 : decode prog_6_method_1_code 20 = .ok (.return_, 1) := by decide +kernel
theorem d_Ro_init_0 : decode prog_9_method_1_code 0 = .ok (.aload_n 0, 1) := by decide +kernel
theorem d_Ro_init_1 : decode prog_9_method_1_code 1 = .ok (.invokespecial 1, 3) := by decide +kernel
theorem d_Ro_init_4 : decode prog_9_method_1_code 4 = .ok (.aload_n 0, 1) := by decide +kernel
theorem d_Ro_init_5 : decode prog_9_method_1_code 5 = .ok (.bipush 48, 2) := by decide +kernel
theorem d_Ro_init_7 : decode prog_9_method_1_code 7 = .ok (.newarray .int, 2) := by decide +kernel
theorem d_Ro_init_9 : decode prog_9_method_1_code 9 = .ok (.putfield 9, 3) := by decide +kernel
theorem d_Ro_init_12 : decode prog_9_method_1_code 12 = .ok (.aload_n 0, 1) := by decide +kernel
theorem d_Ro_init_13 : decode prog_9_method_1_code 13 = .ok (.bipush 11, 2) := by decide +kernel
theorem d_Ro_init_15 : decode prog_9_method_1_code 15 = .ok (.newarray .int, 2) := by decide +kernel
theorem d_Ro_init_17 : decode prog_9_method_1_code 17 = .ok (.putfield 13, 3) := by decide +kernel
theorem d_Ro_init_20 : decode prog_9_method_1_code 20 = .ok (.aload_n 0, 1) := by decide +kernel
theorem d_Ro_init_21 : decode prog_9_method_1_code 21 = .ok (.bipush 11, 2) := by decide +kernel
theorem d_Ro_init_23 : decode prog_9_method_1_code 23 = .ok (.newarray .int, 2) := by decide +kernel
theorem d_Ro_init_25 : decode prog_9_method_1_code 25 = .ok (.putfield 16, 3) := by decide +kernel
theorem d_Ro_init_28 : decode prog_9_method_1_code 28 = .ok (.aload_n 0, 1) := by decide +kernel
theorem d_Ro_init_29 : decode prog_9_method_1_code 29 = .ok (.bipush 11, 2) := by decide +kernel
theorem d_Ro_init_31 : decode prog_9_method_1_code 31 = .ok (.newarray .int, 2) := by decide +kernel
theorem d_Ro_init_33 : decode prog_9_method_1_code 33 = .ok (.putfield 19, 3) := by decide +kernel
theorem d_Ro_init_36 : decode prog_9_method_1_code 36 = .ok (.aload_n 0, 1) := by decide +kernel
theorem d_Ro_init_37 : decode prog_9_method_1_code 37 = .ok (.bipush 11, 2) := by decide +kernel
theorem d_Ro_init_39 : decode prog_9_method_1_code 39 = .ok (.newarray .int, 2) := by decide +kernel
theorem d_Ro_init_41 : decode prog_9_method_1_code 41 = .ok (.putfield 22, 3) := by decide +kernel
theorem d_Ro_init_44 : decode prog_9_method_1_code 44 = .ok (.aload_n 0, 1) := by decide +kernel
theorem d_Ro_init_45 : decode prog_9_method_1_code 45 = .ok (.sipush 165, 3) := by decide +kernel
theorem d_Ro_init_48 : decode prog_9_method_1_code 48 = .ok (.newarray .int, 2) := by decide +kernel
theorem d_Ro_init_50 : decode prog_9_method_1_code 50 = .ok (.putfield 25, 3) := by decide +kernel
theorem d_Ro_init_53 : decode prog_9_method_1_code 53 = .ok (.return_, 1) := by decide +kernel
theorem d_Pr_init_0 : decode prog_8_method_1_code 0 = .ok (.aload_n 0, 1) := by decide +kernel
theorem d_Pr_init_1 : decode prog_8_method_1_code 1 = .ok (.invokespecial 1, 3) := by decide +kernel
theorem d_Pr_init_4 : decode prog_8_method_1_code 4 = .ok (.aload_n 0, 1) := by decide +kernel
theorem d_Pr_init_5 : decode prog_8_method_1_code 5 = .ok (.bipush 64, 2) := by decide +kernel
theorem d_Pr_init_7 : decode prog_8_method_1_code 7 = .ok (.newarray .int, 2) := by decide +kernel
theorem d_Pr_init_9 : decode prog_8_method_1_code 9 = .ok (.putfield 9, 3) := by decide +kernel
theorem d_Pr_init_12 : decode prog_8_method_1_code 12 = .ok (.aload_n 0, 1) := by decide +kernel
theorem d_Pr_init_13 : decode prog_8_method_1_code 13 = .ok (.aload_n 1, 1) := by decide +kernel
theorem d_Pr_init_14 : decode prog_8_method_1_code 14 = .ok (.putfield 13, 3) := by decide +kernel
theorem d_Pr_init_17 : decode prog_8_method_1_code 17 = .ok (.return_, 1) := by decide +kernel
theorem d_Va_init_0 : decode prog_11_method_1_code 0 = .ok (.aload_n 0, 1) := by decide +kernel
theorem d_Va_init_1 : decode prog_11_method_1_code 1 = .ok (.invokespecial 1, 3) := by decide +kernel
theorem d_Va_init_4 : decode prog_11_method_1_code 4 = .ok (.aload_n 0, 1) := by decide +kernel
theorem d_Va_init_5 : decode prog_11_method_1_code 5 = .ok (.aload_n 1, 1) := by decide +kernel
theorem d_Va_init_6 : decode prog_11_method_1_code 6 = .ok (.putfield 7, 3) := by decide +kernel
theorem d_Va_init_9 : decode prog_11_method_1_code 9 = .ok (.aload_n 0, 1) := by decide +kernel
theorem d_Va_init_10 : decode prog_11_method_1_code 10 = .ok (.aload_n 2, 1) := by decide +kernel
theorem d_Va_init_11 : decode prog_11_method_1_code 11 = .ok (.putfield 13, 3) := by decide +kernel
theorem d_Va_init_14 : decode prog_11_method_1_code 14 = .ok (.return_, 1) := by decide +kernel
theorem d_Tr_init_0 : decode prog_10_method_1_code 0 = .ok (.aload_n 0, 1) := by decide +kernel
theorem d_Tr_init_1 : decode prog_10_method_1_code 1 = .ok (.invokespecial 1, 3) := by decide +kernel
theorem d_Tr_init_4 : decode prog_10_method_1_code 4 = .ok (.aload_n 0, 1) := by decide +kernel
theorem d_Tr_init_5 : decode prog_10_method_1_code 5 = .ok (.aload_n 1, 1) := by decide +kernel
theorem d_Tr_init_6 : decode prog_10_method_1_code 6 = .ok (.putfield 7, 3) := by decide +kernel
theorem d_Tr_init_9 : decode prog_10_method_1_code 9 = .ok (.return_, 1) := by decide +kernel
theorem d_Di_init_0 : decode prog_3_method_1_code 0 = .ok (.aload_n 0, 1) := by decide +kernel
theorem d_Di_init_1 : decode prog_3_method_1_code 1 = .ok (.invokespecial 1, 3) := by decide +kernel
theorem d_Di_init_4 : decode prog_3_method_1_code 4 = .ok (.aload_n 0, 1) := by decide +kernel
theorem d_Di_init_5 : decode prog_3_method_1_code 5 = .ok (.bipush 24, 2) := by decide +kernel
theorem d_Di_init_7 : decode prog_3_method_1_code 7 = .ok (.newarray .int, 2) := by decide +kernel
theorem d_Di_init_9 : decode prog_3_method_1_code 9 = .ok (.putfield 9, 3) := by decide +kernel
theorem d_Di_init_12 : decode prog_3_method_1_code 12 = .ok (.aload_n 0, 1) := by decide +kernel
theorem d_Di_init_13 : decode prog_3_method_1_code 13 = .ok (.bipush 24, 2) := by decide +kernel
theorem d_Di_init_15 : decode prog_3_method_1_code 15 = .ok (.newarray .int, 2) := by decide +kernel
theorem d_Di_init_17 : decode prog_3_method_1_code 17 = .ok (.putfield 15, 3) := by decide +kernel
theorem d_Di_init_20 : decode prog_3_method_1_code 20 = .ok (.aload_n 0, 1) := by decide +kernel
theorem d_Di_init_21 : decode prog_3_method_1_code 21 = .ok (.bipush 6, 2) := by decide +kernel
theorem d_Di_init_23 : decode prog_3_method_1_code 23 = .ok (.newarray .int, 2) := by decide +kernel
theorem d_Di_init_25 : decode prog_3_method_1_code 25 = .ok (.putfield 18, 3) := by decide +kernel
theorem d_Di_init_28 : decode prog_3_method_1_code 28 = .ok (.aload_n 0, 1) := by decide +kernel
theorem d_Di_init_29 : decode prog_3_method_1_code 29 = .ok (.aload_n 1, 1) := by decide +kernel
theorem d_Di_init_30 : decode prog_3_method_1_code 30 = .ok (.putfield 21, 3) := by decide +kernel
theorem d_Di_init_33 : decode prog_3_method_1_code 33 = .ok (.return_, 1) := by decide +kernel
theorem d_In_init_0 : decode prog_5_method_1_code 0 = .ok (.aload_n 0, 1) := by decide +kernel
theorem d_In_init_1 : decode prog_5_method_1_code 1 = .ok (.invokespecial 1, 3) := by decide +kernel
theorem d_In_init_4 : decode prog_5_method_1_code 4 = .ok (.aload_n 0, 1) := by decide +kernel
theorem d_In_init_5 : decode prog_5_method_1_code 5 = .ok (.iconst 4, 1) := by decide +kernel
theorem d_In_init_6 : decode prog_5_method_1_code 6 = .ok (.newarray .int, 2) := by decide +kernel
theorem d_In_init_8 : decode prog_5_method_1_code 8 = .ok (.putfield 7, 3) := by decide +kernel
theorem d_In_init_11 : decode prog_5_method_1_code 11 = .ok (.aload_n 0, 1) := by decide +kernel
theorem d_In_init_12 : decode prog_5_method_1_code 12 = .ok (.aload_n 1, 1) := by decide +kernel
theorem d_In_init_13 : decode prog_5_method_1_code 13 = .ok (.putfield 13, 3) := by decide +kernel
theorem d_In_init_16 : decode prog_5_method_1_code 16 = .ok (.aload_n 0, 1) := by decide +kernel
theorem d_In_init_17 : decode prog_5_method_1_code 17 = .ok (.aload_n 2, 1) := by decide +kernel
theorem d_In_init_18 : decode prog_5_method_1_code 18 = .ok (.putfield 17, 3) := by decide +kernel
theorem d_In_init_21 : decode prog_5_method_1_code 21 = .ok (.return_, 1) := by decide +kernel
theorem d_As_init_0 : decode prog_2_method_1_code 0 = .ok (.aload_n 0, 1) := by decide +kernel
theorem d_As_init_1 : decode prog_2_method_1_code 1 = .ok (.invokespecial 1, 3) := by decide +kernel
theorem d_As_init_4 : decode prog_2_method_1_code 4 = .ok (.aload_n 0, 1) := by decide +kernel
theorem d_As_init_5 : decode prog_2_method_1_code 5 = .ok (.new 7, 3) := by decide +kernel
theorem d_As_init_8 : decode prog_2_method_1_code 8 = .ok (.dup, 1) := by decide +kernel
theorem d_As_init_9 : decode prog_2_method_1_code 9 = .ok (.invokespecial 9, 3) := by decide +kernel
theorem d_As_init_12 : decode prog_2_method_1_code 12 = .ok (.putfield 10, 3) := by decide +kernel
theorem d_As_init_15 : decode prog_2_method_1_code 15 = .ok (.aload_n 0, 1) := by decide +kernel
theorem d_As_init_16 : decode prog_2_method_1_code 16 = .ok (.new 16, 3) := by decide +kernel
theorem d_As_init_19 : decode prog_2_method_1_code 19 = .ok (.dup, 1) := by decide +kernel
theorem d_As_init_20 : decode prog_2_method_1_code 20 = .ok (.invokespecial 18, 3) := by decide +kernel
theorem d_As_init_23 : decode prog_2_method_1_code 23 = .ok (.putfield 19, 3) := by decide +kernel
theorem d_As_init_26 : decode prog_2_method_1_code 26 = .ok (.return_, 1) := by decide +kernel
theorem d_En_init_0 : decode prog_4_method_1_code 0 = .ok (.aload_n 0, 1) := by decide +kernel
theorem d_En_init_1 : decode prog_4_method_1_code 1 = .ok (.invokespecial 1, 3) := by decide +kernel
theorem d_En_init_4 : decode prog_4_method_1_code 4 = .ok (.aload_n 0, 1) := by decide +kernel
theorem d_En_init_5 : decode prog_4_method_1_code 5 = .ok (.new 7, 3) := by decide +kernel
theorem d_En_init_8 : decode prog_4_method_1_code 8 = .ok (.dup, 1) := by decide +kernel
theorem d_En_init_9 : decode prog_4_method_1_code 9 = .ok (.invokespecial 9, 3) := by decide +kernel
theorem d_En_init_12 : decode prog_4_method_1_code 12 = .ok (.putfield 10, 3) := by decide +kernel
theorem d_En_init_15 : decode prog_4_method_1_code 15 = .ok (.aload_n 0, 1) := by decide +kernel
theorem d_En_init_16 : decode prog_4_method_1_code 16 = .ok (.bipush 15, 2) := by decide +kernel
theorem d_En_init_18 : decode prog_4_method_1_code 18 = .ok (.newarray .int, 2) := by decide +kernel
theorem d_En_init_20 : decode prog_4_method_1_code 20 = .ok (.putfield 18, 3) := by decide +kernel
theorem d_En_init_23 : decode prog_4_method_1_code 23 = .ok (.aload_n 0, 1) := by decide +kernel
theorem d_En_init_24 : decode prog_4_method_1_code 24 = .ok (.iconst (-1), 1) := by decide +kernel
theorem d_En_init_25 : decode prog_4_method_1_code 25 = .ok (.putfield 22, 3) := by decide +kernel
theorem d_En_init_28 : decode prog_4_method_1_code 28 = .ok (.new 26, 3) := by decide +kernel
theorem d_En_init_31 : decode prog_4_method_1_code 31 = .ok (.dup, 1) := by decide +kernel
theorem d_En_init_32 : decode prog_4_method_1_code 32 = .ok (.aload_n 1, 1) := by decide +kernel
theorem d_En_init_33 : decode prog_4_method_1_code 33 = .ok (.aload_n 3, 1) := by decide +kernel
theorem d_En_init_34 : decode prog_4_method_1_code 34 = .ok (.invokespecial 28, 3) := by decide +kernel
theorem d_En_init_37 : decode prog_4_method_1_code 37 = .ok (.astore 5, 2) := by decide +kernel
theorem d_En_init_39 : decode prog_4_method_1_code 39 = .ok (.aload_n 0, 1) := by decide +kernel
theorem d_En_init_40 : decode prog_4_method_1_code 40 = .ok (.aload_n 1, 1) := by decide +kernel
theorem d_En_init_41 : decode prog_4_method_1_code 41 = .ok (.putfield 31, 3) := by decide +kernel
theorem d_En_init_44 : decode prog_4_method_1_code 44 = .ok (.aload_n 0, 1) := by decide +kernel
theorem d_En_init_45 : decode prog_4_method_1_code 45 = .ok (.aload_n 2, 1) := by decide +kernel
theorem d_En_init_46 : decode prog_4_method_1_code 46 = .ok (.putfield 35, 3) := by decide +kernel
theorem d_En_init_49 : decode prog_4_method_1_code 49 = .ok (.aload_n 0, 1) := by decide +kernel
theorem d_En_init_50 : decode prog_4_method_1_code 50 = .ok (.aload_n 3, 1) := by decide +kernel
theorem d_En_init_51 : decode prog_4_method_1_code 51 = .ok (.putfield 39, 3) := by decide +kernel
theorem d_En_init_54 : decode prog_4_method_1_code 54 = .ok (.aload_n 0, 1) := by decide +kernel
theorem d_En_init_55 : decode prog_4_method_1_code 55 = .ok (.aload 4, 2) := by decide +kernel
theorem d_En_init_57 : decode prog_4_method_1_code 57 = .ok (.putfield 43, 3) := by decide +kernel
theorem d_En_init_60 : decode prog_4_method_1_code 60 = .ok (.aload_n 0, 1) := by decide +kernel
theorem d_En_init_61 : decode prog_4_method_1_code 61 = .ok (.aload 5, 2) := by decide +kernel
theorem d_En_init_63 : decode prog_4_method_1_code 63 = .ok (.putfield 47, 3) := by decide +kernel
theorem d_En_init_66 : decode prog_4_method_1_code 66 = .ok (.aload_n 0, 1) := by decide +kernel
theorem d_En_init_67 : decode prog_4_method_1_code 67 = .ok (.new 51, 3) := by decide +kernel
theorem d_En_init_70 : decode prog_4_method_1_code 70 = .ok (.dup, 1) := by decide +kernel
theorem d_En_init_71 : decode prog_4_method_1_code 71 = .ok (.aload_n 1, 1) := by decide +kernel
theorem d_En_init_72 : decode prog_4_method_1_code 72 = .ok (.invokespecial 53, 3) := by decide +kernel
theorem d_En_init_75 : decode prog_4_method_1_code 75 = .ok (.putfield 56, 3) := by decide +kernel
theorem d_En_init_78 : decode prog_4_method_1_code 78 = .ok (.aload_n 0, 1) := by decide +kernel
theorem d_En_init_79 : decode prog_4_method_1_code 79 = .ok (.new 60, 3) := by decide +kernel
theorem d_En_init_82 : decode prog_4_method_1_code 82 = .ok (.dup, 1) := by decide +kernel
theorem d_En_init_83 : decode prog_4_method_1_code 83 = .ok (.aload_n 1, 1) := by decide +kernel
theorem d_En_init_84 : decode prog_4_method_1_code 84 = .ok (.invokespecial 62, 3) := by decide +kernel
theorem d_En_init_87 : decode prog_4_method_1_code 87 = .ok (.putfield 63, 3) := by decide +kernel
theorem d_En_init_90 : decode prog_4_method_1_code 90 = .ok (.aload_n 0, 1) := by decide +kernel
theorem d_En_init_91 : decode prog_4_method_1_code 91 = .ok (.new 67, 3) := by decide +kernel
theorem d_En_init_94 : decode prog_4_method_1_code 94 = .ok (.dup, 1) := by decide +kernel
theorem d_En_init_95 : decode prog_4_method_1_code 95 = .ok (.aload_n 1, 1) := by decide +kernel
theorem d_En_init_96 : decode prog_4_method_1_code 96 = .ok (.aload 5, 2) := by decide +kernel
theorem d_En_init_98 : decode prog_4_method_1_code 98 = .ok (.invokespecial 69, 3) := by decide +kernel
theorem d_En_init_101 : decode prog_4_method_1_code 101 = .ok (.putfield 72, 3) := by decide +kernel
theorem d_En_init_104 : decode prog_4_method_1_code 104 = .ok (.return_, 1) := by decide +kernel
theorem d_SM_init_0 : decode prog_1_method_1_code 0 = .ok (.aload_n 0, 1) := by decide +kernel
theorem d_SM_init_1 : decode prog_1_method_1_code 1 = .ok (.invokespecial 1, 3) := by decide +kernel
theorem d_SM_init_4 : decode prog_1_method_1_code 4 = .ok (.new 7, 3) := by decide +kernel
theorem d_SM_init_7 : decode prog_1_method_1_code 7 = .ok (.dup, 1) := by decide +kernel
theorem d_SM_init_8 : decode prog_1_method_1_code 8 = .ok (.invokespecial 9, 3) := by decide +kernel
theorem d_SM_init_11 : decode prog_1_method_1_code 11 = .ok (.astore_n 1, 1) := by decide +kernel
theorem d_SM_init_12 : decode prog_1_method_1_code 12 = .ok (.new 10, 3) := by decide +kernel
theorem d_SM_init_15 : decode prog_1_method_1_code 15 = .ok (.dup, 1) := by decide +kernel
theorem d_SM_init_16 : decode prog_1_method_1_code 16 = .ok (.invokespecial 12, 3) := by decide +kernel
theorem d_SM_init_19 : decode prog_1_method_1_code 19 = .ok (.astore_n 2, 1) := by decide +kernel
theorem d_SM_init_20 : decode prog_1_method_1_code 20 = .ok (.new 13, 3) := by decide +kernel
theorem d_SM_init_23 : decode prog_1_method_1_code 23 = .ok (.dup, 1) := by decide +kernel
theorem d_SM_init_24 : decode prog_1_method_1_code 24 = .ok (.invokespecial 15, 3) := by decide +kernel
theorem d_SM_init_27 : decode prog_1_method_1_code 27 = .ok (.astore_n 3, 1) := by decide +kernel
theorem d_SM_init_28 : decode prog_1_method_1_code 28 = .ok (.new 16, 3) := by decide +kernel
theorem d_SM_init_31 : decode prog_1_method_1_code 31 = .ok (.dup, 1) := by decide +kernel
theorem d_SM_init_32 : decode prog_1_method_1_code 32 = .ok (.aload_n 1, 1) := by decide +kernel
theorem d_SM_init_33 : decode prog_1_method_1_code 33 = .ok (.invokespecial 18, 3) := by decide +kernel
theorem d_SM_init_36 : decode prog_1_method_1_code 36 = .ok (.astore 4, 2) := by decide +kernel
theorem d_SM_init_38 : decode prog_1_method_1_code 38 = .ok (.aload_n 0, 1) := by decide +kernel
theorem d_SM_init_39 : decode prog_1_method_1_code 39 = .ok (.aload_n 1, 1) := by decide +kernel
theorem d_SM_init_40 : decode prog_1_method_1_code 40 = .ok (.putfield 21, 3) := by decide +kernel
theorem d_SM_init_43 : decode prog_1_method_1_code 43 = .ok (.aload_n 0, 1) := by decide +kernel
theorem d_SM_init_44 : decode prog_1_method_1_code 44 = .ok (.aload_n 2, 1) := by decide +kernel
theorem d_SM_init_45 : decode prog_1_method_1_code 45 = .ok (.putfield 27, 3) := by decide +kernel
theorem d_SM_init_48 : decode prog_1_method_1_code 48 = .ok (.aload_n 0, 1) := by decide +kernel
theorem d_SM_init_49 : decode prog_1_method_1_code 49 = .ok (.aload_n 3, 1) := by decide +kernel
theorem d_SM_init_50 : decode prog_1_method_1_code 50 = .ok (.putfield 31, 3) := by decide +kernel
theorem d_SM_init_53 : decode prog_1_method_1_code 53 = .ok (.aload_n 0, 1) := by decide +kernel
theorem d_SM_init_54 : decode prog_1_method_1_code 54 = .ok (.aload 4, 2) := by decide +kernel
theorem d_SM_init_56 : decode prog_1_method_1_code 56 = .ok (.putfield 35, 3) := by decide +kernel
theorem d_SM_init_59 : decode prog_1_method_1_code 59 = .ok (.aload_n 0, 1) := by decide +kernel
theorem d_SM_init_60 : decode prog_1_method_1_code 60 = .ok (.new 39, 3) := by decide +kernel
theorem d_SM_init_63 : decode prog_1_method_1_code 63 = .ok (.dup, 1) := by decide +kernel
theorem d_SM_init_64 : decode prog_1_method_1_code 64 = .ok (.aload_n 1, 1) := by decide +kernel
theorem d_SM_init_65 : decode prog_1_method_1_code 65 = .ok (.aload_n 2, 1) := by decide +kernel
theorem d_SM_init_66 : decode prog_1_method_1_code 66 = .ok (.aload_n 3, 1) := by decide +kernel
theorem d_SM_init_67 : decode prog_1_method_1_code 67 = .ok (.aload 4, 2) := by decide +kernel
theorem d_SM_init_69 : decode prog_1_method_1_code 69 = .ok (.invokespecial 41, 3) := by decide +kernel
theorem d_SM_init_72 : decode prog_1_method_1_code 72 = .ok (.putfield 44, 3) := by decide +kernel
theorem d_SM_init_75 : decode prog_1_method_1_code 75 = .ok (.return_, 1) := by decide +kernel
theorem d_Mo_init_0 : decode prog_13_method_1_code 0 = .ok (.aload_n 0, 1) := by decide +kernel
theorem d_Mo_init_1 : decode prog_13_method_1_code 1 = .ok (.invokespecial 1, 3) := by decide +kernel
theorem d_Mo_init_4 : decode prog_13_method_1_code 4 = .ok (.aload_n 0, 1) := by decide +kernel
theorem d_Mo_init_5 : decode prog_13_method_1_code 5 = .ok (.sipush 512, 3) := by decide +kernel
theorem d_Mo_init_8 : decode prog_13_method_1_code 8 = .ok (.newarray .int, 2) := by decide +kernel
theorem d_Mo_init_10 : decode prog_13_method_1_code 10 = .ok (.putfield 7, 3) := by decide +kernel
theorem d_Mo_init_13 : decode prog_13_method_1_code 13 = .ok (.aload_n 0, 1) := by decide +kernel
theorem d_Mo_init_14 : decode prog_13_method_1_code 14 = .ok (.bipush 48, 2) := by decide +kernel
theorem d_Mo_init_16 : decode prog_13_method_1_code 16 = .ok (.newarray .int, 2) := by decide +kernel
theorem d_Mo_init_18 : decode prog_13_method_1_code 18 = .ok (.putfield 13, 3) := by decide +kernel
theorem d_Mo_init_21 : decode prog_13_method_1_code 21 = .ok (.aload_n 0, 1) := by decide +kernel
theorem d_Mo_init_22 : decode prog_13_method_1_code 22 = .ok (.bipush 11, 2) := by decide +kernel
theorem d_Mo_init_24 : decode prog_13_method_1_code 24 = .ok (.newarray .int, 2) := by decide +kernel
theorem d_Mo_init_26 : decode prog_13_method_1_code 26 = .ok (.putfield 16, 3) := by decide +kernel
theorem d_Mo_init_29 : decode prog_13_method_1_code 29 = .ok (.aload_n 0, 1) := by decide +kernel
theorem d_Mo_init_30 : decode prog_13_method_1_code 30 = .ok (.bipush 11, 2) := by decide +kernel
theorem d_Mo_init_32 : decode prog_13_method_1_code 32 = .ok (.newarray .int, 2) := by decide +kernel
theorem d_Mo_init_34 : decode prog_13_method_1_code 34 = .ok (.putfield 19, 3) := by decide +kernel
theorem d_Mo_init_37 : decode prog_13_method_1_code 37 = .ok (.aload_n 0, 1) := by decide +kernel
theorem d_Mo_init_38 : decode prog_13_method_1_code 38 = .ok (.bipush 11, 2) := by decide +kernel
theorem d_Mo_init_40 : decode prog_13_method_1_code 40 = .ok (.newarray .int, 2) := by decide +kernel
theorem d_Mo_init_42 : decode prog_13_method_1_code 42 = .ok (.putfield 22, 3) := by decide +kernel
theorem d_Mo_init_45 : decode prog_13_method_1_code 45 = .ok (.aload_n 0, 1) := by decide +kernel
theorem d_Mo_init_46 : decode prog_13_method_1_code 46 = .ok (.bipush 11, 2) := by decide +kernel
theorem d_Mo_init_48 : decode prog_13_method_1_code 48 = .ok (.newarray .int, 2) := by decide +kernel
theorem d_Mo_init_50 : decode prog_13_method_1_code 50 = .ok (.putfield 25, 3) := by decide +kernel
theorem d_Mo_init_53 : decode prog_13_method_1_code 53 = .ok (.aload_n 0, 1) := by decide +kernel
theorem d_Mo_init_54 : decode prog_13_method_1_code 54 = .ok (.sipush 165, 3) := by decide +kernel
theorem d_Mo_init_57 : decode prog_13_method_1_code 57 = .ok (.newarray .int, 2) := by decide +kernel
theorem d_Mo_init_59 : decode prog_13_method_1_code 59 = .ok (.putfield 28, 3) := by decide +kernel
theorem d_Mo_init_62 : decode prog_13_method_1_code 62 = .ok (.aload_n 0, 1) := by decide +kernel
theorem d_Mo_init_63 : decode prog_13_method_1_code 63 = .ok (.sipush 512, 3) := by decide +kernel
theorem d_Mo_init_66 : decode prog_13_method_1_code 66 = .ok (.newarray .int, 2) := by decide +kernel
theorem d_Mo_init_68 : decode prog_13_method_1_code 68 = .ok (.putfield 31, 3) := by decide +kernel
theorem d_Mo_init_71 : decode prog_13_method_1_code 71 = .ok (.aload_n 0, 1) := by decide +kernel
theorem d_Mo_init_72 : decode prog_13_method_1_code 72 = .ok (.bipush 48, 2) := by decide +kernel
theorem d_Mo_init_74 : decode prog_13_method_1_code 74 = .ok (.newarray .int, 2) := by decide +kernel
theorem d_Mo_init_76 : decode prog_13_method_1_code 76 = .ok (.putfield 34, 3) := by decide +kernel
theorem d_Mo_init_79 : decode prog_13_method_1_code 79 = .ok (.aload_n 0, 1) := by decide +kernel
theorem d_Mo_init_80 : decode prog_13_method_1_code 80 = .ok (.bipush 11, 2) := by decide +kernel
theorem d_Mo_init_82 : decode prog_13_method_1_code 82 = .ok (.newarray .int, 2) := by decide +kernel
theorem d_Mo_init_84 : decode prog_13_method_1_code 84 = .ok (.putfield 37, 3) := by decide +kernel
theorem d_Mo_init_87 : decode prog_13_method_1_code 87 = .ok (.aload_n 0, 1) := by decide +kernel
theorem d_Mo_init_88 : decode prog_13_method_1_code 88 = .ok (.bipush 11, 2) := by decide +kernel
theorem d_Mo_init_90 : decode prog_13_method_1_code 90 = .ok (.newarray .int, 2) := by decide +kernel
theorem d_Mo_init_92 : decode prog_13_method_1_code 92 = .ok (.putfield 40, 3) := by decide +kernel
theorem d_Mo_init_95 : decode prog_13_method_1_code 95 = .ok (.aload_n 0, 1) := by decide +kernel
theorem d_Mo_init_96 : decode prog_13_method_1_code 96 = .ok (.bipush 11, 2) := by decide +kernel
theorem d_Mo_init_98 : decode prog_13_method_1_code 98 = .ok (.newarray .int, 2) := by decide +kernel
theorem d_Mo_init_100 : decode prog_13_method_1_code 100 = .ok (.putfield 43, 3) := by decide +kernel
theorem d_Mo_init_103 : decode prog_13_method_1_code 103 = .ok (.aload_n 0, 1) := by decide +kernel
theorem d_Mo_init_104 : decode prog_13_method_1_code 104 = .ok (.bipush 11, 2) := by decide +kernel
theorem d_Mo_init_106 : decode prog_13_method_1_code 106 = .ok (.newarray .int, 2) := by decide +kernel
theorem d_Mo_init_108 : decode prog_13_method_1_code 108 = .ok (.putfield 46, 3) := by decide +kernel
theorem d_Mo_init_111 : decode prog_13_method_1_code 111 = .ok (.aload_n 0, 1) := by decide +kernel
theorem d_Mo_init_112 : decode prog_13_method_1_code 112 = .ok (.sipush 165, 3) := by decide +kernel
theorem d_Mo_init_115 : decode prog_13_method_1_code 115 = .ok (.newarray .int, 2) := by decide +kernel
theorem d_Mo_init_117 : decode prog_13_method_1_code 117 = .ok (.putfield 49, 3) := by decide +kernel
theorem d_Mo_init_120 : decode prog_13_method_1_code 120 = .ok (.aload_n 0, 1) := by decide +kernel
theorem d_Mo_init_121 : decode prog_13_method_1_code 121 = .ok (.bipush 64, 2) := by decide +kernel
theorem d_Mo_init_123 : decode prog_13_method_1_code 123 = .ok (.newarray .int, 2) := by decide +kernel
theorem d_Mo_init_125 : decode prog_13_method_1_code 125 = .ok (.putfield 52, 3) := by decide +kernel
theorem d_Mo_init_128 : decode prog_13_method_1_code 128 = .ok (.aload_n 0, 1) := by decide +kernel
theorem d_Mo_init_129 : decode prog_13_method_1_code 129 = .ok (.bipush 24, 2) := by decide +kernel
theorem d_Mo_init_131 : decode prog_13_method_1_code 131 = .ok (.newarray .int, 2) := by decide +kernel
theorem d_Mo_init_133 : decode prog_13_method_1_code 133 = .ok (.putfield 55, 3) := by decide +kernel
theorem d_Mo_init_136 : decode prog_13_method_1_code 136 = .ok (.aload_n 0, 1) := by decide +kernel
theorem d_Mo_init_137 : decode prog_13_method_1_code 137 = .ok (.bipush 24, 2) := by decide +kernel
theorem d_Mo_init_139 : decode prog_13_method_1_code 139 = .ok (.newarray .int, 2) := by decide +kernel
theorem d_Mo_init_141 : decode prog_13_method_1_code 141 = .ok (.putfield 58, 3) := by decide +kernel
theorem d_Mo_init_144 : decode prog_13_method_1_code 144 = .ok (.aload_n 0, 1) := by decide +kernel
theorem d_Mo_init_145 : decode prog_13_method_1_code 145 = .ok (.iconst 4, 1) := by decide +kernel
theorem d_Mo_init_146 : decode prog_13_method_1_code 146 = .ok (.newarray .int, 2) := by decide +kernel
theorem d_Mo_init_148 : decode prog_13_method_1_code 148 = .ok (.putfield 61, 3) := by decide +kernel
theorem d_Mo_init_151 : decode prog_13_method_1_code 151 = .ok (.aload_n 0, 1) := by decide +kernel
theorem d_Mo_init_152 : decode prog_13_method_1_code 152 = .ok (.bipush 6, 2) := by decide +kernel
theorem d_Mo_init_154 : decode prog_13_method_1_code 154 = .ok (.newarray .int, 2) := by decide +kernel
theorem d_Mo_init_156 : decode prog_13_method_1_code 156 = .ok (.putfield 64, 3) := by decide +kernel
theorem d_Mo_init_159 : decode prog_13_method_1_code 159 = .ok (.aload_n 0, 1) := by decide +kernel
theorem d_Mo_init_160 : decode prog_13_method_1_code 160 = .ok (.bipush 24, 2) := by decide +kernel
theorem d_Mo_init_162 : decode prog_13_method_1_code 162 = .ok (.newarray .int, 2) := by decide +kernel
theorem d_Mo_init_164 : decode prog_13_method_1_code 164 = .ok (.putfield 67, 3) := by decide +kernel
theorem d_Mo_init_167 : decode prog_13_method_1_code 167 = .ok (.aload_n 0, 1) := by decide +kernel
theorem d_Mo_init_168 : decode prog_13_method_1_code 168 = .ok (.bipush 24, 2) := by decide +kernel
theorem d_Mo_init_170 : decode prog_13_method_1_code 170 = .ok (.newarray .int, 2) := by decide +kernel
theorem d_Mo_init_172 : decode prog_13_method_1_code 172 = .ok (.putfield 70, 3) := by decide +kernel
theorem d_Mo_init_175 : decode prog_13_method_1_code 175 = .ok (.return_, 1) := by decide +kernel
theorem d_SM_packed_0 : decode prog_1_method_14_code 0 = .ok (.lload_n 0, 1) := by decide +kernel
theorem d_SM_packed_1 : decode prog_1_method_14_code 1 = .ok (.bipush 8, 2) := by decide +kernel
theorem d_SM_packed_3 : decode prog_1_method_14_code 3 = .ok (.iload_n 2, 1) := by decide +kernel
theorem d_SM_packed_4 : decode prog_1_method_14_code 4 = .ok (.iconst 1, 1) := by decide +kernel
theorem d_SM_packed_5 : decode prog_1_method_14_code 5 = .ok (.isub, 1) := by decide +kernel
theorem d_SM_packed_6 : decode prog_1_method_14_code 6 = .ok (.iload_n 3, 1) := by decide +kernel
theorem d_SM_packed_7 : decode prog_1_method_14_code 7 = .ok (.isub, 1) := by decide +kernel
theorem d_SM_packed_8 : decode prog_1_method_14_code 8 = .ok (.imul, 1) := by decide +kernel
theorem d_SM_packed_9 : decode prog_1_method_14_code 9 = .ok (.lshr, 1) := by decide +kernel
theorem d_SM_packed_10 : decode prog_1_method_14_code 10 = .ok (.l2i, 1) := by decide +kernel
theorem d_SM_packed_11 : decode prog_1_method_14_code 11 = .ok (.sipush 255, 3) := by decide +kernel
theorem d_SM_packed_14 : decode prog_1_method_14_code 14 = .ok (.iand, 1) := by decide +kernel
theorem d_SM_packed_15 : decode prog_1_method_14_code 15 = .ok (.ireturn, 1) := by decide +kernel
theorem d_SM_poke_0 : decode prog_1_method_2_code 0 = .ok (.iload 4, 2) := by decide +kernel
theorem d_SM_poke_2 : decode prog_1_method_2_code 2 = .ok (.iconst 1, 1) := by decide +kernel
theorem d_SM_poke_3 : decode prog_1_method_2_code 3 = .ok (.if_icmp .lt 24, 3) := by decide +kernel
theorem d_SM_poke_6 : decode prog_1_method_2_code 6 = .ok (.iload 4, 2) := by decide +kernel
theorem d_SM_poke_8 : decode prog_1_method_2_code 8 = .ok (.bipush 8, 2) := by decide +kernel
theorem d_SM_poke_10 : decode prog_1_method_2_code 10 = .ok (.if_icmp .gt 17, 3) := by decide +kernel
theorem d_SM_poke_13 : decode prog_1_method_2_code 13 = .ok (.iload_n 1, 1) := by decide +kernel
theorem d_SM_poke_14 : decode prog_1_method_2_code 14 = .ok (.ifCond .lt 13, 3) := by decide +kernel
theorem d_SM_poke_17 : decode prog_1_method_2_code 17 = .ok (.iload_n 1, 1) := by decide +kernel
theorem d_SM_poke_18 : decode prog_1_method_2_code 18 = .ok (.sipush 512, 3) := by decide +kernel
theorem d_SM_poke_21 : decode prog_1_method_2_code 21 = .ok (.iload 4, 2) := by decide +kernel
theorem d_SM_poke_23 : decode prog_1_method_2_code 23 = .ok (.isub, 1) := by decide +kernel
theorem d_SM_poke_24 : decode prog_1_method_2_code 24 = .ok (.if_icmp .le 11, 3) := by decide +kernel
theorem d_SM_poke_27 : decode prog_1_method_2_code 27 = .ok (.new 48, 3) := by decide +kernel
theorem d_SM_poke_30 : decode prog_1_method_2_code 30 = .ok (.dup, 1) := by decide +kernel
theorem d_SM_poke_31 : decode prog_1_method_2_code 31 = .ok (.invokespecial 50, 3) := by decide +kernel
theorem d_SM_poke_34 : decode prog_1_method_2_code 34 = .ok (.athrow, 1) := by decide +kernel
theorem d_SM_poke_35 : decode prog_1_method_2_code 35 = .ok (.iconst 0, 1) := by decide +kernel
theorem d_SM_poke_36 : decode prog_1_method_2_code 36 = .ok (.istore 5, 2) := by decide +kernel
theorem d_SM_poke_38 : decode prog_1_method_2_code 38 = .ok (.iload 5, 2) := by decide +kernel
theorem d_SM_poke_40 : decode prog_1_method_2_code 40 = .ok (.iload 4, 2) := by decide +kernel
theorem d_SM_poke_42 : decode prog_1_method_2_code 42 = .ok (.if_icmp .ge 29, 3) := by decide +kernel
theorem d_SM_poke_45 : decode prog_1_method_2_code 45 = .ok (.aload_n 0, 1) := by decide +kernel
theorem d_SM_poke_46 : decode prog_1_method_2_code 46 = .ok (.getfield 21, 3) := by decide +kernel
theorem d_SM_poke_49 : decode prog_1_method_2_code 49 = .ok (.getfield 51, 3) := by decide +kernel
theorem d_SM_poke_52 : decode prog_1_method_2_code 52 = .ok (.iload_n 1, 1) := by decide +kernel
theorem d_SM_poke_53 : decode prog_1_method_2_code 53 = .ok (.iload 5, 2) := by decide +kernel
theorem d_SM_poke_55 : decode prog_1_method_2_code 55 = .ok (.iadd, 1) := by decide +kernel
theorem d_SM_poke_56 : decode prog_1_method_2_code 56 = .ok (.lload_n 2, 1) := by decide +kernel
theorem d_SM_poke_57 : decode prog_1_method_2_code 57 = .ok (.iload 4, 2) := by decide +kernel
theorem d_SM_poke_59 : decode prog_1_method_2_code 59 = .ok (.iload 5, 2) := by decide +kernel
theorem d_SM_poke_61 : decode prog_1_method_2_code 61 = .ok (.invokestatic 55, 3) := by decide +kernel
theorem d_SM_poke_64 : decode prog_1_method_2_code 64 = .ok (.iastore, 1) := by decide +kernel
theorem d_SM_poke_65 : decode prog_1_method_2_code 65 = .ok (.iinc 5 1, 3) := by decide +kernel
theorem d_SM_poke_68 : decode prog_1_method_2_code 68 = .ok (.goto (-30), 3) := by decide +kernel
theorem d_SM_poke_71 : decode prog_1_method_2_code 71 = .ok (.return_, 1) := by decide +kernel
theorem d_SM_peek_0 : decode prog_1_method_3_code 0 = .ok (.iload_n 1, 1) := by decide +kernel
theorem d_SM_peek_1 : decode prog_1_method_3_code 1 = .ok (.ifCond .lt 10, 3) := by decide +kernel
theorem d_SM_peek_4 : decode prog_1_method_3_code 4 = .ok (.iload_n 1, 1) := by decide +kernel
theorem d_SM_peek_5 : decode prog_1_method_3_code 5 = .ok (.sipush 512, 3) := by decide +kernel
theorem d_SM_peek_8 : decode prog_1_method_3_code 8 = .ok (.if_icmp .lt 11, 3) := by decide +kernel
theorem d_SM_peek_11 : decode prog_1_method_3_code 11 = .ok (.new 48, 3) := by decide +kernel
theorem d_SM_peek_14 : decode prog_1_method_3_code 14 = .ok (.dup, 1) := by decide +kernel
theorem d_SM_peek_15 : decode prog_1_method_3_code 15 = .ok (.invokespecial 50, 3) := by decide +kernel
theorem d_SM_peek_18 : decode prog_1_method_3_code 18 = .ok (.athrow, 1) := by decide +kernel
theorem d_SM_peek_19 : decode prog_1_method_3_code 19 = .ok (.aload_n 0, 1) := by decide +kernel
theorem d_SM_peek_20 : decode prog_1_method_3_code 20 = .ok (.getfield 21, 3) := by decide +kernel
theorem d_SM_peek_23 : decode prog_1_method_3_code 23 = .ok (.getfield 51, 3) := by decide +kernel
theorem d_SM_peek_26 : decode prog_1_method_3_code 26 = .ok (.iload_n 1, 1) := by decide +kernel
theorem d_SM_peek_27 : decode prog_1_method_3_code 27 = .ok (.iaload, 1) := by decide +kernel
theorem d_SM_peek_28 : decode prog_1_method_3_code 28 = .ok (.ireturn, 1) := by decide +kernel
theorem d_Me_wordAt_0 : decode prog_7_method_3_code 0 = .ok (.iload_n 1, 1) := by decide +kernel
theorem d_Me_wordAt_1 : decode prog_7_method_3_code 1 = .ok (.ifCond .lt 10, 3) := by decide +kernel
theorem d_Me_wordAt_4 : decode prog_7_method_3_code 4 = .ok (.iload_n 1, 1) := by decide +kernel
theorem d_Me_wordAt_5 : decode prog_7_method_3_code 5 = .ok (.sipush 511, 3) := by decide +kernel
theorem d_Me_wordAt_8 : decode prog_7_method_3_code 8 = .ok (.if_icmp .lt 11, 3) := by decide +kernel
theorem d_Me_wordAt_11 : decode prog_7_method_3_code 11 = .ok (.new 13, 3) := by decide +kernel
theorem d_Me_wordAt_14 : decode prog_7_method_3_code 14 = .ok (.dup, 1) := by decide +kernel
theorem d_Me_wordAt_15 : decode prog_7_method_3_code 15 = .ok (.invokespecial 15, 3) := by decide +kernel
theorem d_Me_wordAt_18 : decode prog_7_method_3_code 18 = .ok (.athrow, 1) := by decide +kernel
theorem d_Me_wordAt_19 : decode prog_7_method_3_code 19 = .ok (.sipush 256, 3) := by decide +kernel
theorem d_Me_wordAt_22 : decode prog_7_method_3_code 22 = .ok (.aload_n 0, 1) := by decide +kernel
theorem d_Me_wordAt_23 : decode prog_7_method_3_code 23 = .ok (.getfield 9, 3) := by decide +kernel
theorem d_Me_wordAt_26 : decode prog_7_method_3_code 26 = .ok (.iload_n 1, 1) := by decide +kernel
theorem d_Me_wordAt_27 : decode prog_7_method_3_code 27 = .ok (.iaload, 1) := by decide +kernel
theorem d_Me_wordAt_28 : decode prog_7_method_3_code 28 = .ok (.imul, 1) := by decide +kernel
theorem d_Me_wordAt_29 : decode prog_7_method_3_code 29 = .ok (.aload_n 0, 1) := by decide +kernel
theorem d_Me_wordAt_30 : decode prog_7_method_3_code 30 = .ok (.getfield 9, 3) := by decide +kernel
theorem d_Me_wordAt_33 : decode prog_7_method_3_code 33 = .ok (.iload_n 1, 1) := by decide +kernel
theorem d_Me_wordAt_34 : decode prog_7_method_3_code 34 = .ok (.iconst 1, 1) := by decide +kernel
theorem d_Me_wordAt_35 : decode prog_7_method_3_code 35 = .ok (.iadd, 1) := by decide +kernel
theorem d_Me_wordAt_36 : decode prog_7_method_3_code 36 = .ok (.iaload, 1) := by decide +kernel
theorem d_Me_wordAt_37 : decode prog_7_method_3_code 37 = .ok (.iadd, 1) := by decide +kernel
theorem d_Me_wordAt_38 : decode prog_7_method_3_code 38 = .ok (.ireturn, 1) := by decide +kernel
theorem d_Ro_clear_0 : decode prog_9_method_2_code 0 = .ok (.aload_n 0, 1) := by decide +kernel
theorem d_Ro_clear_1 : decode prog_9_method_2_code 1 = .ok (.iconst 0, 1) := by decide +kernel
theorem d_Ro_clear_2 : decode prog_9_method_2_code 2 = .ok (.putfield 28, 3) := by decide +kernel
theorem d_Ro_clear_5 : decode prog_9_method_2_code 5 = .ok (.aload_n 0, 1) := by decide +kernel
theorem d_Ro_clear_6 : decode prog_9_method_2_code 6 = .ok (.iconst 0, 1) := by decide +kernel
theorem d_Ro_clear_7 : decode prog_9_method_2_code 7 = .ok (.putfield 32, 3) := by decide +kernel
theorem d_Ro_clear_10 : decode prog_9_method_2_code 10 = .ok (.aload_n 0, 1) := by decide +kernel
theorem d_Ro_clear_11 : decode prog_9_method_2_code 11 = .ok (.getfield 13, 3) := by decide +kernel
theorem d_Ro_clear_14 : decode prog_9_method_2_code 14 = .ok (.iconst 0, 1) := by decide +kernel
theorem d_Ro_clear_15 : decode prog_9_method_2_code 15 = .ok (.iconst 0, 1) := by decide +kernel
theorem d_Ro_clear_16 : decode prog_9_method_2_code 16 = .ok (.iastore, 1) := by decide +kernel
theorem d_Ro_clear_17 : decode prog_9_method_2_code 17 = .ok (.aload_n 0, 1) := by decide +kernel
theorem d_Ro_clear_18 : decode prog_9_method_2_code 18 = .ok (.getfield 22, 3) := by decide +kernel
theorem d_Ro_clear_21 : decode prog_9_method_2_code 21 = .ok (.iconst 0, 1) := by decide +kernel
theorem d_Ro_clear_22 : decode prog_9_method_2_code 22 = .ok (.iconst 0, 1) := by decide +kernel
theorem d_Ro_clear_23 : decode prog_9_method_2_code 23 = .ok (.iastore, 1) := by decide +kernel
theorem d_Ro_clear_24 : decode prog_9_method_2_code 24 = .ok (.return_, 1) := by decide +kernel
theorem d_Li_clear_0 : decode prog_6_method_2_code 0 = .ok (.aload_n 0, 1) := by decide +kernel
theorem d_Li_clear_1 : decode prog_6_method_2_code 1 = .ok (.iconst 0, 1) := by decide +kernel
theorem d_Li_clear_2 : decode prog_6_method_2_code 2 = .ok (.putfield 16, 3) := by decide +kernel
theorem d_Li_clear_5 : decode prog_6_method_2_code 5 = .ok (.aload_n 0, 1) := by decide +kernel
theorem d_Li_clear_6 : decode prog_6_method_2_code 6 = .ok (.iconst 0, 1) := by decide +kernel
theorem d_Li_clear_7 : decode prog_6_method_2_code 7 = .ok (.putfield 20, 3) := by decide +kernel
theorem d_Li_clear_10 : decode prog_6_method_2_code 10 = .ok (.return_, 1) := by decide +kernel
theorem d_En_startAt_0 : decode prog_4_method_2_code 0 = .ok (.aload_n 0, 1) := by decide +kernel
theorem d_En_startAt_1 : decode prog_4_method_2_code 1 = .ok (.iload_n 1, 1) := by decide +kernel
theorem d_En_startAt_2 : decode prog_4_method_2_code 2 = .ok (.putfield 22, 3) := by decide +kernel
theorem d_En_startAt_5 : decode prog_4_method_2_code 5 = .ok (.aload_n 0, 1) := by decide +kernel
theorem d_En_startAt_6 : decode prog_4_method_2_code 6 = .ok (.iconst 1, 1) := by decide +kernel
theorem d_En_startAt_7 : decode prog_4_method_2_code 7 = .ok (.putfield 76, 3) := by decide +kernel
theorem d_En_startAt_10 : decode prog_4_method_2_code 10 = .ok (.aload_n 0, 1) := by decide +kernel
theorem d_En_startAt_11 : decode prog_4_method_2_code 11 = .ok (.iconst 0, 1) := by decide +kernel
theorem d_En_startAt_12 : decode prog_4_method_2_code 12 = .ok (.putfield 80, 3) := by decide +kernel
theorem d_En_startAt_15 : decode prog_4_method_2_code 15 = .ok (.aload_n 0, 1) := by decide +kernel
theorem d_En_startAt_16 : decode prog_4_method_2_code 16 = .ok (.iconst 0, 1) := by decide +kernel
theorem d_En_startAt_17 : decode prog_4_method_2_code 17 = .ok (.putfield 83, 3) := by decide +kernel
theorem d_En_startAt_20 : decode prog_4_method_2_code 20 = .ok (.aload_n 0, 1) := by decide +kernel
theorem d_En_startAt_21 : decode prog_4_method_2_code 21 = .ok (.getfield 43, 3) := by decide +kernel
theorem d_En_startAt_24 : decode prog_4_method_2_code 24 = .ok (.iconst 0, 1) := by decide +kernel
theorem d_En_startAt_25 : decode prog_4_method_2_code 25 = .ok (.putfield 86, 3) := by decide +kernel
theorem d_En_startAt_28 : decode prog_4_method_2_code 28 = .ok (.aload_n 0, 1) := by decide +kernel
theorem d_En_startAt_29 : decode prog_4_method_2_code 29 = .ok (.getfield 10, 3) := by decide +kernel
theorem d_En_startAt_32 : decode prog_4_method_2_code 32 = .ok (.iconst 0, 1) := by decide +kernel
theorem d_En_startAt_33 : decode prog_4_method_2_code 33 = .ok (.putfield 91, 3) := by decide +kernel
theorem d_En_startAt_36 : decode prog_4_method_2_code 36 = .ok (.aload_n 0, 1) := by decide +kernel
theorem d_En_startAt_37 : decode prog_4_method_2_code 37 = .ok (.getfield 39, 3) := by decide +kernel
theorem d_En_startAt_40 : decode prog_4_method_2_code 40 = .ok (.invokevirtual 94, 3) := by decide +kernel
theorem d_En_startAt_43 : decode prog_4_method_2_code 43 = .ok (.aload_n 0, 1) := by decide +kernel
theorem d_En_startAt_44 : decode prog_4_method_2_code 44 = .ok (.getfield 35, 3) := by decide +kernel
theorem d_En_startAt_47 : decode prog_4_method_2_code 47 = .ok (.invokevirtual 97, 3) := by decide +kernel
theorem d_En_startAt_50 : decode prog_4_method_2_code 50 = .ok (.return_, 1) := by decide +kernel
theorem d_SM_begin_0 : decode prog_1_method_4_code 0 = .ok (.aload_n 0, 1) := by decide +kernel
theorem d_SM_begin_1 : decode prog_1_method_4_code 1 = .ok (.getfield 21, 3) := by decide +kernel
theorem d_SM_begin_4 : decode prog_1_method_4_code 4 = .ok (.iconst 4, 1) := by decide +kernel
theorem d_SM_begin_5 : decode prog_1_method_4_code 5 = .ok (.invokevirtual 59, 3) := by decide +kernel
theorem d_SM_begin_8 : decode prog_1_method_4_code 8 = .ok (.istore_n 1, 1) := by decide +kernel
theorem d_SM_begin_9 : decode prog_1_method_4_code 9 = .ok (.iload_n 1, 1) := by decide +kernel
theorem d_SM_begin_10 : decode prog_1_method_4_code 10 = .ok (.sipush 512, 3) := by decide +kernel
theorem d_SM_begin_13 : decode prog_1_method_4_code 13 = .ok (.if_icmp .lt 11, 3) := by decide +kernel
theorem d_SM_begin_16 : decode prog_1_method_4_code 16 = .ok (.new 63, 3) := by decide +kernel
theorem d_SM_begin_19 : decode prog_1_method_4_code 19 = .ok (.dup, 1) := by decide +kernel
theorem d_SM_begin_20 : decode prog_1_method_4_code 20 = .ok (.invokespecial 65, 3) := by decide +kernel
theorem d_SM_begin_23 : decode prog_1_method_4_code 23 = .ok (.athrow, 1) := by decide +kernel
theorem d_SM_begin_24 : decode prog_1_method_4_code 24 = .ok (.aload_n 0, 1) := by decide +kernel
theorem d_SM_begin_25 : decode prog_1_method_4_code 25 = .ok (.getfield 44, 3) := by decide +kernel
theorem d_SM_begin_28 : decode prog_1_method_4_code 28 = .ok (.iload_n 1, 1) := by decide +kernel
theorem d_SM_begin_29 : decode prog_1_method_4_code 29 = .ok (.invokevirtual 66, 3) := by decide +kernel
theorem d_SM_begin_32 : decode prog_1_method_4_code 32 = .ok (.return_, 1) := by decide +kernel
theorem d_SM_run_0 : decode prog_1_method_7_code 0 = .ok (.iload_n 1, 1) := by decide +kernel
theorem d_SM_run_1 : decode prog_1_method_7_code 1 = .ok (.iconst 1, 1) := by decide +kernel
theorem d_SM_run_2 : decode prog_1_method_7_code 2 = .ok (.if_icmp .lt 10, 3) := by decide +kernel
theorem d_SM_run_5 : decode prog_1_method_7_code 5 = .ok (.iload_n 1, 1) := by decide +kernel
theorem d_SM_run_6 : decode prog_1_method_7_code 6 = .ok (.sipush 300, 3) := by decide +kernel
theorem d_SM_run_9 : decode prog_1_method_7_code 9 = .ok (.if_icmp .le 11, 3) := by decide +kernel
theorem d_SM_run_12 : decode prog_1_method_7_code 12 = .ok (.new 48, 3) := by decide +kernel
theorem d_SM_run_15 : decode prog_1_method_7_code 15 = .ok (.dup, 1) := by decide +kernel
theorem d_SM_run_16 : decode prog_1_method_7_code 16 = .ok (.invokespecial 50, 3) := by decide +kernel
theorem d_SM_run_19 : decode prog_1_method_7_code 19 = .ok (.athrow, 1) := by decide +kernel
theorem d_SM_run_20 : decode prog_1_method_7_code 20 = .ok (.aload_n 0, 1) := by decide +kernel
theorem d_SM_run_21 : decode prog_1_method_7_code 21 = .ok (.getfield 44, 3) := by decide +kernel
theorem d_SM_run_24 : decode prog_1_method_7_code 24 = .ok (.getfield 80, 3) := by decide +kernel
theorem d_SM_run_27 : decode prog_1_method_7_code 27 = .ok (.ifCond .ne 11, 3) := by decide +kernel
theorem d_SM_run_30 : decode prog_1_method_7_code 30 = .ok (.new 63, 3) := by decide +kernel
theorem d_SM_run_33 : decode prog_1_method_7_code 33 = .ok (.dup, 1) := by decide +kernel
theorem d_SM_run_34 : decode prog_1_method_7_code 34 = .ok (.invokespecial 65, 3) := by decide +kernel
theorem d_SM_run_37 : decode prog_1_method_7_code 37 = .ok (.athrow, 1) := by decide +kernel
theorem d_SM_run_38 : decode prog_1_method_7_code 38 = .ok (.iconst 0, 1) := by decide +kernel
theorem d_SM_run_39 : decode prog_1_method_7_code 39 = .ok (.istore_n 2, 1) := by decide +kernel
theorem d_SM_run_40 : decode prog_1_method_7_code 40 = .ok (.iconst 0, 1) := by decide +kernel
theorem d_SM_run_41 : decode prog_1_method_7_code 41 = .ok (.istore_n 3, 1) := by decide +kernel
theorem d_SM_run_42 : decode prog_1_method_7_code 42 = .ok (.iload_n 3, 1) := by decide +kernel
theorem d_SM_run_43 : decode prog_1_method_7_code 43 = .ok (.iload_n 1, 1) := by decide +kernel
theorem d_SM_run_44 : decode prog_1_method_7_code 44 = .ok (.if_icmp .ge 21, 3) := by decide +kernel
theorem d_SM_run_47 : decode prog_1_method_7_code 47 = .ok (.iload_n 2, 1) := by decide +kernel
theorem d_SM_run_48 : decode prog_1_method_7_code 48 = .ok (.ifCond .ne 17, 3) := by decide +kernel
theorem d_SM_run_51 : decode prog_1_method_7_code 51 = .ok (.aload_n 0, 1) := by decide +kernel
theorem d_SM_run_52 : decode prog_1_method_7_code 52 = .ok (.getfield 44, 3) := by decide +kernel
theorem d_SM_run_55 : decode prog_1_method_7_code 55 = .ok (.invokevirtual 84, 3) := by decide +kernel
theorem d_SM_run_58 : decode prog_1_method_7_code 58 = .ok (.istore_n 2, 1) := by decide +kernel
theorem d_SM_run_59 : decode prog_1_method_7_code 59 = .ok (.iinc 3 1, 3) := by decide +kernel
theorem d_SM_run_62 : decode prog_1_method_7_code 62 = .ok (.goto (-20), 3) := by decide +kernel
theorem d_SM_run_65 : decode prog_1_method_7_code 65 = .ok (.iload_n 2, 1) := by decide +kernel
theorem d_SM_run_66 : decode prog_1_method_7_code 66 = .ok (.ireturn, 1) := by decide +kernel
theorem d_SM_steps_0 : decode prog_1_method_8_code 0 = .ok (.aload_n 0, 1) := by decide +kernel
theorem d_SM_steps_1 : decode prog_1_method_8_code 1 = .ok (.getfield 44, 3) := by decide +kernel
theorem d_SM_steps_4 : decode prog_1_method_8_code 4 = .ok (.getfield 88, 3) := by decide +kernel
theorem d_SM_steps_7 : decode prog_1_method_8_code 7 = .ok (.ireturn, 1) := by decide +kernel
theorem d_SM_place_0 : decode prog_1_method_9_code 0 = .ok (.aload_n 0, 1) := by decide +kernel
theorem d_SM_place_1 : decode prog_1_method_9_code 1 = .ok (.getfield 44, 3) := by decide +kernel
theorem d_SM_place_4 : decode prog_1_method_9_code 4 = .ok (.getfield 91, 3) := by decide +kernel
theorem d_SM_place_7 : decode prog_1_method_9_code 7 = .ok (.ireturn, 1) := by decide +kernel
theorem d_SM_routines_0 : decode prog_1_method_13_code 0 = .ok (.aload_n 0, 1) := by decide +kernel
theorem d_SM_routines_1 : decode prog_1_method_13_code 1 = .ok (.getfield 31, 3) := by decide +kernel
theorem d_SM_routines_4 : decode prog_1_method_13_code 4 = .ok (.getfield 115, 3) := by decide +kernel
theorem d_SM_routines_7 : decode prog_1_method_13_code 7 = .ok (.ireturn, 1) := by decide +kernel
theorem d_SM_output_0 : decode prog_1_method_10_code 0 = .ok (.iload_n 1, 1) := by decide +kernel
theorem d_SM_output_1 : decode prog_1_method_10_code 1 = .ok (.iconst (-1), 1) := by decide +kernel
theorem d_SM_output_2 : decode prog_1_method_10_code 2 = .ok (.if_icmp .lt 20, 3) := by decide +kernel
theorem d_SM_output_5 : decode prog_1_method_10_code 5 = .ok (.iload_n 1, 1) := by decide +kernel
theorem d_SM_output_6 : decode prog_1_method_10_code 6 = .ok (.bipush 64, 2) := by decide +kernel
theorem d_SM_output_8 : decode prog_1_method_10_code 8 = .ok (.if_icmp .ge 14, 3) := by decide +kernel
theorem d_SM_output_11 : decode prog_1_method_10_code 11 = .ok (.iload_n 1, 1) := by decide +kernel
theorem d_SM_output_12 : decode prog_1_method_10_code 12 = .ok (.aload_n 0, 1) := by decide +kernel
theorem d_SM_output_13 : decode prog_1_method_10_code 13 = .ok (.getfield 35, 3) := by decide +kernel
theorem d_SM_output_16 : decode prog_1_method_10_code 16 = .ok (.getfield 94, 3) := by decide +kernel
theorem d_SM_output_19 : decode prog_1_method_10_code 19 = .ok (.if_icmp .lt 11, 3) := by decide +kernel
theorem d_SM_output_22 : decode prog_1_method_10_code 22 = .ok (.new 97, 3) := by decide +kernel
theorem d_SM_output_25 : decode prog_1_method_10_code 25 = .ok (.dup, 1) := by decide +kernel
theorem d_SM_output_26 : decode prog_1_method_10_code 26 = .ok (.invokespecial 99, 3) := by decide +kernel
theorem d_SM_output_29 : decode prog_1_method_10_code 29 = .ok (.athrow, 1) := by decide +kernel
theorem d_SM_output_30 : decode prog_1_method_10_code 30 = .ok (.iload_n 1, 1) := by decide +kernel
theorem d_SM_output_31 : decode prog_1_method_10_code 31 = .ok (.iconst (-1), 1) := by decide +kernel
theorem d_SM_output_32 : decode prog_1_method_10_code 32 = .ok (.if_icmp .ne 13, 3) := by decide +kernel
theorem d_SM_output_35 : decode prog_1_method_10_code 35 = .ok (.aload_n 0, 1) := by decide +kernel
theorem d_SM_output_36 : decode prog_1_method_10_code 36 = .ok (.getfield 35, 3) := by decide +kernel
theorem d_SM_output_39 : decode prog_1_method_10_code 39 = .ok (.getfield 94, 3) := by decide +kernel
theorem d_SM_output_42 : decode prog_1_method_10_code 42 = .ok (.goto 11, 3) := by decide +kernel
theorem d_SM_output_45 : decode prog_1_method_10_code 45 = .ok (.aload_n 0, 1) := by decide +kernel
theorem d_SM_output_46 : decode prog_1_method_10_code 46 = .ok (.getfield 35, 3) := by decide +kernel
theorem d_SM_output_49 : decode prog_1_method_10_code 49 = .ok (.iload_n 1, 1) := by decide +kernel
theorem d_SM_output_50 : decode prog_1_method_10_code 50 = .ok (.invokevirtual 100, 3) := by decide +kernel
theorem d_SM_output_53 : decode prog_1_method_10_code 53 = .ok (.ireturn, 1) := by decide +kernel
theorem d_SM_stack_0 : decode prog_1_method_11_code 0 = .ok (.iload_n 1, 1) := by decide +kernel
theorem d_SM_stack_1 : decode prog_1_method_11_code 1 = .ok (.iconst (-1), 1) := by decide +kernel
theorem d_SM_stack_2 : decode prog_1_method_11_code 2 = .ok (.if_icmp .lt 14, 3) := by decide +kernel
theorem d_SM_stack_5 : decode prog_1_method_11_code 5 = .ok (.iload_n 1, 1) := by decide +kernel
theorem d_SM_stack_6 : decode prog_1_method_11_code 6 = .ok (.aload_n 0, 1) := by decide +kernel
theorem d_SM_stack_7 : decode prog_1_method_11_code 7 = .ok (.getfield 31, 3) := by decide +kernel
theorem d_SM_stack_10 : decode prog_1_method_11_code 10 = .ok (.getfield 103, 3) := by decide +kernel
theorem d_SM_stack_13 : decode prog_1_method_11_code 13 = .ok (.if_icmp .lt 11, 3) := by decide +kernel
theorem d_SM_stack_16 : decode prog_1_method_11_code 16 = .ok (.new 97, 3) := by decide +kernel
theorem d_SM_stack_19 : decode prog_1_method_11_code 19 = .ok (.dup, 1) := by decide +kernel
theorem d_SM_stack_20 : decode prog_1_method_11_code 20 = .ok (.invokespecial 99, 3) := by decide +kernel
theorem d_SM_stack_23 : decode prog_1_method_11_code 23 = .ok (.athrow, 1) := by decide +kernel
theorem d_SM_stack_24 : decode prog_1_method_11_code 24 = .ok (.iload_n 1, 1) := by decide +kernel
theorem d_SM_stack_25 : decode prog_1_method_11_code 25 = .ok (.iconst (-1), 1) := by decide +kernel
theorem d_SM_stack_26 : decode prog_1_method_11_code 26 = .ok (.if_icmp .ne 13, 3) := by decide +kernel
theorem d_SM_stack_29 : decode prog_1_method_11_code 29 = .ok (.aload_n 0, 1) := by decide +kernel
theorem d_SM_stack_30 : decode prog_1_method_11_code 30 = .ok (.getfield 31, 3) := by decide +kernel
theorem d_SM_stack_33 : decode prog_1_method_11_code 33 = .ok (.getfield 103, 3) := by decide +kernel
theorem d_SM_stack_36 : decode prog_1_method_11_code 36 = .ok (.goto 22, 3) := by decide +kernel
theorem d_SM_stack_39 : decode prog_1_method_11_code 39 = .ok (.aload_n 0, 1) := by decide +kernel
theorem d_SM_stack_40 : decode prog_1_method_11_code 40 = .ok (.getfield 31, 3) := by decide +kernel
theorem d_SM_stack_43 : decode prog_1_method_11_code 43 = .ok (.getfield 106, 3) := by decide +kernel
theorem d_SM_stack_46 : decode prog_1_method_11_code 46 = .ok (.aload_n 0, 1) := by decide +kernel
theorem d_SM_stack_47 : decode prog_1_method_11_code 47 = .ok (.getfield 31, 3) := by decide +kernel
theorem d_SM_stack_50 : decode prog_1_method_11_code 50 = .ok (.getfield 103, 3) := by decide +kernel
theorem d_SM_stack_53 : decode prog_1_method_11_code 53 = .ok (.iconst 1, 1) := by decide +kernel
theorem d_SM_stack_54 : decode prog_1_method_11_code 54 = .ok (.isub, 1) := by decide +kernel
theorem d_SM_stack_55 : decode prog_1_method_11_code 55 = .ok (.iload_n 1, 1) := by decide +kernel
theorem d_SM_stack_56 : decode prog_1_method_11_code 56 = .ok (.isub, 1) := by decide +kernel
theorem d_SM_stack_57 : decode prog_1_method_11_code 57 = .ok (.iaload, 1) := by decide +kernel
theorem d_SM_stack_58 : decode prog_1_method_11_code 58 = .ok (.ireturn, 1) := by decide +kernel
theorem d_Ro_localCount_0 : decode prog_9_method_7_code 0 = .ok (.aload_n 0, 1) := by decide +kernel
theorem d_Ro_localCount_1 : decode prog_9_method_7_code 1 = .ok (.getfield 22, 3) := by decide +kernel
theorem d_Ro_localCount_4 : decode prog_9_method_7_code 4 = .ok (.aload_n 0, 1) := by decide +kernel
theorem d_Ro_localCount_5 : decode prog_9_method_7_code 5 = .ok (.getfield 32, 3) := by decide +kernel
theorem d_Ro_localCount_8 : decode prog_9_method_7_code 8 = .ok (.iaload, 1) := by decide +kernel
theorem d_Ro_localCount_9 : decode prog_9_method_7_code 9 = .ok (.ireturn, 1) := by decide +kernel
theorem d_SM_local_0 : decode prog_1_method_12_code 0 = .ok (.iload_n 1, 1) := by decide +kernel
theorem d_SM_local_1 : decode prog_1_method_12_code 1 = .ok (.ifCond .lt 9, 3) := by decide +kernel
theorem d_SM_local_4 : decode prog_1_method_12_code 4 = .ok (.iload_n 1, 1) := by decide +kernel
theorem d_SM_local_5 : decode prog_1_method_12_code 5 = .ok (.bipush 15, 2) := by decide +kernel
theorem d_SM_local_7 : decode prog_1_method_12_code 7 = .ok (.if_icmp .le 11, 3) := by decide +kernel
theorem d_SM_local_10 : decode prog_1_method_12_code 10 = .ok (.new 97, 3) := by decide +kernel
theorem d_SM_local_13 : decode prog_1_method_12_code 13 = .ok (.dup, 1) := by decide +kernel
theorem d_SM_local_14 : decode prog_1_method_12_code 14 = .ok (.invokespecial 99, 3) := by decide +kernel
theorem d_SM_local_17 : decode prog_1_method_12_code 17 = .ok (.athrow, 1) := by decide +kernel
theorem d_SM_local_18 : decode prog_1_method_12_code 18 = .ok (.iload_n 1, 1) := by decide +kernel
theorem d_SM_local_19 : decode prog_1_method_12_code 19 = .ok (.ifCond .ne 11, 3) := by decide +kernel
theorem d_SM_local_22 : decode prog_1_method_12_code 22 = .ok (.aload_n 0, 1) := by decide +kernel
theorem d_SM_local_23 : decode prog_1_method_12_code 23 = .ok (.getfield 31, 3) := by decide +kernel
theorem d_SM_local_26 : decode prog_1_method_12_code 26 = .ok (.invokevirtual 109, 3) := by decide +kernel
theorem d_SM_local_29 : decode prog_1_method_12_code 29 = .ok (.ireturn, 1) := by decide +kernel
theorem d_SM_local_30 : decode prog_1_method_12_code 30 = .ok (.iload_n 1, 1) := by decide +kernel
theorem d_SM_local_31 : decode prog_1_method_12_code 31 = .ok (.aload_n 0, 1) := by decide +kernel
theorem d_SM_local_32 : decode prog_1_method_12_code 32 = .ok (.getfield 31, 3) := by decide +kernel
theorem d_SM_local_35 : decode prog_1_method_12_code 35 = .ok (.invokevirtual 109, 3) := by decide +kernel
theorem d_SM_local_38 : decode prog_1_method_12_code 38 = .ok (.if_icmp .gt 14, 3) := by decide +kernel
theorem d_SM_local_41 : decode prog_1_method_12_code 41 = .ok (.aload_n 0, 1) := by decide +kernel
theorem d_SM_local_42 : decode prog_1_method_12_code 42 = .ok (.getfield 31, 3) := by decide +kernel
theorem d_SM_local_45 : decode prog_1_method_12_code 45 = .ok (.iload_n 1, 1) := by decide +kernel
theorem d_SM_local_46 : decode prog_1_method_12_code 46 = .ok (.invokevirtual 112, 3) := by decide +kernel
theorem d_SM_local_49 : decode prog_1_method_12_code 49 = .ok (.goto 4, 3) := by decide +kernel
theorem d_SM_local_52 : decode prog_1_method_12_code 52 = .ok (.iconst 0, 1) := by decide +kernel
theorem d_SM_local_53 : decode prog_1_method_12_code 53 = .ok (.ireturn, 1) := by decide +kernel
theorem d_Mo_thrown_0 : decode prog_13_method_2_code 0 = .ok (.aload_n 0, 1) := by decide +kernel
theorem d_Mo_thrown_1 : decode prog_13_method_2_code 1 = .ok (.getfield 73, 3) := by decide +kernel
theorem d_Mo_thrown_4 : decode prog_13_method_2_code 4 = .ok (.ireturn, 1) := by decide +kernel
theorem d_Mo_peek_0 : decode prog_13_method_75_code 0 = .ok (.aload_n 0, 1) := by decide +kernel
theorem d_Mo_peek_1 : decode prog_13_method_75_code 1 = .ok (.iload_n 1, 1) := by decide +kernel
theorem d_Mo_peek_2 : decode prog_13_method_75_code 2 = .ok (.ifCond .lt 10, 3) := by decide +kernel
theorem d_Mo_peek_5 : decode prog_13_method_75_code 5 = .ok (.iload_n 1, 1) := by decide +kernel
theorem d_Mo_peek_6 : decode prog_13_method_75_code 6 = .ok (.sipush 511, 3) := by decide +kernel
theorem d_Mo_peek_9 : decode prog_13_method_75_code 9 = .ok (.if_icmp .le 7, 3) := by decide +kernel
theorem d_Mo_peek_12 : decode prog_13_method_75_code 12 = .ok (.iconst 1, 1) := by decide +kernel
theorem d_Mo_peek_13 : decode prog_13_method_75_code 13 = .ok (.goto 4, 3) := by decide +kernel
theorem d_Mo_peek_16 : decode prog_13_method_75_code 16 = .ok (.iconst 0, 1) := by decide +kernel
theorem d_Mo_peek_17 : decode prog_13_method_75_code 17 = .ok (.putfield 73, 3) := by decide +kernel
theorem d_Mo_peek_20 : decode prog_13_method_75_code 20 = .ok (.aload_n 0, 1) := by decide +kernel
theorem d_Mo_peek_21 : decode prog_13_method_75_code 21 = .ok (.getfield 73, 3) := by decide +kernel
theorem d_Mo_peek_24 : decode prog_13_method_75_code 24 = .ok (.ifCond .le 7, 3) := by decide +kernel
theorem d_Mo_peek_27 : decode prog_13_method_75_code 27 = .ok (.iconst 0, 1) := by decide +kernel
theorem d_Mo_peek_28 : decode prog_13_method_75_code 28 = .ok (.goto 9, 3) := by decide +kernel
theorem d_Mo_peek_31 : decode prog_13_method_75_code 31 = .ok (.aload_n 0, 1) := by decide +kernel
theorem d_Mo_peek_32 : decode prog_13_method_75_code 32 = .ok (.getfield 7, 3) := by decide +kernel
theorem d_Mo_peek_35 : decode prog_13_method_75_code 35 = .ok (.iload_n 1, 1) := by decide +kernel
theorem d_Mo_peek_36 : decode prog_13_method_75_code 36 = .ok (.iaload, 1) := by decide +kernel
theorem d_Mo_peek_37 : decode prog_13_method_75_code 37 = .ok (.ireturn, 1) := by decide +kernel
theorem d_Mo_begin_0 : decode prog_13_method_76_code 0 = .ok (.sipush 256, 3) := by decide +kernel
theorem d_Mo_begin_3 : decode prog_13_method_76_code 3 = .ok (.aload_n 0, 1) := by decide +kernel
theorem d_Mo_begin_4 : decode prog_13_method_76_code 4 = .ok (.getfield 7, 3) := by decide +kernel
theorem d_Mo_begin_7 : decode prog_13_method_76_code 7 = .ok (.iconst 4, 1) := by decide +kernel
theorem d_Mo_begin_8 : decode prog_13_method_76_code 8 = .ok (.iaload, 1) := by decide +kernel
theorem d_Mo_begin_9 : decode prog_13_method_76_code 9 = .ok (.imul, 1) := by decide +kernel
theorem d_Mo_begin_10 : decode prog_13_method_76_code 10 = .ok (.aload_n 0, 1) := by decide +kernel
theorem d_Mo_begin_11 : decode prog_13_method_76_code 11 = .ok (.getfield 7, 3) := by decide +kernel
theorem d_Mo_begin_14 : decode prog_13_method_76_code 14 = .ok (.iconst 5, 1) := by decide +kernel
theorem d_Mo_begin_15 : decode prog_13_method_76_code 15 = .ok (.iaload, 1) := by decide +kernel
theorem d_Mo_begin_16 : decode prog_13_method_76_code 16 = .ok (.iadd, 1) := by decide +kernel
theorem d_Mo_begin_17 : decode prog_13_method_76_code 17 = .ok (.istore_n 1, 1) := by decide +kernel
theorem d_Mo_begin_18 : decode prog_13_method_76_code 18 = .ok (.aload_n 0, 1) := by decide +kernel
theorem d_Mo_begin_19 : decode prog_13_method_76_code 19 = .ok (.iload_n 1, 1) := by decide +kernel
theorem d_Mo_begin_20 : decode prog_13_method_76_code 20 = .ok (.sipush 511, 3) := by decide +kernel
theorem d_Mo_begin_23 : decode prog_13_method_76_code 23 = .ok (.if_icmp .le 7, 3) := by decide +kernel
theorem d_Mo_begin_26 : decode prog_13_method_76_code 26 = .ok (.iconst 1, 1) := by decide +kernel
theorem d_Mo_begin_27 : decode prog_13_method_76_code 27 = .ok (.goto 4, 3) := by decide +kernel
theorem d_Mo_begin_30 : decode prog_13_method_76_code 30 = .ok (.iconst 0, 1) := by decide +kernel
theorem d_Mo_begin_31 : decode prog_13_method_76_code 31 = .ok (.putfield 73, 3) := by decide +kernel
theorem d_Mo_begin_34 : decode prog_13_method_76_code 34 = .ok (.aload_n 0, 1) := by decide +kernel
theorem d_Mo_begin_35 : decode prog_13_method_76_code 35 = .ok (.getfield 73, 3) := by decide +kernel
theorem d_Mo_begin_38 : decode prog_13_method_76_code 38 = .ok (.ifCond .le 4, 3) := by decide +kernel
theorem d_Mo_begin_41 : decode prog_13_method_76_code 41 = .ok (.return_, 1) := by decide +kernel
theorem d_Mo_begin_42 : decode prog_13_method_76_code 42 = .ok (.aload_n 0, 1) := by decide +kernel
theorem d_Mo_begin_43 : decode prog_13_method_76_code 43 = .ok (.iconst 1, 1) := by decide +kernel
theorem d_Mo_begin_44 : decode prog_13_method_76_code 44 = .ok (.putfield 377, 3) := by decide +kernel
theorem d_Mo_begin_47 : decode prog_13_method_76_code 47 = .ok (.aload_n 0, 1) := by decide +kernel
theorem d_Mo_begin_48 : decode prog_13_method_76_code 48 = .ok (.iload_n 1, 1) := by decide +kernel
theorem d_Mo_begin_49 : decode prog_13_method_76_code 49 = .ok (.putfield 346, 3) := by decide +kernel
theorem d_Mo_begin_52 : decode prog_13_method_76_code 52 = .ok (.aload_n 0, 1) := by decide +kernel
theorem d_Mo_begin_53 : decode prog_13_method_76_code 53 = .ok (.iconst 0, 1) := by decide +kernel
theorem d_Mo_begin_54 : decode prog_13_method_76_code 54 = .ok (.putfield 94, 3) := by decide +kernel
theorem d_Mo_begin_57 : decode prog_13_method_76_code 57 = .ok (.aload_n 0, 1) := by decide +kernel
theorem d_Mo_begin_58 : decode prog_13_method_76_code 58 = .ok (.iconst 0, 1) := by decide +kernel
theorem d_Mo_begin_59 : decode prog_13_method_76_code 59 = .ok (.putfield 97, 3) := by decide +kernel
theorem d_Mo_begin_62 : decode prog_13_method_76_code 62 = .ok (.aload_n 0, 1) := by decide +kernel
theorem d_Mo_begin_63 : decode prog_13_method_76_code 63 = .ok (.getfield 16, 3) := by decide +kernel
theorem d_Mo_begin_66 : decode prog_13_method_76_code 66 = .ok (.iconst 0, 1) := by decide +kernel
theorem d_Mo_begin_67 : decode prog_13_method_76_code 67 = .ok (.iconst 0, 1) := by decide +kernel
theorem d_Mo_begin_68 : decode prog_13_method_76_code 68 = .ok (.iastore, 1) := by decide +kernel
theorem d_Mo_begin_69 : decode prog_13_method_76_code 69 = .ok (.aload_n 0, 1) := by decide +kernel
theorem d_Mo_begin_70 : decode prog_13_method_76_code 70 = .ok (.getfield 19, 3) := by decide +kernel
theorem d_Mo_begin_73 : decode prog_13_method_76_code 73 = .ok (.iconst 0, 1) := by decide +kernel
theorem d_Mo_begin_74 : decode prog_13_method_76_code 74 = .ok (.iconst 0, 1) := by decide +kernel
theorem d_Mo_begin_75 : decode prog_13_method_76_code 75 = .ok (.iastore, 1) := by decide +kernel
theorem d_Mo_begin_76 : decode prog_13_method_76_code 76 = .ok (.aload_n 0, 1) := by decide +kernel
theorem d_Mo_begin_77 : decode prog_13_method_76_code 77 = .ok (.iconst 0, 1) := by decide +kernel
theorem d_Mo_begin_78 : decode prog_13_method_76_code 78 = .ok (.putfield 309, 3) := by decide +kernel
theorem d_Mo_begin_81 : decode prog_13_method_76_code 81 = .ok (.aload_n 0, 1) := by decide +kernel
theorem d_Mo_begin_82 : decode prog_13_method_76_code 82 = .ok (.iconst 0, 1) := by decide +kernel
theorem d_Mo_begin_83 : decode prog_13_method_76_code 83 = .ok (.putfield 120, 3) := by decide +kernel
theorem d_Mo_begin_86 : decode prog_13_method_76_code 86 = .ok (.aload_n 0, 1) := by decide +kernel
theorem d_Mo_begin_87 : decode prog_13_method_76_code 87 = .ok (.iconst 0, 1) := by decide +kernel
theorem d_Mo_begin_88 : decode prog_13_method_76_code 88 = .ok (.putfield 391, 3) := by decide +kernel
theorem d_Mo_begin_91 : decode prog_13_method_76_code 91 = .ok (.aload_n 0, 1) := by decide +kernel
theorem d_Mo_begin_92 : decode prog_13_method_76_code 92 = .ok (.iconst 0, 1) := by decide +kernel
theorem d_Mo_begin_93 : decode prog_13_method_76_code 93 = .ok (.putfield 312, 3) := by decide +kernel
theorem d_Mo_begin_96 : decode prog_13_method_76_code 96 = .ok (.aload_n 0, 1) := by decide +kernel
theorem d_Mo_begin_97 : decode prog_13_method_76_code 97 = .ok (.iconst 0, 1) := by decide +kernel
theorem d_Mo_begin_98 : decode prog_13_method_76_code 98 = .ok (.putfield 269, 3) := by decide +kernel
theorem d_Mo_begin_101 : decode prog_13_method_76_code 101 = .ok (.aload_n 0, 1) := by decide +kernel
theorem d_Mo_begin_102 : decode prog_13_method_76_code 102 = .ok (.iconst 0, 1) := by decide +kernel
theorem d_Mo_begin_103 : decode prog_13_method_76_code 103 = .ok (.putfield 380, 3) := by decide +kernel
theorem d_Mo_begin_106 : decode prog_13_method_76_code 106 = .ok (.aload_n 0, 1) := by decide +kernel
theorem d_Mo_begin_107 : decode prog_13_method_76_code 107 = .ok (.iconst 0, 1) := by decide +kernel
theorem d_Mo_begin_108 : decode prog_13_method_76_code 108 = .ok (.putfield 374, 3) := by decide +kernel
theorem d_Mo_begin_111 : decode prog_13_method_76_code 111 = .ok (.return_, 1) := by decide +kernel
theorem d_Mo_run_0 : decode prog_13_method_72_code 0 = .ok (.aload_n 0, 1) := by decide +kernel
theorem d_Mo_run_1 : decode prog_13_method_72_code 1 = .ok (.iload_n 1, 1) := by decide +kernel
theorem d_Mo_run_2 : decode prog_13_method_72_code 2 = .ok (.iconst 1, 1) := by decide +kernel
theorem d_Mo_run_3 : decode prog_13_method_72_code 3 = .ok (.if_icmp .lt 10, 3) := by decide +kernel
theorem d_Mo_run_6 : decode prog_13_method_72_code 6 = .ok (.iload_n 1, 1) := by decide +kernel
theorem d_Mo_run_7 : decode prog_13_method_72_code 7 = .ok (.sipush 300, 3) := by decide +kernel
theorem d_Mo_run_10 : decode prog_13_method_72_code 10 = .ok (.if_icmp .le 7, 3) := by decide +kernel
theorem d_Mo_run_13 : decode prog_13_method_72_code 13 = .ok (.iconst 1, 1) := by decide +kernel
theorem d_Mo_run_14 : decode prog_13_method_72_code 14 = .ok (.goto 30, 3) := by decide +kernel
theorem d_Mo_run_17 : decode prog_13_method_72_code 17 = .ok (.aload_n 0, 1) := by decide +kernel
theorem d_Mo_run_18 : decode prog_13_method_72_code 18 = .ok (.getfield 377, 3) := by decide +kernel
theorem d_Mo_run_21 : decode prog_13_method_72_code 21 = .ok (.ifCond .eq 18, 3) := by decide +kernel
theorem d_Mo_run_24 : decode prog_13_method_72_code 24 = .ok (.aload_n 0, 1) := by decide +kernel
theorem d_Mo_run_25 : decode prog_13_method_72_code 25 = .ok (.getfield 380, 3) := by decide +kernel
theorem d_Mo_run_28 : decode prog_13_method_72_code 28 = .ok (.ifCond .eq 15, 3) := by decide +kernel
theorem d_Mo_run_31 : decode prog_13_method_72_code 31 = .ok (.aload_n 0, 1) := by decide +kernel
theorem d_Mo_run_32 : decode prog_13_method_72_code 32 = .ok (.getfield 380, 3) := by decide +kernel
theorem d_Mo_run_35 : decode prog_13_method_72_code 35 = .ok (.iconst 4, 1) := by decide +kernel
theorem d_Mo_run_36 : decode prog_13_method_72_code 36 = .ok (.if_icmp .eq 7, 3) := by decide +kernel
theorem d_Mo_run_39 : decode prog_13_method_72_code 39 = .ok (.iconst 2, 1) := by decide +kernel
theorem d_Mo_run_40 : decode prog_13_method_72_code 40 = .ok (.goto 4, 3) := by decide +kernel
theorem d_Mo_run_43 : decode prog_13_method_72_code 43 = .ok (.iconst 0, 1) := by decide +kernel
theorem d_Mo_run_44 : decode prog_13_method_72_code 44 = .ok (.putfield 73, 3) := by decide +kernel
theorem d_Mo_run_47 : decode prog_13_method_72_code 47 = .ok (.aload_n 0, 1) := by decide +kernel
theorem d_Mo_run_48 : decode prog_13_method_72_code 48 = .ok (.getfield 73, 3) := by decide +kernel
theorem d_Mo_run_51 : decode prog_13_method_72_code 51 = .ok (.ifCond .le 5, 3) := by decide +kernel
theorem d_Mo_run_54 : decode prog_13_method_72_code 54 = .ok (.iconst 0, 1) := by decide +kernel
theorem d_Mo_run_55 : decode prog_13_method_72_code 55 = .ok (.ireturn, 1) := by decide +kernel
theorem d_Mo_run_56 : decode prog_13_method_72_code 56 = .ok (.aload_n 0, 1) := by decide +kernel
theorem d_Mo_run_57 : decode prog_13_method_72_code 57 = .ok (.iconst 0, 1) := by decide +kernel
theorem d_Mo_run_58 : decode prog_13_method_72_code 58 = .ok (.putfield 380, 3) := by decide +kernel
theorem d_Mo_run_61 : decode prog_13_method_72_code 61 = .ok (.iconst 0, 1) := by decide +kernel
theorem d_Mo_run_62 : decode prog_13_method_72_code 62 = .ok (.istore_n 2, 1) := by decide +kernel
theorem d_Mo_run_63 : decode prog_13_method_72_code 63 = .ok (.iload_n 2, 1) := by decide +kernel
theorem d_Mo_run_64 : decode prog_13_method_72_code 64 = .ok (.iload_n 1, 1) := by decide +kernel
theorem d_Mo_run_65 : decode prog_13_method_72_code 65 = .ok (.if_icmp .ge 50, 3) := by decide +kernel
theorem d_Mo_run_68 : decode prog_13_method_72_code 68 = .ok (.aload_n 0, 1) := by decide +kernel
theorem d_Mo_run_69 : decode prog_13_method_72_code 69 = .ok (.getfield 380, 3) := by decide +kernel
theorem d_Mo_run_72 : decode prog_13_method_72_code 72 = .ok (.ifCond .ne 43, 3) := by decide +kernel
theorem d_Mo_run_75 : decode prog_13_method_72_code 75 = .ok (.aload_n 0, 1) := by decide +kernel
theorem d_Mo_run_76 : decode prog_13_method_72_code 76 = .ok (.invokevirtual 383, 3) := by decide +kernel
theorem d_Mo_run_79 : decode prog_13_method_72_code 79 = .ok (.aload_n 0, 1) := by decide +kernel
theorem d_Mo_run_80 : decode prog_13_method_72_code 80 = .ok (.aload_n 0, 1) := by decide +kernel
theorem d_Mo_run_81 : decode prog_13_method_72_code 81 = .ok (.getfield 77, 3) := by decide +kernel
theorem d_Mo_run_84 : decode prog_13_method_72_code 84 = .ok (.ifCond .le 10, 3) := by decide +kernel
theorem d_Mo_run_87 : decode prog_13_method_72_code 87 = .ok (.aload_n 0, 1) := by decide +kernel
theorem d_Mo_run_88 : decode prog_13_method_72_code 88 = .ok (.getfield 77, 3) := by decide +kernel
theorem d_Mo_run_91 : decode prog_13_method_72_code 91 = .ok (.goto 15, 3) := by decide +kernel
theorem d_Mo_run_94 : decode prog_13_method_72_code 94 = .ok (.aload_n 0, 1) := by decide +kernel
theorem d_Mo_run_95 : decode prog_13_method_72_code 95 = .ok (.getfield 266, 3) := by decide +kernel
theorem d_Mo_run_98 : decode prog_13_method_72_code 98 = .ok (.ifCond .eq 7, 3) := by decide +kernel
theorem d_Mo_run_101 : decode prog_13_method_72_code 101 = .ok (.iconst 5, 1) := by decide +kernel
theorem d_Mo_run_102 : decode prog_13_method_72_code 102 = .ok (.goto 4, 3) := by decide +kernel
theorem d_Mo_run_105 : decode prog_13_method_72_code 105 = .ok (.iconst 0, 1) := by decide +kernel
theorem d_Mo_run_106 : decode prog_13_method_72_code 106 = .ok (.putfield 380, 3) := by decide +kernel
theorem d_Mo_run_109 : decode prog_13_method_72_code 109 = .ok (.iinc 2 1, 3) := by decide +kernel
theorem d_Mo_run_112 : decode prog_13_method_72_code 112 = .ok (.goto (-49), 3) := by decide +kernel
theorem d_Mo_run_115 : decode prog_13_method_72_code 115 = .ok (.aload_n 0, 1) := by decide +kernel
theorem d_Mo_run_116 : decode prog_13_method_72_code 116 = .ok (.getfield 380, 3) := by decide +kernel
theorem d_Mo_run_119 : decode prog_13_method_72_code 119 = .ok (.ireturn, 1) := by decide +kernel
theorem d_Mo_steps_0 : decode prog_13_method_79_code 0 = .ok (.aload_n 0, 1) := by decide +kernel
theorem d_Mo_steps_1 : decode prog_13_method_79_code 1 = .ok (.iconst 0, 1) := by decide +kernel
theorem d_Mo_steps_2 : decode prog_13_method_79_code 2 = .ok (.putfield 73, 3) := by decide +kernel
theorem d_Mo_steps_5 : decode prog_13_method_79_code 5 = .ok (.aload_n 0, 1) := by decide +kernel
theorem d_Mo_steps_6 : decode prog_13_method_79_code 6 = .ok (.getfield 374, 3) := by decide +kernel
theorem d_Mo_steps_9 : decode prog_13_method_79_code 9 = .ok (.ireturn, 1) := by decide +kernel
theorem d_Mo_place_0 : decode prog_13_method_80_code 0 = .ok (.aload_n 0, 1) := by decide +kernel
theorem d_Mo_place_1 : decode prog_13_method_80_code 1 = .ok (.iconst 0, 1) := by decide +kernel
theorem d_Mo_place_2 : decode prog_13_method_80_code 2 = .ok (.putfield 73, 3) := by decide +kernel
theorem d_Mo_place_5 : decode prog_13_method_80_code 5 = .ok (.aload_n 0, 1) := by decide +kernel
theorem d_Mo_place_6 : decode prog_13_method_80_code 6 = .ok (.getfield 377, 3) := by decide +kernel
theorem d_Mo_place_9 : decode prog_13_method_80_code 9 = .ok (.ifCond .eq 10, 3) := by decide +kernel
theorem d_Mo_place_12 : decode prog_13_method_80_code 12 = .ok (.aload_n 0, 1) := by decide +kernel
theorem d_Mo_place_13 : decode prog_13_method_80_code 13 = .ok (.getfield 346, 3) := by decide +kernel
theorem d_Mo_place_16 : decode prog_13_method_80_code 16 = .ok (.goto 4, 3) := by decide +kernel
theorem d_Mo_place_19 : decode prog_13_method_80_code 19 = .ok (.iconst (-1), 1) := by decide +kernel
theorem d_Mo_place_20 : decode prog_13_method_80_code 20 = .ok (.ireturn, 1) := by decide +kernel
theorem d_Mo_routines_0 : decode prog_13_method_84_code 0 = .ok (.aload_n 0, 1) := by decide +kernel
theorem d_Mo_routines_1 : decode prog_13_method_84_code 1 = .ok (.iconst 0, 1) := by decide +kernel
theorem d_Mo_routines_2 : decode prog_13_method_84_code 2 = .ok (.putfield 73, 3) := by decide +kernel
theorem d_Mo_routines_5 : decode prog_13_method_84_code 5 = .ok (.aload_n 0, 1) := by decide +kernel
theorem d_Mo_routines_6 : decode prog_13_method_84_code 6 = .ok (.getfield 97, 3) := by decide +kernel
theorem d_Mo_routines_9 : decode prog_13_method_84_code 9 = .ok (.ireturn, 1) := by decide +kernel
theorem d_Mo_output_0 : decode prog_13_method_81_code 0 = .ok (.aload_n 0, 1) := by decide +kernel
theorem d_Mo_output_1 : decode prog_13_method_81_code 1 = .ok (.iload_n 1, 1) := by decide +kernel
theorem d_Mo_output_2 : decode prog_13_method_81_code 2 = .ok (.iconst (-1), 1) := by decide +kernel
theorem d_Mo_output_3 : decode prog_13_method_81_code 3 = .ok (.if_icmp .lt 17, 3) := by decide +kernel
theorem d_Mo_output_6 : decode prog_13_method_81_code 6 = .ok (.iload_n 1, 1) := by decide +kernel
theorem d_Mo_output_7 : decode prog_13_method_81_code 7 = .ok (.bipush 63, 2) := by decide +kernel
theorem d_Mo_output_9 : decode prog_13_method_81_code 9 = .ok (.if_icmp .gt 11, 3) := by decide +kernel
theorem d_Mo_output_12 : decode prog_13_method_81_code 12 = .ok (.iload_n 1, 1) := by decide +kernel
theorem d_Mo_output_13 : decode prog_13_method_81_code 13 = .ok (.aload_n 0, 1) := by decide +kernel
theorem d_Mo_output_14 : decode prog_13_method_81_code 14 = .ok (.getfield 120, 3) := by decide +kernel
theorem d_Mo_output_17 : decode prog_13_method_81_code 17 = .ok (.if_icmp .lt 7, 3) := by decide +kernel
theorem d_Mo_output_20 : decode prog_13_method_81_code 20 = .ok (.iconst 1, 1) := by decide +kernel
theorem d_Mo_output_21 : decode prog_13_method_81_code 21 = .ok (.goto 4, 3) := by decide +kernel
theorem d_Mo_output_24 : decode prog_13_method_81_code 24 = .ok (.iconst 0, 1) := by decide +kernel
theorem d_Mo_output_25 : decode prog_13_method_81_code 25 = .ok (.putfield 73, 3) := by decide +kernel
theorem d_Mo_output_28 : decode prog_13_method_81_code 28 = .ok (.aload_n 0, 1) := by decide +kernel
theorem d_Mo_output_29 : decode prog_13_method_81_code 29 = .ok (.getfield 73, 3) := by decide +kernel
theorem d_Mo_output_32 : decode prog_13_method_81_code 32 = .ok (.ifCond .le 5, 3) := by decide +kernel
theorem d_Mo_output_35 : decode prog_13_method_81_code 35 = .ok (.iconst 0, 1) := by decide +kernel
theorem d_Mo_output_36 : decode prog_13_method_81_code 36 = .ok (.ireturn, 1) := by decide +kernel
theorem d_Mo_output_37 : decode prog_13_method_81_code 37 = .ok (.iload_n 1, 1) := by decide +kernel
theorem d_Mo_output_38 : decode prog_13_method_81_code 38 = .ok (.ifCond .ge 10, 3) := by decide +kernel
theorem d_Mo_output_41 : decode prog_13_method_81_code 41 = .ok (.aload_n 0, 1) := by decide +kernel
theorem d_Mo_output_42 : decode prog_13_method_81_code 42 = .ok (.getfield 120, 3) := by decide +kernel
theorem d_Mo_output_45 : decode prog_13_method_81_code 45 = .ok (.goto 19, 3) := by decide +kernel
theorem d_Mo_output_48 : decode prog_13_method_81_code 48 = .ok (.aload_n 0, 1) := by decide +kernel
theorem d_Mo_output_49 : decode prog_13_method_81_code 49 = .ok (.getfield 52, 3) := by decide +kernel
theorem d_Mo_output_52 : decode prog_13_method_81_code 52 = .ok (.aload_n 0, 1) := by decide +kernel
theorem d_Mo_output_53 : decode prog_13_method_81_code 53 = .ok (.getfield 120, 3) := by decide +kernel
theorem d_Mo_output_56 : decode prog_13_method_81_code 56 = .ok (.iconst 1, 1) := by decide +kernel
theorem d_Mo_output_57 : decode prog_13_method_81_code 57 = .ok (.isub, 1) := by decide +kernel
theorem d_Mo_output_58 : decode prog_13_method_81_code 58 = .ok (.iload_n 1, 1) := by decide +kernel
theorem d_Mo_output_59 : decode prog_13_method_81_code 59 = .ok (.isub, 1) := by decide +kernel
theorem d_Mo_output_60 : decode prog_13_method_81_code 60 = .ok (.bipush 64, 2) := by decide +kernel
theorem d_Mo_output_62 : decode prog_13_method_81_code 62 = .ok (.irem, 1) := by decide +kernel
theorem d_Mo_output_63 : decode prog_13_method_81_code 63 = .ok (.iaload, 1) := by decide +kernel
theorem d_Mo_output_64 : decode prog_13_method_81_code 64 = .ok (.ireturn, 1) := by decide +kernel
theorem d_Mo_stack_0 : decode prog_13_method_82_code 0 = .ok (.aload_n 0, 1) := by decide +kernel
theorem d_Mo_stack_1 : decode prog_13_method_82_code 1 = .ok (.iload_n 1, 1) := by decide +kernel
theorem d_Mo_stack_2 : decode prog_13_method_82_code 2 = .ok (.iconst (-1), 1) := by decide +kernel
theorem d_Mo_stack_3 : decode prog_13_method_82_code 3 = .ok (.if_icmp .lt 11, 3) := by decide +kernel
theorem d_Mo_stack_6 : decode prog_13_method_82_code 6 = .ok (.iload_n 1, 1) := by decide +kernel
theorem d_Mo_stack_7 : decode prog_13_method_82_code 7 = .ok (.aload_n 0, 1) := by decide +kernel
theorem d_Mo_stack_8 : decode prog_13_method_82_code 8 = .ok (.getfield 94, 3) := by decide +kernel
theorem d_Mo_stack_11 : decode prog_13_method_82_code 11 = .ok (.if_icmp .lt 7, 3) := by decide +kernel
theorem d_Mo_stack_14 : decode prog_13_method_82_code 14 = .ok (.iconst 1, 1) := by decide +kernel
theorem d_Mo_stack_15 : decode prog_13_method_82_code 15 = .ok (.goto 4, 3) := by decide +kernel
theorem d_Mo_stack_18 : decode prog_13_method_82_code 18 = .ok (.iconst 0, 1) := by decide +kernel
theorem d_Mo_stack_19 : decode prog_13_method_82_code 19 = .ok (.putfield 73, 3) := by decide +kernel
theorem d_Mo_stack_22 : decode prog_13_method_82_code 22 = .ok (.aload_n 0, 1) := by decide +kernel
theorem d_Mo_stack_23 : decode prog_13_method_82_code 23 = .ok (.getfield 73, 3) := by decide +kernel
theorem d_Mo_stack_26 : decode prog_13_method_82_code 26 = .ok (.ifCond .le 5, 3) := by decide +kernel
theorem d_Mo_stack_29 : decode prog_13_method_82_code 29 = .ok (.iconst 0, 1) := by decide +kernel
theorem d_Mo_stack_30 : decode prog_13_method_82_code 30 = .ok (.ireturn, 1) := by decide +kernel
theorem d_Mo_stack_31 : decode prog_13_method_82_code 31 = .ok (.iload_n 1, 1) := by decide +kernel
theorem d_Mo_stack_32 : decode prog_13_method_82_code 32 = .ok (.ifCond .ge 10, 3) := by decide +kernel
theorem d_Mo_stack_35 : decode prog_13_method_82_code 35 = .ok (.aload_n 0, 1) := by decide +kernel
theorem d_Mo_stack_36 : decode prog_13_method_82_code 36 = .ok (.getfield 94, 3) := by decide +kernel
theorem d_Mo_stack_39 : decode prog_13_method_82_code 39 = .ok (.goto 16, 3) := by decide +kernel
theorem d_Mo_stack_42 : decode prog_13_method_82_code 42 = .ok (.aload_n 0, 1) := by decide +kernel
theorem d_Mo_stack_43 : decode prog_13_method_82_code 43 = .ok (.getfield 13, 3) := by decide +kernel
theorem d_Mo_stack_46 : decode prog_13_method_82_code 46 = .ok (.aload_n 0, 1) := by decide +kernel
theorem d_Mo_stack_47 : decode prog_13_method_82_code 47 = .ok (.getfield 94, 3) := by decide +kernel
theorem d_Mo_stack_50 : decode prog_13_method_82_code 50 = .ok (.iconst 1, 1) := by decide +kernel
theorem d_Mo_stack_51 : decode prog_13_method_82_code 51 = .ok (.isub, 1) := by decide +kernel
theorem d_Mo_stack_52 : decode prog_13_method_82_code 52 = .ok (.iload_n 1, 1) := by decide +kernel
theorem d_Mo_stack_53 : decode prog_13_method_82_code 53 = .ok (.isub, 1) := by decide +kernel
theorem d_Mo_stack_54 : decode prog_13_method_82_code 54 = .ok (.iaload, 1) := by decide +kernel
theorem d_Mo_stack_55 : decode prog_13_method_82_code 55 = .ok (.ireturn, 1) := by decide +kernel
theorem d_Mo_local_0 : decode prog_13_method_83_code 0 = .ok (.aload_n 0, 1) := by decide +kernel
theorem d_Mo_local_1 : decode prog_13_method_83_code 1 = .ok (.iload_n 1, 1) := by decide +kernel
theorem d_Mo_local_2 : decode prog_13_method_83_code 2 = .ok (.ifCond .lt 9, 3) := by decide +kernel
theorem d_Mo_local_5 : decode prog_13_method_83_code 5 = .ok (.iload_n 1, 1) := by decide +kernel
theorem d_Mo_local_6 : decode prog_13_method_83_code 6 = .ok (.bipush 15, 2) := by decide +kernel
theorem d_Mo_local_8 : decode prog_13_method_83_code 8 = .ok (.if_icmp .le 7, 3) := by decide +kernel
theorem d_Mo_local_11 : decode prog_13_method_83_code 11 = .ok (.iconst 1, 1) := by decide +kernel
theorem d_Mo_local_12 : decode prog_13_method_83_code 12 = .ok (.goto 4, 3) := by decide +kernel
theorem d_Mo_local_15 : decode prog_13_method_83_code 15 = .ok (.iconst 0, 1) := by decide +kernel
theorem d_Mo_local_16 : decode prog_13_method_83_code 16 = .ok (.putfield 73, 3) := by decide +kernel
theorem d_Mo_local_19 : decode prog_13_method_83_code 19 = .ok (.aload_n 0, 1) := by decide +kernel
theorem d_Mo_local_20 : decode prog_13_method_83_code 20 = .ok (.getfield 73, 3) := by decide +kernel
theorem d_Mo_local_23 : decode prog_13_method_83_code 23 = .ok (.ifCond .le 5, 3) := by decide +kernel
theorem d_Mo_local_26 : decode prog_13_method_83_code 26 = .ok (.iconst 0, 1) := by decide +kernel
theorem d_Mo_local_27 : decode prog_13_method_83_code 27 = .ok (.ireturn, 1) := by decide +kernel
theorem d_Mo_local_28 : decode prog_13_method_83_code 28 = .ok (.iload_n 1, 1) := by decide +kernel
theorem d_Mo_local_29 : decode prog_13_method_83_code 29 = .ok (.ifCond .ne 15, 3) := by decide +kernel
theorem d_Mo_local_32 : decode prog_13_method_83_code 32 = .ok (.aload_n 0, 1) := by decide +kernel
theorem d_Mo_local_33 : decode prog_13_method_83_code 33 = .ok (.getfield 16, 3) := by decide +kernel
theorem d_Mo_local_36 : decode prog_13_method_83_code 36 = .ok (.aload_n 0, 1) := by decide +kernel
theorem d_Mo_local_37 : decode prog_13_method_83_code 37 = .ok (.getfield 97, 3) := by decide +kernel
theorem d_Mo_local_40 : decode prog_13_method_83_code 40 = .ok (.iaload, 1) := by decide +kernel
theorem d_Mo_local_41 : decode prog_13_method_83_code 41 = .ok (.goto 36, 3) := by decide +kernel
theorem d_Mo_local_44 : decode prog_13_method_83_code 44 = .ok (.iload_n 1, 1) := by decide +kernel
theorem d_Mo_local_45 : decode prog_13_method_83_code 45 = .ok (.aload_n 0, 1) := by decide +kernel
theorem d_Mo_local_46 : decode prog_13_method_83_code 46 = .ok (.getfield 16, 3) := by decide +kernel
theorem d_Mo_local_49 : decode prog_13_method_83_code 49 = .ok (.aload_n 0, 1) := by decide +kernel
theorem d_Mo_local_50 : decode prog_13_method_83_code 50 = .ok (.getfield 97, 3) := by decide +kernel
theorem d_Mo_local_53 : decode prog_13_method_83_code 53 = .ok (.iaload, 1) := by decide +kernel
theorem d_Mo_local_54 : decode prog_13_method_83_code 54 = .ok (.if_icmp .gt 22, 3) := by decide +kernel
theorem d_Mo_local_57 : decode prog_13_method_83_code 57 = .ok (.aload_n 0, 1) := by decide +kernel
theorem d_Mo_local_58 : decode prog_13_method_83_code 58 = .ok (.getfield 28, 3) := by decide +kernel
theorem d_Mo_local_61 : decode prog_13_method_83_code 61 = .ok (.bipush 15, 2) := by decide +kernel
theorem d_Mo_local_63 : decode prog_13_method_83_code 63 = .ok (.aload_n 0, 1) := by decide +kernel
theorem d_Mo_local_64 : decode prog_13_method_83_code 64 = .ok (.getfield 97, 3) := by decide +kernel
theorem d_Mo_local_67 : decode prog_13_method_83_code 67 = .ok (.imul, 1) := by decide +kernel
theorem d_Mo_local_68 : decode prog_13_method_83_code 68 = .ok (.iload_n 1, 1) := by decide +kernel
theorem d_Mo_local_69 : decode prog_13_method_83_code 69 = .ok (.iadd, 1) := by decide +kernel
theorem d_Mo_local_70 : decode prog_13_method_83_code 70 = .ok (.iconst 1, 1) := by decide +kernel
theorem d_Mo_local_71 : decode prog_13_method_83_code 71 = .ok (.isub, 1) := by decide +kernel
theorem d_Mo_local_72 : decode prog_13_method_83_code 72 = .ok (.iaload, 1) := by decide +kernel
theorem d_Mo_local_73 : decode prog_13_method_83_code 73 = .ok (.goto 4, 3) := by decide +kernel
theorem d_Mo_local_76 : decode prog_13_method_83_code 76 = .ok (.iconst 0, 1) := by decide +kernel
theorem d_Mo_local_77 : decode prog_13_method_83_code 77 = .ok (.ireturn, 1) := by decide +kernel
theorem d_Mo_copy_0 : decode prog_13_method_56_code 0 = .ok (.iconst 0, 1) := by decide +kernel
theorem d_Mo_copy_1 : decode prog_13_method_56_code 1 = .ok (.istore_n 3, 1) := by decide +kernel
theorem d_Mo_copy_2 : decode prog_13_method_56_code 2 = .ok (.iload_n 3, 1) := by decide +kernel
theorem d_Mo_copy_3 : decode prog_13_method_56_code 3 = .ok (.iload_n 2, 1) := by decide +kernel
theorem d_Mo_copy_4 : decode prog_13_method_56_code 4 = .ok (.if_icmp .ge 15, 3) := by decide +kernel
theorem d_Mo_copy_7 : decode prog_13_method_56_code 7 = .ok (.aload_n 1, 1) := by decide +kernel
theorem d_Mo_copy_8 : decode prog_13_method_56_code 8 = .ok (.iload_n 3, 1) := by decide +kernel
theorem d_Mo_copy_9 : decode prog_13_method_56_code 9 = .ok (.aload_n 0, 1) := by decide +kernel
theorem d_Mo_copy_10 : decode prog_13_method_56_code 10 = .ok (.iload_n 3, 1) := by decide +kernel
theorem d_Mo_copy_11 : decode prog_13_method_56_code 11 = .ok (.iaload, 1) := by decide +kernel
theorem d_Mo_copy_12 : decode prog_13_method_56_code 12 = .ok (.iastore, 1) := by decide +kernel
theorem d_Mo_copy_13 : decode prog_13_method_56_code 13 = .ok (.iinc 3 1, 3) := by decide +kernel
theorem d_Mo_copy_16 : decode prog_13_method_56_code 16 = .ok (.goto (-14), 3) := by decide +kernel
theorem d_Mo_copy_19 : decode prog_13_method_56_code 19 = .ok (.return_, 1) := by decide +kernel
theorem d_Mo_enter_0 : decode prog_13_method_78_code 0 = .ok (.aload_n 0, 1) := by decide +kernel
theorem d_Mo_enter_1 : decode prog_13_method_78_code 1 = .ok (.iconst 0, 1) := by decide +kernel
theorem d_Mo_enter_2 : decode prog_13_method_78_code 2 = .ok (.putfield 73, 3) := by decide +kernel
theorem d_Mo_enter_5 : decode prog_13_method_78_code 5 = .ok (.aload_n 0, 1) := by decide +kernel
theorem d_Mo_enter_6 : decode prog_13_method_78_code 6 = .ok (.aload_n 0, 1) := by decide +kernel
theorem d_Mo_enter_7 : decode prog_13_method_78_code 7 = .ok (.getfield 391, 3) := by decide +kernel
theorem d_Mo_enter_10 : decode prog_13_method_78_code 10 = .ok (.putfield 315, 3) := by decide +kernel
theorem d_Mo_enter_13 : decode prog_13_method_78_code 13 = .ok (.aload_n 0, 1) := by decide +kernel
theorem d_Mo_enter_14 : decode prog_13_method_78_code 14 = .ok (.getfield 55, 3) := by decide +kernel
theorem d_Mo_enter_17 : decode prog_13_method_78_code 17 = .ok (.aload_n 0, 1) := by decide +kernel
theorem d_Mo_enter_18 : decode prog_13_method_78_code 18 = .ok (.getfield 58, 3) := by decide +kernel
theorem d_Mo_enter_21 : decode prog_13_method_78_code 21 = .ok (.aload_n 0, 1) := by decide +kernel
theorem d_Mo_enter_22 : decode prog_13_method_78_code 22 = .ok (.getfield 391, 3) := by decide +kernel
theorem d_Mo_enter_25 : decode prog_13_method_78_code 25 = .ok (.invokestatic 272, 3) := by decide +kernel
theorem d_Mo_enter_28 : decode prog_13_method_78_code 28 = .ok (.aload_n 0, 1) := by decide +kernel
theorem d_Mo_enter_29 : decode prog_13_method_78_code 29 = .ok (.iconst 0, 1) := by decide +kernel
theorem d_Mo_enter_30 : decode prog_13_method_78_code 30 = .ok (.putfield 391, 3) := by decide +kernel
theorem d_Mo_enter_33 : decode prog_13_method_78_code 33 = .ok (.aload_n 0, 1) := by decide +kernel
theorem d_Mo_enter_34 : decode prog_13_method_78_code 34 = .ok (.iconst 1, 1) := by decide +kernel
theorem d_Mo_enter_35 : decode prog_13_method_78_code 35 = .ok (.putfield 312, 3) := by decide +kernel
theorem d_Mo_enter_38 : decode prog_13_method_78_code 38 = .ok (.return_, 1) := by decide +kernel
theorem d_Li_finish_0 : decode prog_6_method_4_code 0 = .ok (.iconst 0, 1) := by decide +kernel
theorem d_Li_finish_1 : decode prog_6_method_4_code 1 = .ok (.istore_n 1, 1) := by decide +kernel
theorem d_Li_finish_2 : decode prog_6_method_4_code 2 = .ok (.iload_n 1, 1) := by decide +kernel
theorem d_Li_finish_3 : decode prog_6_method_4_code 3 = .ok (.aload_n 0, 1) := by decide +kernel
theorem d_Li_finish_4 : decode prog_6_method_4_code 4 = .ok (.getfield 16, 3) := by decide +kernel
theorem d_Li_finish_7 : decode prog_6_method_4_code 7 = .ok (.if_icmp .ge 55, 3) := by decide +kernel
theorem d_Li_finish_10 : decode prog_6_method_4_code 10 = .ok (.aload_n 0, 1) := by decide +kernel
theorem d_Li_finish_11 : decode prog_6_method_4_code 11 = .ok (.getfield 9, 3) := by decide +kernel
theorem d_Li_finish_14 : decode prog_6_method_4_code 14 = .ok (.iload_n 1, 1) := by decide +kernel
theorem d_Li_finish_15 : decode prog_6_method_4_code 15 = .ok (.iaload, 1) := by decide +kernel
theorem d_Li_finish_16 : decode prog_6_method_4_code 16 = .ok (.istore_n 2, 1) := by decide +kernel
theorem d_Li_finish_17 : decode prog_6_method_4_code 17 = .ok (.iload_n 2, 1) := by decide +kernel
theorem d_Li_finish_18 : decode prog_6_method_4_code 18 = .ok (.bipush 65, 2) := by decide +kernel
theorem d_Li_finish_20 : decode prog_6_method_4_code 20 = .ok (.if_icmp .lt 13, 3) := by decide +kernel
theorem d_Li_finish_23 : decode prog_6_method_4_code 23 = .ok (.iload_n 2, 1) := by decide +kernel
theorem d_Li_finish_24 : decode prog_6_method_4_code 24 = .ok (.bipush 90, 2) := by decide +kernel
theorem d_Li_finish_26 : decode prog_6_method_4_code 26 = .ok (.if_icmp .gt 7, 3) := by decide +kernel
theorem d_Li_finish_29 : decode prog_6_method_4_code 29 = .ok (.iconst 1, 1) := by decide +kernel
theorem d_Li_finish_30 : decode prog_6_method_4_code 30 = .ok (.goto 4, 3) := by decide +kernel
theorem d_Li_finish_33 : decode prog_6_method_4_code 33 = .ok (.iconst 0, 1) := by decide +kernel
theorem d_Li_finish_34 : decode prog_6_method_4_code 34 = .ok (.istore_n 3, 1) := by decide +kernel
theorem d_Li_finish_35 : decode prog_6_method_4_code 35 = .ok (.aload_n 0, 1) := by decide +kernel
theorem d_Li_finish_36 : decode prog_6_method_4_code 36 = .ok (.getfield 13, 3) := by decide +kernel
theorem d_Li_finish_39 : decode prog_6_method_4_code 39 = .ok (.iload_n 1, 1) := by decide +kernel
theorem d_Li_finish_40 : decode prog_6_method_4_code 40 = .ok (.iload_n 3, 1) := by decide +kernel
theorem d_Li_finish_41 : decode prog_6_method_4_code 41 = .ok (.ifCond .eq 13, 3) := by decide +kernel
theorem d_Li_finish_44 : decode prog_6_method_4_code 44 = .ok (.iload_n 2, 1) := by decide +kernel
theorem d_Li_finish_45 : decode prog_6_method_4_code 45 = .ok (.bipush 65, 2) := by decide +kernel
theorem d_Li_finish_47 : decode prog_6_method_4_code 47 = .ok (.isub, 1) := by decide +kernel
theorem d_Li_finish_48 : decode prog_6_method_4_code 48 = .ok (.bipush 97, 2) := by decide +kernel
theorem d_Li_finish_50 : decode prog_6_method_4_code 50 = .ok (.iadd, 1) := by decide +kernel
theorem d_Li_finish_51 : decode prog_6_method_4_code 51 = .ok (.goto 4, 3) := by decide +kernel
theorem d_Li_finish_54 : decode prog_6_method_4_code 54 = .ok (.iload_n 2, 1) := by decide +kernel
theorem d_Li_finish_55 : decode prog_6_method_4_code 55 = .ok (.iastore, 1) := by decide +kernel
theorem d_Li_finish_56 : decode prog_6_method_4_code 56 = .ok (.iinc 1 1, 3) := by decide +kernel
theorem d_Li_finish_59 : decode prog_6_method_4_code 59 = .ok (.goto (-57), 3) := by decide +kernel
theorem d_Li_finish_62 : decode prog_6_method_4_code 62 = .ok (.aload_n 0, 1) := by decide +kernel
theorem d_Li_finish_63 : decode prog_6_method_4_code 63 = .ok (.aload_n 0, 1) := by decide +kernel
theorem d_Li_finish_64 : decode prog_6_method_4_code 64 = .ok (.getfield 16, 3) := by decide +kernel
theorem d_Li_finish_67 : decode prog_6_method_4_code 67 = .ok (.putfield 24, 3) := by decide +kernel
theorem d_Li_finish_70 : decode prog_6_method_4_code 70 = .ok (.aload_n 0, 1) := by decide +kernel
theorem d_Li_finish_71 : decode prog_6_method_4_code 71 = .ok (.iconst 0, 1) := by decide +kernel
theorem d_Li_finish_72 : decode prog_6_method_4_code 72 = .ok (.putfield 16, 3) := by decide +kernel
theorem d_Li_finish_75 : decode prog_6_method_4_code 75 = .ok (.aload_n 0, 1) := by decide +kernel
theorem d_Li_finish_76 : decode prog_6_method_4_code 76 = .ok (.iconst 1, 1) := by decide +kernel
theorem d_Li_finish_77 : decode prog_6_method_4_code 77 = .ok (.putfield 20, 3) := by decide +kernel
theorem d_Li_finish_80 : decode prog_6_method_4_code 80 = .ok (.return_, 1) := by decide +kernel
theorem d_SM_enter_0 : decode prog_1_method_6_code 0 = .ok (.aload_n 0, 1) := by decide +kernel
theorem d_SM_enter_1 : decode prog_1_method_6_code 1 = .ok (.getfield 27, 3) := by decide +kernel
theorem d_SM_enter_4 : decode prog_1_method_6_code 4 = .ok (.invokevirtual 77, 3) := by decide +kernel
theorem d_SM_enter_7 : decode prog_1_method_6_code 7 = .ok (.return_, 1) := by decide +kernel
