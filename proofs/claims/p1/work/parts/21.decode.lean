/-! Decode rows; written by wip/tools/gen.py. -/
theorem d_Me_init_0 : decode prog_7_method_1_code 0 = .ok (.aload_n 0, 1) := by decide +kernel
theorem d_Me_init_1 : decode prog_7_method_1_code 1 = .ok (.invokespecial 1, 3) := by decide +kernel
theorem d_Me_init_4 : decode prog_7_method_1_code 4 = .ok (.aload_n 0, 1) := by decide +kernel
theorem d_Me_init_5 : decode prog_7_method_1_code 5 = .ok (.sipush 512, 3) := by decide +kernel
theorem d_Me_init_8 : decode prog_7_method_1_code 8 = .ok (.newarray .int, 2) := by decide +kernel
theorem d_Me_init_10 : decode prog_7_method_1_code 10 = .ok (.putfield 9, 3) := by decide +kernel
theorem d_Me_init_13 : decode prog_7_method_1_code 13 = .ok (.return_, 1) := by decide +kernel
theorem d_Li_init_0 : decode prog_6_method_1_code 0 = .ok (.aload_n 0, 1) := by decide +kernel
theorem d_Li_init_1 : decode prog_6_method_1_code 1 = .ok (.invokespecial 1, 3) := by decide +kernel
theorem d_Li_init_4 : decode prog_6_method_1_code 4 = .ok (.aload_n 0, 1) := by decide +kernel
theorem d_Li_init_5 : decode prog_6_method_1_code 5 = .ok (.bipush 24, 2) := by decide +kernel
theorem d_Li_init_7 : decode prog_6_method_1_code 7 = .ok (.newarray .int, 2) := by decide +kernel
theorem d_Li_init_9 : decode prog_6_method_1_code 9 = .ok (.putfield 9, 3) := by decide +kernel
theorem d_Li_init_12 : decode prog_6_method_1_code 12 = .ok (.aload_n 0, 1) := by decide +kernel
theorem d_Li_init_13 : decode prog_6_method_1_code 13 = .ok (.bipush 24, 2) := by decide +kernel
theorem d_Li_init_15 : decode prog_6_method_1_code 15 = .ok (.newarray .int, 2) := by decide +kernel
theorem d_Li_init_17 : decode prog_6_method_1_code 17 = .ok (.putfield 13, 3) := by decide +kernel
theorem d_Li_init_20 : decode prog_6_method_1_code 20 = .ok (.return_, 1) := by decide +kernel
theorem d_Ro_init_0 : decode prog_9_method_1_code 0 = .ok (.aload_n 0, 1) := by decide +kernel
theorem d_Ro_init_1 : decode prog_9_method_1_code 1 = .ok (.invokespecial 1, 3) := by decide +kernel
theorem d_Ro_init_4 : decode prog_9_method_1_code 4 = .ok (.aload_n 0, 1) := by decide +kernel
theorem d_Ro_init_5 : decode prog_9_method_1_code 5 = .ok (.bipush 48, 2) := by decide +kernel
theorem d_Ro_init_7 : decode prog_9_method_1_code 7 = .ok (.newarray .int, 2) := by decide +kernel
theorem d_Ro_init_9 : decode prog_9_method_1_code 9 = .ok (.putfield 9, 3) := by decide +kernel
theorem d_Ro_init_12 : decode prog_9_method_1_code 12 = .ok (.aload_n 0, 1) := by decide +kernel
theorem d_Ro_init_13 : decode prog_9_method_1_code 13 = .ok (.bipush 11, 2) := by decide +kernel
theorem d_Ro_init_15 : decode prog_9_method_1_code 15 = .ok (.newarray .int, 2) := by decide +kernel
theorem d_Ro_init_17 : decode prog_9_method_1_code 17 = .ok (.putfield 13, 3) := by decide +kernel
theorem d_Ro_init_20 : decode prog_9_method_1_code 20 = .ok (.aload_n 0, 1) := by decide +kernel
theorem d_Ro_init_21 : decode prog_9_method_1_code 21 = .ok (.bipush 11, 2) := by decide +kernel
theorem d_Ro_init_23 : decode prog_9_method_1_code 23 = .ok (.newarray .int, 2) := by decide +kernel
theorem d_Ro_init_25 : decode prog_9_method_1_code 25 = .ok (.putfield 16, 3) := by decide +kernel
theorem d_Ro_init_28 : decode prog_9_method_1_code 28 = .ok (.aload_n 0, 1) := by decide +kernel
theorem d_Ro_init_29 : decode prog_9_method_1_code 29 = .ok (.bipush 11, 2) := by decide +kernel
theorem d_Ro_init_31 : decode prog_9_method_1_code 31 = .ok (.newarray .int, 2) := by decide +kernel
theorem d_Ro_init_33 : decode prog_9_method_1_code 33 = .ok (.putfield 19, 3) := by decide +kernel
theorem d_Ro_init_36 : decode prog_9_method_1_code 36 = .ok (.aload_n 0, 1) := by decide +kernel
theorem d_Ro_init_37 : decode prog_9_method_1_code 37 = .ok (.bipush 11, 2) := by decide +kernel
theorem d_Ro_init_39 : decode prog_9_method_1_code 39 = .ok (.newarray .int, 2) := by decide +kernel
theorem d_Ro_init_41 : decode prog_9_method_1_code 41 = .ok (.putfield 22, 3) := by decide +kernel
theorem d_Ro_init_44 : decode prog_9_method_1_code 44 = .ok (.aload_n 0, 1) := by decide +kernel
theorem d_Ro_init_45 : decode prog_9_method_1_code 45 = .ok (.sipush 165, 3) := by decide +kernel
theorem d_Ro_init_48 : decode prog_9_method_1_code 48 = .ok (.newarray .int, 2) := by decide +kernel
theorem d_Ro_init_50 : decode prog_9_method_1_code 50 = .ok (.putfield 25, 3) := by decide +kernel
theorem d_Ro_init_53 : decode prog_9_method_1_code 53 = .ok (.return_, 1) := by decide +kernel
theorem d_Pr_init_0 : decode prog_8_method_1_code 0 = .ok (.aload_n 0, 1) := by decide +kernel
theorem d_Pr_init_1 : decode prog_8_method_1_code 1 = .ok (.invokespecial 1, 3) := by decide +kernel
theorem d_Pr_init_4 : decode prog_8_method_1_code 4 = .ok (.aload_n 0, 1) := by decide +kernel
theorem d_Pr_init_5 : decode prog_8_method_1_code 5 = .ok (.bipush 64, 2) := by decide +kernel
theorem d_Pr_init_7 : decode prog_8_method_1_code 7 = .ok (.newarray .int, 2) := by decide +kernel
theorem d_Pr_init_9 : decode prog_8_method_1_code 9 = .ok (.putfield 9, 3) := by decide +kernel
theorem d_Pr_init_12 : decode prog_8_method_1_code 12 = .ok (.aload_n 0, 1) := by decide +kernel
theorem d_Pr_init_13 : decode prog_8_method_1_code 13 = .ok (.aload_n 1, 1) := by decide +kernel
theorem d_Pr_init_14 : decode prog_8_method_1_code 14 = .ok (.putfield 13, 3) := by decide +kernel
theorem d_Pr_init_17 : decode prog_8_method_1_code 17 = .ok (.return_, 1) := by decide +kernel
theorem d_Va_init_0 : decode prog_11_method_1_code 0 = .ok (.aload_n 0, 1) := by decide +kernel
theorem d_Va_init_1 : decode prog_11_method_1_code 1 = .ok (.invokespecial 1, 3) := by decide +kernel
theorem d_Va_init_4 : decode prog_11_method_1_code 4 = .ok (.aload_n 0, 1) := by decide +kernel
theorem d_Va_init_5 : decode prog_11_method_1_code 5 = .ok (.aload_n 1, 1) := by decide +kernel
theorem d_Va_init_6 : decode prog_11_method_1_code 6 = .ok (.putfield 7, 3) := by decide +kernel
theorem d_Va_init_9 : decode prog_11_method_1_code 9 = .ok (.aload_n 0, 1) := by decide +kernel
theorem d_Va_init_10 : decode prog_11_method_1_code 10 = .ok (.aload_n 2, 1) := by decide +kernel
theorem d_Va_init_11 : decode prog_11_method_1_code 11 = .ok (.putfield 13, 3) := by decide +kernel
theorem d_Va_init_14 : decode prog_11_method_1_code 14 = .ok (.return_, 1) := by decide +kernel
theorem d_Tr_init_0 : decode prog_10_method_1_code 0 = .ok (.aload_n 0, 1) := by decide +kernel
theorem d_Tr_init_1 : decode prog_10_method_1_code 1 = .ok (.invokespecial 1, 3) := by decide +kernel
theorem d_Tr_init_4 : decode prog_10_method_1_code 4 = .ok (.aload_n 0, 1) := by decide +kernel
theorem d_Tr_init_5 : decode prog_10_method_1_code 5 = .ok (.aload_n 1, 1) := by decide +kernel
theorem d_Tr_init_6 : decode prog_10_method_1_code 6 = .ok (.putfield 7, 3) := by decide +kernel
theorem d_Tr_init_9 : decode prog_10_method_1_code 9 = .ok (.return_, 1) := by decide +kernel
theorem d_Di_init_0 : decode prog_3_method_1_code 0 = .ok (.aload_n 0, 1) := by decide +kernel
theorem d_Di_init_1 : decode prog_3_method_1_code 1 = .ok (.invokespecial 1, 3) := by decide +kernel
theorem d_Di_init_4 : decode prog_3_method_1_code 4 = .ok (.aload_n 0, 1) := by decide +kernel
theorem d_Di_init_5 : decode prog_3_method_1_code 5 = .ok (.bipush 24, 2) := by decide +kernel
theorem d_Di_init_7 : decode prog_3_method_1_code 7 = .ok (.newarray .int, 2) := by decide +kernel
theorem d_Di_init_9 : decode prog_3_method_1_code 9 = .ok (.putfield 9, 3) := by decide +kernel
theorem d_Di_init_12 : decode prog_3_method_1_code 12 = .ok (.aload_n 0, 1) := by decide +kernel
theorem d_Di_init_13 : decode prog_3_method_1_code 13 = .ok (.bipush 24, 2) := by decide +kernel
theorem d_Di_init_15 : decode prog_3_method_1_code 15 = .ok (.newarray .int, 2) := by decide +kernel
theorem d_Di_init_17 : decode prog_3_method_1_code 17 = .ok (.putfield 15, 3) := by decide +kernel
theorem d_Di_init_20 : decode prog_3_method_1_code 20 = .ok (.aload_n 0, 1) := by decide +kernel
theorem d_Di_init_21 : decode prog_3_method_1_code 21 = .ok (.bipush 6, 2) := by decide +kernel
theorem d_Di_init_23 : decode prog_3_method_1_code 23 = .ok (.newarray .int, 2) := by decide +kernel
theorem d_Di_init_25 : decode prog_3_method_1_code 25 = .ok (.putfield 18, 3) := by decide +kernel
theorem d_Di_init_28 : decode prog_3_method_1_code 28 = .ok (.aload_n 0, 1) := by decide +kernel
theorem d_Di_init_29 : decode prog_3_method_1_code 29 = .ok (.aload_n 1, 1) := by decide +kernel
theorem d_Di_init_30 : decode prog_3_method_1_code 30 = .ok (.putfield 21, 3) := by decide +kernel
theorem d_Di_init_33 : decode prog_3_method_1_code 33 = .ok (.return_, 1) := by decide +kernel
theorem d_In_init_0 : decode prog_5_method_1_code 0 = .ok (.aload_n 0, 1) := by decide +kernel
theorem d_In_init_1 : decode prog_5_method_1_code 1 = .ok (.invokespecial 1, 3) := by decide +kernel
theorem d_In_init_4 : decode prog_5_method_1_code 4 = .ok (.aload_n 0, 1) := by decide +kernel
theorem d_In_init_5 : decode prog_5_method_1_code 5 = .ok (.iconst 4, 1) := by decide +kernel
theorem d_In_init_6 : decode prog_5_method_1_code 6 = .ok (.newarray .int, 2) := by decide +kernel
theorem d_In_init_8 : decode prog_5_method_1_code 8 = .ok (.putfield 7, 3) := by decide +kernel
theorem d_In_init_11 : decode prog_5_method_1_code 11 = .ok (.aload_n 0, 1) := by decide +kernel
theorem d_In_init_12 : decode prog_5_method_1_code 12 = .ok (.aload_n 1, 1) := by decide +kernel
theorem d_In_init_13 : decode prog_5_method_1_code 13 = .ok (.putfield 13, 3) := by decide +kernel
theorem d_In_init_16 : decode prog_5_method_1_code 16 = .ok (.aload_n 0, 1) := by decide +kernel
theorem d_In_init_17 : decode prog_5_method_1_code 17 = .ok (.aload_n 2, 1) := by decide +kernel
theorem d_In_init_18 : decode prog_5_method_1_code 18 = .ok (.putfield 17, 3) := by decide +kernel
theorem d_In_init_21 : decode prog_5_method_1_code 21 = .ok (.return_, 1) := by decide +kernel
theorem d_As_init_0 : decode prog_2_method_1_code 0 = .ok (.aload_n 0, 1) := by decide +kernel
theorem d_As_init_1 : decode prog_2_method_1_code 1 = .ok (.invokespecial 1, 3) := by decide +kernel
theorem d_As_init_4 : decode prog_2_method_1_code 4 = .ok (.aload_n 0, 1) := by decide +kernel
theorem d_As_init_5 : decode prog_2_method_1_code 5 = .ok (.new 7, 3) := by decide +kernel
theorem d_As_init_8 : decode prog_2_method_1_code 8 = .ok (.dup, 1) := by decide +kernel
theorem d_As_init_9 : decode prog_2_method_1_code 9 = .ok (.invokespecial 9, 3) := by decide +kernel
theorem d_As_init_12 : decode prog_2_method_1_code 12 = .ok (.putfield 10, 3) := by decide +kernel
theorem d_As_init_15 : decode prog_2_method_1_code 15 = .ok (.aload_n 0, 1) := by decide +kernel
theorem d_As_init_16 : decode prog_2_method_1_code 16 = .ok (.new 16, 3) := by decide +kernel
theorem d_As_init_19 : decode prog_2_method_1_code 19 = .ok (.dup, 1) := by decide +kernel
theorem d_As_init_20 : decode prog_2_method_1_code 20 = .ok (.invokespecial 18, 3) := by decide +kernel
theorem d_As_init_23 : decode prog_2_method_1_code 23 = .ok (.putfield 19, 3) := by decide +kernel
theorem d_As_init_26 : decode prog_2_method_1_code 26 = .ok (.return_, 1) := by decide +kernel
theorem d_En_init_0 : decode prog_4_method_1_code 0 = .ok (.aload_n 0, 1) := by decide +kernel
theorem d_En_init_1 : decode prog_4_method_1_code 1 = .ok (.invokespecial 1, 3) := by decide +kernel
theorem d_En_init_4 : decode prog_4_method_1_code 4 = .ok (.aload_n 0, 1) := by decide +kernel
theorem d_En_init_5 : decode prog_4_method_1_code 5 = .ok (.new 7, 3) := by decide +kernel
theorem d_En_init_8 : decode prog_4_method_1_code 8 = .ok (.dup, 1) := by decide +kernel
theorem d_En_init_9 : decode prog_4_method_1_code 9 = .ok (.invokespecial 9, 3) := by decide +kernel
theorem d_En_init_12 : decode prog_4_method_1_code 12 = .ok (.putfield 10, 3) := by decide +kernel
theorem d_En_init_15 : decode prog_4_method_1_code 15 = .ok (.aload_n 0, 1) := by decide +kernel
theorem d_En_init_16 : decode prog_4_method_1_code 16 = .ok (.bipush 15, 2) := by decide +kernel
theorem d_En_init_18 : decode prog_4_method_1_code 18 = .ok (.newarray .int, 2) := by decide +kernel
theorem d_En_init_20 : decode prog_4_method_1_code 20 = .ok (.putfield 18, 3) := by decide +kernel
theorem d_En_init_23 : decode prog_4_method_1_code 23 = .ok (.aload_n 0, 1) := by decide +kernel
theorem d_En_init_24 : decode prog_4_method_1_code 24 = .ok (.iconst (-1), 1) := by decide +kernel
theorem d_En_init_25 : decode prog_4_method_1_code 25 = .ok (.putfield 22, 3) := by decide +kernel
theorem d_En_init_28 : decode prog_4_method_1_code 28 = .ok (.new 26, 3) := by decide +kernel
theorem d_En_init_31 : decode prog_4_method_1_code 31 = .ok (.dup, 1) := by decide +kernel
theorem d_En_init_32 : decode prog_4_method_1_code 32 = .ok (.aload_n 1, 1) := by decide +kernel
theorem d_En_init_33 : decode prog_4_method_1_code 33 = .ok (.aload_n 3, 1) := by decide +kernel
theorem d_En_init_34 : decode prog_4_method_1_code 34 = .ok (.invokespecial 28, 3) := by decide +kernel
theorem d_En_init_37 : decode prog_4_method_1_code 37 = .ok (.astore 5, 2) := by decide +kernel
theorem d_En_init_39 : decode prog_4_method_1_code 39 = .ok (.aload_n 0, 1) := by decide +kernel
theorem d_En_init_40 : decode prog_4_method_1_code 40 = .ok (.aload_n 1, 1) := by decide +kernel
theorem d_En_init_41 : decode prog_4_method_1_code 41 = .ok (.putfield 31, 3) := by decide +kernel
theorem d_En_init_44 : decode prog_4_method_1_code 44 = .ok (.aload_n 0, 1) := by decide +kernel
theorem d_En_init_45 : decode prog_4_method_1_code 45 = .ok (.aload_n 2, 1) := by decide +kernel
theorem d_En_init_46 : decode prog_4_method_1_code 46 = .ok (.putfield 35, 3) := by decide +kernel
theorem d_En_init_49 : decode prog_4_method_1_code 49 = .ok (.aload_n 0, 1) := by decide +kernel
theorem d_En_init_50 : decode prog_4_method_1_code 50 = .ok (.aload_n 3, 1) := by decide +kernel
theorem d_En_init_51 : decode prog_4_method_1_code 51 = .ok (.putfield 39, 3) := by decide +kernel
theorem d_En_init_54 : decode prog_4_method_1_code 54 = .ok (.aload_n 0, 1) := by decide +kernel
theorem d_En_init_55 : decode prog_4_method_1_code 55 = .ok (.aload 4, 2) := by decide +kernel
theorem d_En_init_57 : decode prog_4_method_1_code 57 = .ok (.putfield 43, 3) := by decide +kernel
theorem d_En_init_60 : decode prog_4_method_1_code 60 = .ok (.aload_n 0, 1) := by decide +kernel
theorem d_En_init_61 : decode prog_4_method_1_code 61 = .ok (.aload 5, 2) := by decide +kernel
theorem d_En_init_63 : decode prog_4_method_1_code 63 = .ok (.putfield 47, 3) := by decide +kernel
theorem d_En_init_66 : decode prog_4_method_1_code 66 = .ok (.aload_n 0, 1) := by decide +kernel
theorem d_En_init_67 : decode prog_4_method_1_code 67 = .ok (.new 51, 3) := by decide +kernel
theorem d_En_init_70 : decode prog_4_method_1_code 70 = .ok (.dup, 1) := by decide +kernel
theorem d_En_init_71 : decode prog_4_method_1_code 71 = .ok (.aload_n 1, 1) := by decide +kernel
theorem d_En_init_72 : decode prog_4_method_1_code 72 = .ok (.invokespecial 53, 3) := by decide +kernel
theorem d_En_init_75 : decode prog_4_method_1_code 75 = .ok (.putfield 56, 3) := by decide +kernel
theorem d_En_init_78 : decode prog_4_method_1_code 78 = .ok (.aload_n 0, 1) := by decide +kernel
theorem d_En_init_79 : decode prog_4_method_1_code 79 = .ok (.new 60, 3) := by decide +kernel
theorem d_En_init_82 : decode prog_4_method_1_code 82 = .ok (.dup, 1) := by decide +kernel
theorem d_En_init_83 : decode prog_4_method_1_code 83 = .ok (.aload_n 1, 1) := by decide +kernel
theorem d_En_init_84 : decode prog_4_method_1_code 84 = .ok (.invokespecial 62, 3) := by decide +kernel
theorem d_En_init_87 : decode prog_4_method_1_code 87 = .ok (.putfield 63, 3) := by decide +kernel
theorem d_En_init_90 : decode prog_4_method_1_code 90 = .ok (.aload_n 0, 1) := by decide +kernel
theorem d_En_init_91 : decode prog_4_method_1_code 91 = .ok (.new 67, 3) := by decide +kernel
theorem d_En_init_94 : decode prog_4_method_1_code 94 = .ok (.dup, 1) := by decide +kernel
theorem d_En_init_95 : decode prog_4_method_1_code 95 = .ok (.aload_n 1, 1) := by decide +kernel
theorem d_En_init_96 : decode prog_4_method_1_code 96 = .ok (.aload 5, 2) := by decide +kernel
theorem d_En_init_98 : decode prog_4_method_1_code 98 = .ok (.invokespecial 69, 3) := by decide +kernel
theorem d_En_init_101 : decode prog_4_method_1_code 101 = .ok (.putfield 72, 3) := by decide +kernel
theorem d_En_init_104 : decode prog_4_method_1_code 104 = .ok (.return_, 1) := by decide +kernel
theorem d_SM_init_0 : decode prog_1_method_1_code 0 = .ok (.aload_n 0, 1) := by decide +kernel
theorem d_SM_init_1 : decode prog_1_method_1_code 1 = .ok (.invokespecial 1, 3) := by decide +kernel
theorem d_SM_init_4 : decode prog_1_method_1_code 4 = .ok (.new 7, 3) := by decide +kernel
theorem d_SM_init_7 : decode prog_1_method_1_code 7 = .ok (.dup, 1) := by decide +kernel
theorem d_SM_init_8 : decode prog_1_method_1_code 8 = .ok (.invokespecial 9, 3) := by decide +kernel
theorem d_SM_init_11 : decode prog_1_method_1_code 11 = .ok (.astore_n 1, 1) := by decide +kernel
theorem d_SM_init_12 : decode prog_1_method_1_code 12 = .ok (.new 10, 3) := by decide +kernel
theorem d_SM_init_15 : decode prog_1_method_1_code 15 = .ok (.dup, 1) := by decide +kernel
theorem d_SM_init_16 : decode prog_1_method_1_code 16 = .ok (.invokespecial 12, 3) := by decide +kernel
theorem d_SM_init_19 : decode prog_1_method_1_code 19 = .ok (.astore_n 2, 1) := by decide +kernel
theorem d_SM_init_20 : decode prog_1_method_1_code 20 = .ok (.new 13, 3) := by decide +kernel
theorem d_SM_init_23 : decode prog_1_method_1_code 23 = .ok (.dup, 1) := by decide +kernel
theorem d_SM_init_24 : decode prog_1_method_1_code 24 = .ok (.invokespecial 15, 3) := by decide +kernel
theorem d_SM_init_27 : decode prog_1_method_1_code 27 = .ok (.astore_n 3, 1) := by decide +kernel
theorem d_SM_init_28 : decode prog_1_method_1_code 28 = .ok (.new 16, 3) := by decide +kernel
theorem d_SM_init_31 : decode prog_1_method_1_code 31 = .ok (.dup, 1) := by decide +kernel
theorem d_SM_init_32 : decode prog_1_method_1_code 32 = .ok (.aload_n 1, 1) := by decide +kernel
theorem d_SM_init_33 : decode prog_1_method_1_code 33 = .ok (.invokespecial 18, 3) := by decide +kernel
theorem d_SM_init_36 : decode prog_1_method_1_code 36 = .ok (.astore 4, 2) := by decide +kernel
theorem d_SM_init_38 : decode prog_1_method_1_code 38 = .ok (.aload_n 0, 1) := by decide +kernel
theorem d_SM_init_39 : decode prog_1_method_1_code 39 = .ok (.aload_n 1, 1) := by decide +kernel
theorem d_SM_init_40 : decode prog_1_method_1_code 40 = .ok (.putfield 21, 3) := by decide +kernel
theorem d_SM_init_43 : decode prog_1_method_1_code 43 = .ok (.aload_n 0, 1) := by decide +kernel
theorem d_SM_init_44 : decode prog_1_method_1_code 44 = .ok (.aload_n 2, 1) := by decide +kernel
theorem d_SM_init_45 : decode prog_1_method_1_code 45 = .ok (.putfield 27, 3) := by decide +kernel
theorem d_SM_init_48 : decode prog_1_method_1_code 48 = .ok (.aload_n 0, 1) := by decide +kernel
theorem d_SM_init_49 : decode prog_1_method_1_code 49 = .ok (.aload_n 3, 1) := by decide +kernel
theorem d_SM_init_50 : decode prog_1_method_1_code 50 = .ok (.putfield 31, 3) := by decide +kernel
theorem d_SM_init_53 : decode prog_1_method_1_code 53 = .ok (.aload_n 0, 1) := by decide +kernel
theorem d_SM_init_54 : decode prog_1_method_1_code 54 = .ok (.aload 4, 2) := by decide +kernel
theorem d_SM_init_56 : decode prog_1_method_1_code 56 = .ok (.putfield 35, 3) := by decide +kernel
theorem d_SM_init_59 : decode prog_1_method_1_code 59 = .ok (.aload_n 0, 1) := by decide +kernel
theorem d_SM_init_60 : decode prog_1_method_1_code 60 = .ok (.new 39, 3) := by decide +kernel
theorem d_SM_init_63 : decode prog_1_method_1_code 63 = .ok (.dup, 1) := by decide +kernel
theorem d_SM_init_64 : decode prog_1_method_1_code 64 = .ok (.aload_n 1, 1) := by decide +kernel
theorem d_SM_init_65 : decode prog_1_method_1_code 65 = .ok (.aload_n 2, 1) := by decide +kernel
theorem d_SM_init_66 : decode prog_1_method_1_code 66 = .ok (.aload_n 3, 1) := by decide +kernel
theorem d_SM_init_67 : decode prog_1_method_1_code 67 = .ok (.aload 4, 2) := by decide +kernel
theorem d_SM_init_69 : decode prog_1_method_1_code 69 = .ok (.invokespecial 41, 3) := by decide +kernel
theorem d_SM_init_72 : decode prog_1_method_1_code 72 = .ok (.putfield 44, 3) := by decide +kernel
theorem d_SM_init_75 : decode prog_1_method_1_code 75 = .ok (.return_, 1) := by decide +kernel
theorem d_Mo_init_0 : decode prog_13_method_1_code 0 = .ok (.aload_n 0, 1) := by decide +kernel
theorem d_Mo_init_1 : decode prog_13_method_1_code 1 = .ok (.invokespecial 1, 3) := by decide +kernel
theorem d_Mo_init_4 : decode prog_13_method_1_code 4 = .ok (.aload_n 0, 1) := by decide +kernel
theorem d_Mo_init_5 : decode prog_13_method_1_code 5 = .ok (.sipush 512, 3) := by decide +kernel
theorem d_Mo_init_8 : decode prog_13_method_1_code 8 = .ok (.newarray .int, 2) := by decide +kernel
theorem d_Mo_init_10 : decode prog_13_method_1_code 10 = .ok (.putfield 7, 3) := by decide +kernel
theorem d_Mo_init_13 : decode prog_13_method_1_code 13 = .ok (.aload_n 0, 1) := by decide +kernel
theorem d_Mo_init_14 : decode prog_13_method_1_code 14 = .ok (.bipush 48, 2) := by decide +kernel
theorem d_Mo_init_16 : decode prog_13_method_1_code 16 = .ok (.newarray .int, 2) := by decide +kernel
theorem d_Mo_init_18 : decode prog_13_method_1_code 18 = .ok (.putfield 13, 3) := by decide +kernel
theorem d_Mo_init_21 : decode prog_13_method_1_code 21 = .ok (.aload_n 0, 1) := by decide +kernel
theorem d_Mo_init_22 : decode prog_13_method_1_code 22 = .ok (.bipush 11, 2) := by decide +kernel
theorem d_Mo_init_24 : decode prog_13_method_1_code 24 = .ok (.newarray .int, 2) := by decide +kernel
theorem d_Mo_init_26 : decode prog_13_method_1_code 26 = .ok (.putfield 16, 3) := by decide +kernel
theorem d_Mo_init_29 : decode prog_13_method_1_code 29 = .ok (.aload_n 0, 1) := by decide +kernel
theorem d_Mo_init_30 : decode prog_13_method_1_code 30 = .ok (.bipush 11, 2) := by decide +kernel
theorem d_Mo_init_32 : decode prog_13_method_1_code 32 = .ok (.newarray .int, 2) := by decide +kernel
theorem d_Mo_init_34 : decode prog_13_method_1_code 34 = .ok (.putfield 19, 3) := by decide +kernel
theorem d_Mo_init_37 : decode prog_13_method_1_code 37 = .ok (.aload_n 0, 1) := by decide +kernel
theorem d_Mo_init_38 : decode prog_13_method_1_code 38 = .ok (.bipush 11, 2) := by decide +kernel
theorem d_Mo_init_40 : decode prog_13_method_1_code 40 = .ok (.newarray .int, 2) := by decide +kernel
theorem d_Mo_init_42 : decode prog_13_method_1_code 42 = .ok (.putfield 22, 3) := by decide +kernel
theorem d_Mo_init_45 : decode prog_13_method_1_code 45 = .ok (.aload_n 0, 1) := by decide +kernel
theorem d_Mo_init_46 : decode prog_13_method_1_code 46 = .ok (.bipush 11, 2) := by decide +kernel
theorem d_Mo_init_48 : decode prog_13_method_1_code 48 = .ok (.newarray .int, 2) := by decide +kernel
theorem d_Mo_init_50 : decode prog_13_method_1_code 50 = .ok (.putfield 25, 3) := by decide +kernel
theorem d_Mo_init_53 : decode prog_13_method_1_code 53 = .ok (.aload_n 0, 1) := by decide +kernel
theorem d_Mo_init_54 : decode prog_13_method_1_code 54 = .ok (.sipush 165, 3) := by decide +kernel
theorem d_Mo_init_57 : decode prog_13_method_1_code 57 = .ok (.newarray .int, 2) := by decide +kernel
theorem d_Mo_init_59 : decode prog_13_method_1_code 59 = .ok (.putfield 28, 3) := by decide +kernel
theorem d_Mo_init_62 : decode prog_13_method_1_code 62 = .ok (.aload_n 0, 1) := by decide +kernel
theorem d_Mo_init_63 : decode prog_13_method_1_code 63 = .ok (.sipush 512, 3) := by decide +kernel
theorem d_Mo_init_66 : decode prog_13_method_1_code 66 = .ok (.newarray .int, 2) := by decide +kernel
theorem d_Mo_init_68 : decode prog_13_method_1_code 68 = .ok (.putfield 31, 3) := by decide +kernel
theorem d_Mo_init_71 : decode prog_13_method_1_code 71 = .ok (.aload_n 0, 1) := by decide +kernel
theorem d_Mo_init_72 : decode prog_13_method_1_code 72 = .ok (.bipush 48, 2) := by decide +kernel
theorem d_Mo_init_74 : decode prog_13_method_1_code 74 = .ok (.newarray .int, 2) := by decide +kernel
theorem d_Mo_init_76 : decode prog_13_method_1_code 76 = .ok (.putfield 34, 3) := by decide +kernel
theorem d_Mo_init_79 : decode prog_13_method_1_code 79 = .ok (.aload_n 0, 1) := by decide +kernel
theorem d_Mo_init_80 : decode prog_13_method_1_code 80 = .ok (.bipush 11, 2) := by decide +kernel
theorem d_Mo_init_82 : decode prog_13_method_1_code 82 = .ok (.newarray .int, 2) := by decide +kernel
theorem d_Mo_init_84 : decode prog_13_method_1_code 84 = .ok (.putfield 37, 3) := by decide +kernel
theorem d_Mo_init_87 : decode prog_13_method_1_code 87 = .ok (.aload_n 0, 1) := by decide +kernel
theorem d_Mo_init_88 : decode prog_13_method_1_code 88 = .ok (.bipush 11, 2) := by decide +kernel
theorem d_Mo_init_90 : decode prog_13_method_1_code 90 = .ok (.newarray .int, 2) := by decide +kernel
theorem d_Mo_init_92 : decode prog_13_method_1_code 92 = .ok (.putfield 40, 3) := by decide +kernel
theorem d_Mo_init_95 : decode prog_13_method_1_code 95 = .ok (.aload_n 0, 1) := by decide +kernel
theorem d_Mo_init_96 : decode prog_13_method_1_code 96 = .ok (.bipush 11, 2) := by decide +kernel
theorem d_Mo_init_98 : decode prog_13_method_1_code 98 = .ok (.newarray .int, 2) := by decide +kernel
theorem d_Mo_init_100 : decode prog_13_method_1_code 100 = .ok (.putfield 43, 3) := by decide +kernel
theorem d_Mo_init_103 : decode prog_13_method_1_code 103 = .ok (.aload_n 0, 1) := by decide +kernel
theorem d_Mo_init_104 : decode prog_13_method_1_code 104 = .ok (.bipush 11, 2) := by decide +kernel
theorem d_Mo_init_106 : decode prog_13_method_1_code 106 = .ok (.newarray .int, 2) := by decide +kernel
theorem d_Mo_init_108 : decode prog_13_method_1_code 108 = .ok (.putfield 46, 3) := by decide +kernel
theorem d_Mo_init_111 : decode prog_13_method_1_code 111 = .ok (.aload_n 0, 1) := by decide +kernel
theorem d_Mo_init_112 : decode prog_13_method_1_code 112 = .ok (.sipush 165, 3) := by decide +kernel
theorem d_Mo_init_115 : decode prog_13_method_1_code 115 = .ok (.newarray .int, 2) := by decide +kernel
theorem d_Mo_init_117 : decode prog_13_method_1_code 117 = .ok (.putfield 49, 3) := by decide +kernel
theorem d_Mo_init_120 : decode prog_13_method_1_code 120 = .ok (.aload_n 0, 1) := by decide +kernel
theorem d_Mo_init_121 : decode prog_13_method_1_code 121 = .ok (.bipush 64, 2) := by decide +kernel
theorem d_Mo_init_123 : decode prog_13_method_1_code 123 = .ok (.newarray .int, 2) := by decide +kernel
theorem d_Mo_init_125 : decode prog_13_method_1_code 125 = .ok (.putfield 52, 3) := by decide +kernel
theorem d_Mo_init_128 : decode prog_13_method_1_code 128 = .ok (.aload_n 0, 1) := by decide +kernel
theorem d_Mo_init_129 : decode prog_13_method_1_code 129 = .ok (.bipush 24, 2) := by decide +kernel
theorem d_Mo_init_131 : decode prog_13_method_1_code 131 = .ok (.newarray .int, 2) := by decide +kernel
theorem d_Mo_init_133 : decode prog_13_method_1_code 133 = .ok (.putfield 55, 3) := by decide +kernel
theorem d_Mo_init_136 : decode prog_13_method_1_code 136 = .ok (.aload_n 0, 1) := by decide +kernel
theorem d_Mo_init_137 : decode prog_13_method_1_code 137 = .ok (.bipush 24, 2) := by decide +kernel
theorem d_Mo_init_139 : decode prog_13_method_1_code 139 = .ok (.newarray .int, 2) := by decide +kernel
theorem d_Mo_init_141 : decode prog_13_method_1_code 141 = .ok (.putfield 58, 3) := by decide +kernel
theorem d_Mo_init_144 : decode prog_13_method_1_code 144 = .ok (.aload_n 0, 1) := by decide +kernel
theorem d_Mo_init_145 : decode prog_13_method_1_code 145 = .ok (.iconst 4, 1) := by decide +kernel
theorem d_Mo_init_146 : decode prog_13_method_1_code 146 = .ok (.newarray .int, 2) := by decide +kernel
theorem d_Mo_init_148 : decode prog_13_method_1_code 148 = .ok (.putfield 61, 3) := by decide +kernel
theorem d_Mo_init_151 : decode prog_13_method_1_code 151 = .ok (.aload_n 0, 1) := by decide +kernel
theorem d_Mo_init_152 : decode prog_13_method_1_code 152 = .ok (.bipush 6, 2) := by decide +kernel
theorem d_Mo_init_154 : decode prog_13_method_1_code 154 = .ok (.newarray .int, 2) := by decide +kernel
theorem d_Mo_init_156 : decode prog_13_method_1_code 156 = .ok (.putfield 64, 3) := by decide +kernel
theorem d_Mo_init_159 : decode prog_13_method_1_code 159 = .ok (.aload_n 0, 1) := by decide +kernel
theorem d_Mo_init_160 : decode prog_13_method_1_code 160 = .ok (.bipush 24, 2) := by decide +kernel
theorem d_Mo_init_162 : decode prog_13_method_1_code 162 = .ok (.newarray .int, 2) := by decide +kernel
theorem d_Mo_init_164 : decode prog_13_method_1_code 164 = .ok (.putfield 67, 3) := by decide +kernel
theorem d_Mo_init_167 : decode prog_13_method_1_code 167 = .ok (.aload_n 0, 1) := by decide +kernel
theorem d_Mo_init_168 : decode prog_13_method_1_code 168 = .ok (.bipush 24, 2) := by decide +kernel
theorem d_Mo_init_170 : decode prog_13_method_1_code 170 = .ok (.newarray .int, 2) := by decide +kernel
theorem d_Mo_init_172 : decode prog_13_method_1_code 172 = .ok (.putfield 70, 3) := by decide +kernel
theorem d_Mo_init_175 : decode prog_13_method_1_code 175 = .ok (.return_, 1) := by decide +kernel
theorem d_SM_packed_0 : decode prog_1_method_14_code 0 = .ok (.lload_n 0, 1) := by decide +kernel
theorem d_SM_packed_1 : decode prog_1_method_14_code 1 = .ok (.bipush 8, 2) := by decide +kernel
theorem d_SM_packed_3 : decode prog_1_method_14_code 3 = .ok (.iload_n 2, 1) := by decide +kernel
theorem d_SM_packed_4 : decode prog_1_method_14_code 4 = .ok (.iconst 1, 1) := by decide +kernel
theorem d_SM_packed_5 : decode prog_1_method_14_code 5 = .ok (.isub, 1) := by decide +kernel
theorem d_SM_packed_6 : decode prog_1_method_14_code 6 = .ok (.iload_n 3, 1) := by decide +kernel
theorem d_SM_packed_7 : decode prog_1_method_14_code 7 = .ok (.isub, 1) := by decide +kernel
theorem d_SM_packed_8 : decode prog_1_method_14_code 8 = .ok (.imul, 1) := by decide +kernel
theorem d_SM_packed_9 : decode prog_1_method_14_code 9 = .ok (.lshr, 1) := by decide +kernel
theorem d_SM_packed_10 : decode prog_1_method_14_code 10 = .ok (.l2i, 1) := by decide +kernel
theorem d_SM_packed_11 : decode prog_1_method_14_code 11 = .ok (.sipush 255, 3) := by decide +kernel
theorem d_SM_packed_14 : decode prog_1_method_14_code 14 = .ok (.iand, 1) := by decide +kernel
theorem d_SM_packed_15 : decode prog_1_method_14_code 15 = .ok (.ireturn, 1) := by decide +kernel
theorem d_SM_poke_0 : decode prog_1_method_2_code 0 = .ok (.iload 4, 2) := by decide +kernel
theorem d_SM_poke_2 : decode prog_1_method_2_code 2 = .ok (.iconst 1, 1) := by decide +kernel
theorem d_SM_poke_3 : decode prog_1_method_2_code 3 = .ok (.if_icmp .lt 24, 3) := by decide +kernel
theorem d_SM_poke_6 : decode prog_1_method_2_code 6 = .ok (.iload 4, 2) := by decide +kernel
theorem d_SM_poke_8 : decode prog_1_method_2_code 8 = .ok (.bipush 8, 2) := by decide +kernel
theorem d_SM_poke_10 : decode prog_1_method_2_code 10 = .ok (.if_icmp .gt 17, 3) := by decide +kernel
theorem d_SM_poke_13 : decode prog_1_method_2_code 13 = .ok (.iload_n 1, 1) := by decide +kernel
theorem d_SM_poke_14 : decode prog_1_method_2_code 14 = .ok (.ifCond .lt 13, 3) := by decide +kernel
theorem d_SM_poke_17 : decode prog_1_method_2_code 17 = .ok (.iload_n 1, 1) := by decide +kernel
theorem d_SM_poke_18 : decode prog_1_method_2_code 18 = .ok (.sipush 512, 3) := by decide +kernel
theorem d_SM_poke_21 : decode prog_1_method_2_code 21 = .ok (.iload 4, 2) := by decide +kernel
theorem d_SM_poke_23 : decode prog_1_method_2_code 23 = .ok (.isub, 1) := by decide +kernel
theorem d_SM_poke_24 : decode prog_1_method_2_code 24 = .ok (.if_icmp .le 11, 3) := by decide +kernel
theorem d_SM_poke_27 : decode prog_1_method_2_code 27 = .ok (.new 48, 3) := by decide +kernel
theorem d_SM_poke_30 : decode prog_1_method_2_code 30 = .ok (.dup, 1) := by decide +kernel
theorem d_SM_poke_31 : decode prog_1_method_2_code 31 = .ok (.invokespecial 50, 3) := by decide +kernel
theorem d_SM_poke_34 : decode prog_1_method_2_code 34 = .ok (.athrow, 1) := by decide +kernel
theorem d_SM_poke_35 : decode prog_1_method_2_code 35 = .ok (.iconst 0, 1) := by decide +kernel
theorem d_SM_poke_36 : decode prog_1_method_2_code 36 = .ok (.istore 5, 2) := by decide +kernel
theorem d_SM_poke_38 : decode prog_1_method_2_code 38 = .ok (.iload 5, 2) := by decide +kernel
theorem d_SM_poke_40 : decode prog_1_method_2_code 40 = .ok (.iload 4, 2) := by decide +kernel
theorem d_SM_poke_42 : decode prog_1_method_2_code 42 = .ok (.if_icmp .ge 29, 3) := by decide +kernel
theorem d_SM_poke_45 : decode prog_1_method_2_code 45 = .ok (.aload_n 0, 1) := by decide +kernel
theorem d_SM_poke_46 : decode prog_1_method_2_code 46 = .ok (.getfield 21, 3) := by decide +kernel
theorem d_SM_poke_49 : decode prog_1_method_2_code 49 = .ok (.getfield 51, 3) := by decide +kernel
theorem d_SM_poke_52 : decode prog_1_method_2_code 52 = .ok (.iload_n 1, 1) := by decide +kernel
theorem d_SM_poke_53 : decode prog_1_method_2_code 53 = .ok (.iload 5, 2) := by decide +kernel
theorem d_SM_poke_55 : decode prog_1_method_2_code 55 = .ok (.iadd, 1) := by decide +kernel
theorem d_SM_poke_56 : decode prog_1_method_2_code 56 = .ok (.lload_n 2, 1) := by decide +kernel
theorem d_SM_poke_57 : decode prog_1_method_2_code 57 = .ok (.iload 4, 2) := by decide +kernel
theorem d_SM_poke_59 : decode prog_1_method_2_code 59 = .ok (.iload 5, 2) := by decide +kernel
theorem d_SM_poke_61 : decode prog_1_method_2_code 61 = .ok (.invokestatic 55, 3) := by decide +kernel
theorem d_SM_poke_64 : decode prog_1_method_2_code 64 = .ok (.iastore, 1) := by decide +kernel
theorem d_SM_poke_65 : decode prog_1_method_2_code 65 = .ok (.iinc 5 1, 3) := by decide +kernel
theorem d_SM_poke_68 : decode prog_1_method_2_code 68 = .ok (.goto (-30), 3) := by decide +kernel
theorem d_SM_poke_71 : decode prog_1_method_2_code 71 = .ok (.return_, 1) := by decide +kernel
