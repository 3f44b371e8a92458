-- what the bytes of the constructors say
theorem d_Blend_init_0 : decode prog_2_method_1_code 0 = .ok (.aload_n 0, 1) := by decide +kernel
theorem d_Blend_init_1 : decode prog_2_method_1_code 1 = .ok (.invokespecial 3, 3) := by decide +kernel
theorem d_Blend_init_4 : decode prog_2_method_1_code 4 = .ok (.aload_n 0, 1) := by decide +kernel
theorem d_Blend_init_5 : decode prog_2_method_1_code 5 = .ok (.iconst 1, 1) := by decide +kernel
theorem d_Blend_init_6 : decode prog_2_method_1_code 6 = .ok (.putfield 9, 3) := by decide +kernel
theorem d_Blend_init_9 : decode prog_2_method_1_code 9 = .ok (.return_, 1) := by decide +kernel
theorem d_Borders_init_0 : decode prog_3_method_1_code 0 = .ok (.aload_n 0, 1) := by decide +kernel
theorem d_Borders_init_1 : decode prog_3_method_1_code 1 = .ok (.invokespecial 3, 3) := by decide +kernel
theorem d_Borders_init_4 : decode prog_3_method_1_code 4 = .ok (.aload_n 0, 1) := by decide +kernel
theorem d_Borders_init_5 : decode prog_3_method_1_code 5 = .ok (.bipush 6, 2) := by decide +kernel
theorem d_Borders_init_7 : decode prog_3_method_1_code 7 = .ok (.newarray .int, 2) := by decide +kernel
theorem d_Borders_init_9 : decode prog_3_method_1_code 9 = .ok (.putfield 9, 3) := by decide +kernel
theorem d_Borders_init_12 : decode prog_3_method_1_code 12 = .ok (.aload_n 0, 1) := by decide +kernel
theorem d_Borders_init_13 : decode prog_3_method_1_code 13 = .ok (.bipush 6, 2) := by decide +kernel
theorem d_Borders_init_15 : decode prog_3_method_1_code 15 = .ok (.newarray .int, 2) := by decide +kernel
theorem d_Borders_init_17 : decode prog_3_method_1_code 17 = .ok (.putfield 15, 3) := by decide +kernel
theorem d_Borders_init_20 : decode prog_3_method_1_code 20 = .ok (.aload_n 0, 1) := by decide +kernel
theorem d_Borders_init_21 : decode prog_3_method_1_code 21 = .ok (.bipush 6, 2) := by decide +kernel
theorem d_Borders_init_23 : decode prog_3_method_1_code 23 = .ok (.newarray .int, 2) := by decide +kernel
theorem d_Borders_init_25 : decode prog_3_method_1_code 25 = .ok (.putfield 18, 3) := by decide +kernel
theorem d_Borders_init_28 : decode prog_3_method_1_code 28 = .ok (.return_, 1) := by decide +kernel
theorem d_History_init_0 : decode prog_4_method_1_code 0 = .ok (.aload_n 0, 1) := by decide +kernel
theorem d_History_init_1 : decode prog_4_method_1_code 1 = .ok (.invokespecial 3, 3) := by decide +kernel
theorem d_History_init_4 : decode prog_4_method_1_code 4 = .ok (.aload_n 0, 1) := by decide +kernel
theorem d_History_init_5 : decode prog_4_method_1_code 5 = .ok (.iconst 5, 1) := by decide +kernel
theorem d_History_init_6 : decode prog_4_method_1_code 6 = .ok (.anewarray 9, 3) := by decide +kernel
theorem d_History_init_9 : decode prog_4_method_1_code 9 = .ok (.putfield 11, 3) := by decide +kernel
theorem d_History_init_12 : decode prog_4_method_1_code 12 = .ok (.iconst 0, 1) := by decide +kernel
theorem d_History_init_13 : decode prog_4_method_1_code 13 = .ok (.istore_n 1, 1) := by decide +kernel
theorem d_History_init_14 : decode prog_4_method_1_code 14 = .ok (.iload_n 1, 1) := by decide +kernel
theorem d_History_init_15 : decode prog_4_method_1_code 15 = .ok (.iconst 5, 1) := by decide +kernel
theorem d_History_init_16 : decode prog_4_method_1_code 16 = .ok (.if_icmp .ge 22, 3) := by decide +kernel
theorem d_History_init_19 : decode prog_4_method_1_code 19 = .ok (.aload_n 0, 1) := by decide +kernel
theorem d_History_init_20 : decode prog_4_method_1_code 20 = .ok (.getfield 11, 3) := by decide +kernel
theorem d_History_init_23 : decode prog_4_method_1_code 23 = .ok (.iload_n 1, 1) := by decide +kernel
theorem d_History_init_24 : decode prog_4_method_1_code 24 = .ok (.new 9, 3) := by decide +kernel
theorem d_History_init_27 : decode prog_4_method_1_code 27 = .ok (.dup, 1) := by decide +kernel
theorem d_History_init_28 : decode prog_4_method_1_code 28 = .ok (.invokespecial 17, 3) := by decide +kernel
theorem d_History_init_31 : decode prog_4_method_1_code 31 = .ok (.aastore, 1) := by decide +kernel
theorem d_History_init_32 : decode prog_4_method_1_code 32 = .ok (.iinc 1 1, 3) := by decide +kernel
theorem d_History_init_35 : decode prog_4_method_1_code 35 = .ok (.goto (-21), 3) := by decide +kernel
theorem d_History_init_38 : decode prog_4_method_1_code 38 = .ok (.return_, 1) := by decide +kernel
theorem d_Path_init_0 : decode prog_5_method_1_code 0 = .ok (.aload_n 0, 1) := by decide +kernel
theorem d_Path_init_1 : decode prog_5_method_1_code 1 = .ok (.invokespecial 3, 3) := by decide +kernel
theorem d_Path_init_4 : decode prog_5_method_1_code 4 = .ok (.aload_n 0, 1) := by decide +kernel
theorem d_Path_init_5 : decode prog_5_method_1_code 5 = .ok (.sipush 160, 3) := by decide +kernel
theorem d_Path_init_8 : decode prog_5_method_1_code 8 = .ok (.newarray .int, 2) := by decide +kernel
theorem d_Path_init_10 : decode prog_5_method_1_code 10 = .ok (.putfield 9, 3) := by decide +kernel
theorem d_Path_init_13 : decode prog_5_method_1_code 13 = .ok (.return_, 1) := by decide +kernel
theorem d_State_init_0 : decode prog_6_method_1_code 0 = .ok (.aload_n 0, 1) := by decide +kernel
theorem d_State_init_1 : decode prog_6_method_1_code 1 = .ok (.invokespecial 3, 3) := by decide +kernel
theorem d_State_init_4 : decode prog_6_method_1_code 4 = .ok (.aload_n 0, 1) := by decide +kernel
theorem d_State_init_5 : decode prog_6_method_1_code 5 = .ok (.new 9, 3) := by decide +kernel
theorem d_State_init_8 : decode prog_6_method_1_code 8 = .ok (.dup, 1) := by decide +kernel
theorem d_State_init_9 : decode prog_6_method_1_code 9 = .ok (.invokespecial 11, 3) := by decide +kernel
theorem d_State_init_12 : decode prog_6_method_1_code 12 = .ok (.putfield 12, 3) := by decide +kernel
theorem d_State_init_15 : decode prog_6_method_1_code 15 = .ok (.aload_n 0, 1) := by decide +kernel
theorem d_State_init_16 : decode prog_6_method_1_code 16 = .ok (.new 9, 3) := by decide +kernel
theorem d_State_init_19 : decode prog_6_method_1_code 19 = .ok (.dup, 1) := by decide +kernel
theorem d_State_init_20 : decode prog_6_method_1_code 20 = .ok (.invokespecial 11, 3) := by decide +kernel
theorem d_State_init_23 : decode prog_6_method_1_code 23 = .ok (.putfield 18, 3) := by decide +kernel
theorem d_State_init_26 : decode prog_6_method_1_code 26 = .ok (.aload_n 0, 1) := by decide +kernel
theorem d_State_init_27 : decode prog_6_method_1_code 27 = .ok (.new 9, 3) := by decide +kernel
theorem d_State_init_30 : decode prog_6_method_1_code 30 = .ok (.dup, 1) := by decide +kernel
theorem d_State_init_31 : decode prog_6_method_1_code 31 = .ok (.invokespecial 11, 3) := by decide +kernel
theorem d_State_init_34 : decode prog_6_method_1_code 34 = .ok (.putfield 21, 3) := by decide +kernel
theorem d_State_init_37 : decode prog_6_method_1_code 37 = .ok (.aload_n 0, 1) := by decide +kernel
theorem d_State_init_38 : decode prog_6_method_1_code 38 = .ok (.new 9, 3) := by decide +kernel
theorem d_State_init_41 : decode prog_6_method_1_code 41 = .ok (.dup, 1) := by decide +kernel
theorem d_State_init_42 : decode prog_6_method_1_code 42 = .ok (.invokespecial 11, 3) := by decide +kernel
theorem d_State_init_45 : decode prog_6_method_1_code 45 = .ok (.putfield 24, 3) := by decide +kernel
theorem d_State_init_48 : decode prog_6_method_1_code 48 = .ok (.aload_n 0, 1) := by decide +kernel
theorem d_State_init_49 : decode prog_6_method_1_code 49 = .ok (.iconst 3, 1) := by decide +kernel
theorem d_State_init_50 : decode prog_6_method_1_code 50 = .ok (.newarray .boolean, 2) := by decide +kernel
theorem d_State_init_52 : decode prog_6_method_1_code 52 = .ok (.putfield 27, 3) := by decide +kernel
theorem d_State_init_55 : decode prog_6_method_1_code 55 = .ok (.aload_n 0, 1) := by decide +kernel
theorem d_State_init_56 : decode prog_6_method_1_code 56 = .ok (.iconst 2, 1) := by decide +kernel
theorem d_State_init_57 : decode prog_6_method_1_code 57 = .ok (.newarray .int, 2) := by decide +kernel
theorem d_State_init_59 : decode prog_6_method_1_code 59 = .ok (.putfield 31, 3) := by decide +kernel
theorem d_State_init_62 : decode prog_6_method_1_code 62 = .ok (.aload_n 0, 1) := by decide +kernel
theorem d_State_init_63 : decode prog_6_method_1_code 63 = .ok (.iconst 2, 1) := by decide +kernel
theorem d_State_init_64 : decode prog_6_method_1_code 64 = .ok (.newarray .int, 2) := by decide +kernel
theorem d_State_init_66 : decode prog_6_method_1_code 66 = .ok (.putfield 35, 3) := by decide +kernel
theorem d_State_init_69 : decode prog_6_method_1_code 69 = .ok (.aload_n 0, 1) := by decide +kernel
theorem d_State_init_70 : decode prog_6_method_1_code 70 = .ok (.new 38, 3) := by decide +kernel
theorem d_State_init_73 : decode prog_6_method_1_code 73 = .ok (.dup, 1) := by decide +kernel
theorem d_State_init_74 : decode prog_6_method_1_code 74 = .ok (.invokespecial 40, 3) := by decide +kernel
theorem d_State_init_77 : decode prog_6_method_1_code 77 = .ok (.putfield 41, 3) := by decide +kernel
theorem d_State_init_80 : decode prog_6_method_1_code 80 = .ok (.aload_n 0, 1) := by decide +kernel
theorem d_State_init_81 : decode prog_6_method_1_code 81 = .ok (.iconst 3, 1) := by decide +kernel
theorem d_State_init_82 : decode prog_6_method_1_code 82 = .ok (.newarray .int, 2) := by decide +kernel
theorem d_State_init_84 : decode prog_6_method_1_code 84 = .ok (.putfield 45, 3) := by decide +kernel
theorem d_State_init_87 : decode prog_6_method_1_code 87 = .ok (.aload_n 0, 1) := by decide +kernel
theorem d_State_init_88 : decode prog_6_method_1_code 88 = .ok (.iconst 3, 1) := by decide +kernel
theorem d_State_init_89 : decode prog_6_method_1_code 89 = .ok (.newarray .int, 2) := by decide +kernel
theorem d_State_init_91 : decode prog_6_method_1_code 91 = .ok (.putfield 48, 3) := by decide +kernel
theorem d_State_init_94 : decode prog_6_method_1_code 94 = .ok (.aload_n 0, 1) := by decide +kernel
theorem d_State_init_95 : decode prog_6_method_1_code 95 = .ok (.iconst 3, 1) := by decide +kernel
theorem d_State_init_96 : decode prog_6_method_1_code 96 = .ok (.newarray .int, 2) := by decide +kernel
theorem d_State_init_98 : decode prog_6_method_1_code 98 = .ok (.putfield 51, 3) := by decide +kernel
theorem d_State_init_101 : decode prog_6_method_1_code 101 = .ok (.aload_n 0, 1) := by decide +kernel
theorem d_State_init_102 : decode prog_6_method_1_code 102 = .ok (.iconst 4, 1) := by decide +kernel
theorem d_State_init_103 : decode prog_6_method_1_code 103 = .ok (.newarray .int, 2) := by decide +kernel
theorem d_State_init_105 : decode prog_6_method_1_code 105 = .ok (.putfield 54, 3) := by decide +kernel
theorem d_State_init_108 : decode prog_6_method_1_code 108 = .ok (.aload_n 0, 1) := by decide +kernel
theorem d_State_init_109 : decode prog_6_method_1_code 109 = .ok (.getfield 31, 3) := by decide +kernel
theorem d_State_init_112 : decode prog_6_method_1_code 112 = .ok (.sipush 500, 3) := by decide +kernel
theorem d_State_init_115 : decode prog_6_method_1_code 115 = .ok (.invokestatic 57, 3) := by decide +kernel
theorem d_State_init_118 : decode prog_6_method_1_code 118 = .ok (.aload_n 0, 1) := by decide +kernel
theorem d_State_init_119 : decode prog_6_method_1_code 119 = .ok (.getfield 45, 3) := by decide +kernel
theorem d_State_init_122 : decode prog_6_method_1_code 122 = .ok (.bipush 100, 2) := by decide +kernel
theorem d_State_init_124 : decode prog_6_method_1_code 124 = .ok (.invokestatic 57, 3) := by decide +kernel
theorem d_State_init_127 : decode prog_6_method_1_code 127 = .ok (.aload_n 0, 1) := by decide +kernel
theorem d_State_init_128 : decode prog_6_method_1_code 128 = .ok (.getfield 48, 3) := by decide +kernel
theorem d_State_init_131 : decode prog_6_method_1_code 131 = .ok (.sipush 1000, 3) := by decide +kernel
theorem d_State_init_134 : decode prog_6_method_1_code 134 = .ok (.invokestatic 57, 3) := by decide +kernel
theorem d_State_init_137 : decode prog_6_method_1_code 137 = .ok (.return_, 1) := by decide +kernel
theorem d_Table_init_0 : decode prog_7_method_1_code 0 = .ok (.aload_n 0, 1) := by decide +kernel
theorem d_Table_init_1 : decode prog_7_method_1_code 1 = .ok (.invokespecial 3, 3) := by decide +kernel
theorem d_Table_init_4 : decode prog_7_method_1_code 4 = .ok (.aload_n 0, 1) := by decide +kernel
theorem d_Table_init_5 : decode prog_7_method_1_code 5 = .ok (.new 9, 3) := by decide +kernel
theorem d_Table_init_8 : decode prog_7_method_1_code 8 = .ok (.dup, 1) := by decide +kernel
theorem d_Table_init_9 : decode prog_7_method_1_code 9 = .ok (.invokespecial 11, 3) := by decide +kernel
theorem d_Table_init_12 : decode prog_7_method_1_code 12 = .ok (.putfield 12, 3) := by decide +kernel
theorem d_Table_init_15 : decode prog_7_method_1_code 15 = .ok (.aload_n 0, 1) := by decide +kernel
theorem d_Table_init_16 : decode prog_7_method_1_code 16 = .ok (.new 9, 3) := by decide +kernel
theorem d_Table_init_19 : decode prog_7_method_1_code 19 = .ok (.dup, 1) := by decide +kernel
theorem d_Table_init_20 : decode prog_7_method_1_code 20 = .ok (.invokespecial 11, 3) := by decide +kernel
theorem d_Table_init_23 : decode prog_7_method_1_code 23 = .ok (.putfield 18, 3) := by decide +kernel
theorem d_Table_init_26 : decode prog_7_method_1_code 26 = .ok (.aload_n 0, 1) := by decide +kernel
theorem d_Table_init_27 : decode prog_7_method_1_code 27 = .ok (.sipush 147, 3) := by decide +kernel
theorem d_Table_init_30 : decode prog_7_method_1_code 30 = .ok (.newarray .int, 2) := by decide +kernel
theorem d_Table_init_32 : decode prog_7_method_1_code 32 = .ok (.putfield 21, 3) := by decide +kernel
theorem d_Table_init_35 : decode prog_7_method_1_code 35 = .ok (.aload_n 0, 1) := by decide +kernel
theorem d_Table_init_36 : decode prog_7_method_1_code 36 = .ok (.bipush 49, 2) := by decide +kernel
theorem d_Table_init_38 : decode prog_7_method_1_code 38 = .ok (.newarray .int, 2) := by decide +kernel
theorem d_Table_init_40 : decode prog_7_method_1_code 40 = .ok (.putfield 25, 3) := by decide +kernel
theorem d_Table_init_43 : decode prog_7_method_1_code 43 = .ok (.aload_n 0, 1) := by decide +kernel
theorem d_Table_init_44 : decode prog_7_method_1_code 44 = .ok (.getfield 25, 3) := by decide +kernel
theorem d_Table_init_47 : decode prog_7_method_1_code 47 = .ok (.ldc 28, 2) := by decide +kernel
theorem d_Table_init_49 : decode prog_7_method_1_code 49 = .ok (.invokestatic 29, 3) := by decide +kernel
theorem d_Table_init_52 : decode prog_7_method_1_code 52 = .ok (.return_, 1) := by decide +kernel
theorem d_Text_init_0 : decode prog_8_method_1_code 0 = .ok (.aload_n 0, 1) := by decide +kernel
theorem d_Text_init_1 : decode prog_8_method_1_code 1 = .ok (.invokespecial 3, 3) := by decide +kernel
theorem d_Text_init_4 : decode prog_8_method_1_code 4 = .ok (.aload_n 0, 1) := by decide +kernel
theorem d_Text_init_5 : decode prog_8_method_1_code 5 = .ok (.iconst (-1), 1) := by decide +kernel
theorem d_Text_init_6 : decode prog_8_method_1_code 6 = .ok (.putfield 11, 3) := by decide +kernel
theorem d_Text_init_9 : decode prog_8_method_1_code 9 = .ok (.aload_n 0, 1) := by decide +kernel
theorem d_Text_init_10 : decode prog_8_method_1_code 10 = .ok (.sipush 160, 3) := by decide +kernel
theorem d_Text_init_13 : decode prog_8_method_1_code 13 = .ok (.newarray .char, 2) := by decide +kernel
theorem d_Text_init_15 : decode prog_8_method_1_code 15 = .ok (.putfield 15, 3) := by decide +kernel
theorem d_Text_init_18 : decode prog_8_method_1_code 18 = .ok (.return_, 1) := by decide +kernel
theorem d_GT_init_0 : decode prog_1_method_1_code 0 = .ok (.aload_n 0, 1) := by decide +kernel
theorem d_GT_init_1 : decode prog_1_method_1_code 1 = .ok (.invokespecial 3, 3) := by decide +kernel
theorem d_GT_init_4 : decode prog_1_method_1_code 4 = .ok (.aload_n 0, 1) := by decide +kernel
theorem d_GT_init_5 : decode prog_1_method_1_code 5 = .ok (.new 9, 3) := by decide +kernel
theorem d_GT_init_8 : decode prog_1_method_1_code 8 = .ok (.dup, 1) := by decide +kernel
theorem d_GT_init_9 : decode prog_1_method_1_code 9 = .ok (.invokespecial 11, 3) := by decide +kernel
theorem d_GT_init_12 : decode prog_1_method_1_code 12 = .ok (.putfield 12, 3) := by decide +kernel
theorem d_GT_init_15 : decode prog_1_method_1_code 15 = .ok (.aload_n 0, 1) := by decide +kernel
theorem d_GT_init_16 : decode prog_1_method_1_code 16 = .ok (.new 16, 3) := by decide +kernel
theorem d_GT_init_19 : decode prog_1_method_1_code 19 = .ok (.dup, 1) := by decide +kernel
theorem d_GT_init_20 : decode prog_1_method_1_code 20 = .ok (.invokespecial 18, 3) := by decide +kernel
theorem d_GT_init_23 : decode prog_1_method_1_code 23 = .ok (.putfield 19, 3) := by decide +kernel
theorem d_GT_init_26 : decode prog_1_method_1_code 26 = .ok (.aload_n 0, 1) := by decide +kernel
theorem d_GT_init_27 : decode prog_1_method_1_code 27 = .ok (.new 23, 3) := by decide +kernel
theorem d_GT_init_30 : decode prog_1_method_1_code 30 = .ok (.dup, 1) := by decide +kernel
theorem d_GT_init_31 : decode prog_1_method_1_code 31 = .ok (.invokespecial 25, 3) := by decide +kernel
theorem d_GT_init_34 : decode prog_1_method_1_code 34 = .ok (.putfield 26, 3) := by decide +kernel
theorem d_GT_init_37 : decode prog_1_method_1_code 37 = .ok (.aload_n 0, 1) := by decide +kernel
theorem d_GT_init_38 : decode prog_1_method_1_code 38 = .ok (.new 30, 3) := by decide +kernel
theorem d_GT_init_41 : decode prog_1_method_1_code 41 = .ok (.dup, 1) := by decide +kernel
theorem d_GT_init_42 : decode prog_1_method_1_code 42 = .ok (.invokespecial 32, 3) := by decide +kernel
theorem d_GT_init_45 : decode prog_1_method_1_code 45 = .ok (.putfield 33, 3) := by decide +kernel
theorem d_GT_init_48 : decode prog_1_method_1_code 48 = .ok (.aload_n 0, 1) := by decide +kernel
theorem d_GT_init_49 : decode prog_1_method_1_code 49 = .ok (.new 37, 3) := by decide +kernel
theorem d_GT_init_52 : decode prog_1_method_1_code 52 = .ok (.dup, 1) := by decide +kernel
theorem d_GT_init_53 : decode prog_1_method_1_code 53 = .ok (.invokespecial 39, 3) := by decide +kernel
theorem d_GT_init_56 : decode prog_1_method_1_code 56 = .ok (.putfield 40, 3) := by decide +kernel
theorem d_GT_init_59 : decode prog_1_method_1_code 59 = .ok (.aload_n 0, 1) := by decide +kernel
theorem d_GT_init_60 : decode prog_1_method_1_code 60 = .ok (.new 44, 3) := by decide +kernel
theorem d_GT_init_63 : decode prog_1_method_1_code 63 = .ok (.dup, 1) := by decide +kernel
theorem d_GT_init_64 : decode prog_1_method_1_code 64 = .ok (.invokespecial 46, 3) := by decide +kernel
theorem d_GT_init_67 : decode prog_1_method_1_code 67 = .ok (.putfield 47, 3) := by decide +kernel
theorem d_GT_init_70 : decode prog_1_method_1_code 70 = .ok (.aload_n 0, 1) := by decide +kernel
theorem d_GT_init_71 : decode prog_1_method_1_code 71 = .ok (.new 44, 3) := by decide +kernel
theorem d_GT_init_74 : decode prog_1_method_1_code 74 = .ok (.dup, 1) := by decide +kernel
theorem d_GT_init_75 : decode prog_1_method_1_code 75 = .ok (.invokespecial 46, 3) := by decide +kernel
theorem d_GT_init_78 : decode prog_1_method_1_code 78 = .ok (.putfield 51, 3) := by decide +kernel
theorem d_GT_init_81 : decode prog_1_method_1_code 81 = .ok (.aload_n 0, 1) := by decide +kernel
theorem d_GT_init_82 : decode prog_1_method_1_code 82 = .ok (.iconst 3, 1) := by decide +kernel
theorem d_GT_init_83 : decode prog_1_method_1_code 83 = .ok (.newarray .int, 2) := by decide +kernel
theorem d_GT_init_85 : decode prog_1_method_1_code 85 = .ok (.putfield 54, 3) := by decide +kernel
theorem d_GT_init_88 : decode prog_1_method_1_code 88 = .ok (.aload_n 0, 1) := by decide +kernel
theorem d_GT_init_89 : decode prog_1_method_1_code 89 = .ok (.iconst 3, 1) := by decide +kernel
theorem d_GT_init_90 : decode prog_1_method_1_code 90 = .ok (.newarray .int, 2) := by decide +kernel
theorem d_GT_init_92 : decode prog_1_method_1_code 92 = .ok (.putfield 58, 3) := by decide +kernel
theorem d_GT_init_95 : decode prog_1_method_1_code 95 = .ok (.return_, 1) := by decide +kernel
-- links of the constructors
theorem in_Blend_init : ga_In mt_Blend_init := ⟨ga_mem 210 (by decide +kernel), by decide +kernel, by decide, ga_mem 19 (by decide +kernel), by decide +kernel⟩
theorem in_Borders_init : ga_In mt_Borders_init := ⟨ga_mem 46 (by decide +kernel), by decide +kernel, by decide, ga_mem 14 (by decide +kernel), by decide +kernel⟩
theorem in_History_init : ga_In mt_History_init := ⟨ga_mem 166 (by decide +kernel), by decide +kernel, by decide, ga_mem 17 (by decide +kernel), by decide +kernel⟩
theorem in_Path_init : ga_In mt_Path_init := ⟨ga_mem 89 (by decide +kernel), by decide +kernel, by decide, ga_mem 16 (by decide +kernel), by decide +kernel⟩
theorem in_State_init : ga_In mt_State_init := ⟨ga_mem 34 (by decide +kernel), by decide +kernel, by decide, ga_mem 12 (by decide +kernel), by decide +kernel⟩
theorem in_Table_init : ga_In mt_Table_init := ⟨ga_mem 40 (by decide +kernel), by decide +kernel, by decide, ga_mem 13 (by decide +kernel), by decide +kernel⟩
theorem in_Text_init : ga_In mt_Text_init := ⟨ga_mem 186 (by decide +kernel), by decide +kernel, by decide, ga_mem 18 (by decide +kernel), by decide +kernel⟩
theorem in_GT_init : ga_In mt_GT_init := ⟨ga_mem 26 (by decide +kernel), by decide +kernel, by decide, ga_mem 11 (by decide +kernel), by decide +kernel⟩
theorem lo_Blend_3 : Cond.methodLink "GainTables$Blend" 3 Lib.objectInit ∈ ga_T := ga_mem 211 (by decide +kernel)
theorem fc_Blend_9 : gc_FP "GainTables$Blend" 9 0 3 false .int := ⟨T_Blend, _, y_Blend, rfl, by decide, in_Blend, ga_mem 221 (by decide +kernel), rfl, ty_Blend, nm_Blend, rfl, rfl⟩
theorem lo_Borders_3 : Cond.methodLink "GainTables$Borders" 3 Lib.objectInit ∈ ga_T := ga_mem 47 (by decide +kernel)
theorem fc_Borders_9 : gc_FP "GainTables$Borders" 9 1 1 true (.array .int) := ⟨T_Borders, _, y_Borders, rfl, by decide, in_Borders, ga_mem 51 (by decide +kernel), rfl, ty_Borders, nm_Borders, rfl, rfl⟩
theorem fc_Borders_15 : gc_FP "GainTables$Borders" 15 1 2 true (.array .int) := ⟨T_Borders, _, y_Borders, rfl, by decide, in_Borders, ga_mem 52 (by decide +kernel), rfl, ty_Borders, nm_Borders, rfl, rfl⟩
theorem fc_Borders_18 : gc_FP "GainTables$Borders" 18 1 3 true (.array .int) := ⟨T_Borders, _, y_Borders, rfl, by decide, in_Borders, ga_mem 53 (by decide +kernel), rfl, ty_Borders, nm_Borders, rfl, rfl⟩
theorem lo_History_3 : Cond.methodLink "GainTables$History" 3 Lib.objectInit ∈ ga_T := ga_mem 167 (by decide +kernel)
theorem lc_History_9 : Cond.classLink "GainTables$History" 9 "GainTables$State" ∈ ga_T := ga_mem 168 (by decide +kernel)
theorem fc_History_11 : gc_FP "GainTables$History" 11 2 2 true (.array (.object "GainTables$State")) := ⟨T_History, _, y_History, rfl, by decide, in_History, ga_mem 174 (by decide +kernel), rfl, ty_History, nm_History, rfl, rfl⟩
theorem ic_State : Cond.instantiable "GainTables$State" 15 ∈ ga_T ∧ Cond.initialized "GainTables$State" ∈ ga_T := ⟨ga_mem 31 (by decide +kernel), ga_mem 12 (by decide +kernel)⟩
theorem li_History_17 : gc_LI "GainTables$History" 17 mt_State_init := ⟨in_State_init, rfl, ga_mem 33 (by decide +kernel), rfl, by decide +kernel, Or.inl (ga_mem 170 (by decide +kernel))⟩
theorem lo_Path_3 : Cond.methodLink "GainTables$Path" 3 Lib.objectInit ∈ ga_T := ga_mem 90 (by decide +kernel)
theorem fc_Path_9 : gc_FP "GainTables$Path" 9 3 2 true (.array .int) := ⟨T_Path, _, y_Path, rfl, by decide, in_Path, ga_mem 94 (by decide +kernel), rfl, ty_Path, nm_Path, rfl, rfl⟩
theorem lo_State_3 : Cond.methodLink "GainTables$State" 3 Lib.objectInit ∈ ga_T := ga_mem 35 (by decide +kernel)
theorem lc_State_9 : Cond.classLink "GainTables$State" 9 "GainTables$Table" ∈ ga_T := ga_mem 36 (by decide +kernel)
theorem ic_Table : Cond.instantiable "GainTables$Table" 4 ∈ ga_T ∧ Cond.initialized "GainTables$Table" ∈ ga_T := ⟨ga_mem 37 (by decide +kernel), ga_mem 13 (by decide +kernel)⟩
theorem li_State_11 : gc_LI "GainTables$State" 11 mt_Table_init := ⟨in_Table_init, rfl, ga_mem 39 (by decide +kernel), rfl, by decide +kernel, Or.inl (ga_mem 38 (by decide +kernel))⟩
theorem fc_State_12 : gc_FP "GainTables$State" 12 4 0 true (.object "GainTables$Table") := ⟨T_State, _, y_State, rfl, by decide, in_State, ga_mem 104 (by decide +kernel), rfl, ty_State, nm_State, rfl, rfl⟩
theorem fc_State_18 : gc_FP "GainTables$State" 18 4 1 true (.object "GainTables$Table") := ⟨T_State, _, y_State, rfl, by decide, in_State, ga_mem 106 (by decide +kernel), rfl, ty_State, nm_State, rfl, rfl⟩
theorem fc_State_21 : gc_FP "GainTables$State" 21 4 2 true (.object "GainTables$Table") := ⟨T_State, _, y_State, rfl, by decide, in_State, ga_mem 107 (by decide +kernel), rfl, ty_State, nm_State, rfl, rfl⟩
theorem fc_State_24 : gc_FP "GainTables$State" 24 4 3 true (.object "GainTables$Table") := ⟨T_State, _, y_State, rfl, by decide, in_State, ga_mem 108 (by decide +kernel), rfl, ty_State, nm_State, rfl, rfl⟩
theorem fc_State_27 : gc_FP "GainTables$State" 27 4 4 true (.array .boolean) := ⟨T_State, _, y_State, rfl, by decide, in_State, ga_mem 109 (by decide +kernel), rfl, ty_State, nm_State, rfl, rfl⟩
theorem fc_State_31 : gc_FP "GainTables$State" 31 4 5 true (.array .int) := ⟨T_State, _, y_State, rfl, by decide, in_State, ga_mem 111 (by decide +kernel), rfl, ty_State, nm_State, rfl, rfl⟩
theorem fc_State_35 : gc_FP "GainTables$State" 35 4 6 true (.array .int) := ⟨T_State, _, y_State, rfl, by decide, in_State, ga_mem 113 (by decide +kernel), rfl, ty_State, nm_State, rfl, rfl⟩
theorem lc_State_38 : Cond.classLink "GainTables$State" 38 "GainTables$Path" ∈ ga_T := ga_mem 85 (by decide +kernel)
theorem ic_Path : Cond.instantiable "GainTables$Path" 3 ∈ ga_T ∧ Cond.initialized "GainTables$Path" ∈ ga_T := ⟨ga_mem 86 (by decide +kernel), ga_mem 16 (by decide +kernel)⟩
theorem li_State_40 : gc_LI "GainTables$State" 40 mt_Path_init := ⟨in_Path_init, rfl, ga_mem 88 (by decide +kernel), rfl, by decide +kernel, Or.inr (fun U h => h.2.2.1)⟩
theorem fc_State_41 : gc_FP "GainTables$State" 41 4 8 true (.object "GainTables$Path") := ⟨T_State, _, y_State, rfl, by decide, in_State, ga_mem 117 (by decide +kernel), rfl, ty_State, nm_State, rfl, rfl⟩
theorem fc_State_45 : gc_FP "GainTables$State" 45 4 11 true (.array .int) := ⟨T_State, _, y_State, rfl, by decide, in_State, ga_mem 123 (by decide +kernel), rfl, ty_State, nm_State, rfl, rfl⟩
theorem fc_State_48 : gc_FP "GainTables$State" 48 4 12 true (.array .int) := ⟨T_State, _, y_State, rfl, by decide, in_State, ga_mem 125 (by decide +kernel), rfl, ty_State, nm_State, rfl, rfl⟩
theorem fc_State_51 : gc_FP "GainTables$State" 51 4 13 true (.array .int) := ⟨T_State, _, y_State, rfl, by decide, in_State, ga_mem 127 (by decide +kernel), rfl, ty_State, nm_State, rfl, rfl⟩
theorem fc_State_54 : gc_FP "GainTables$State" 54 4 14 true (.array .int) := ⟨T_State, _, y_State, rfl, by decide, in_State, ga_mem 129 (by decide +kernel), rfl, ty_State, nm_State, rfl, rfl⟩
theorem lk_State_57 : ga_LS "GainTables$State" 57 mt_Arr_fill 2 := ⟨in_Arr_fill, ga_mem 103 (by decide +kernel), ga_mem 66 (by decide +kernel), by decide +kernel⟩
theorem lo_Table_3 : Cond.methodLink "GainTables$Table" 3 Lib.objectInit ∈ ga_T := ga_mem 41 (by decide +kernel)
theorem lc_Table_9 : Cond.classLink "GainTables$Table" 9 "GainTables$Borders" ∈ ga_T := ga_mem 42 (by decide +kernel)
theorem ic_Borders : Cond.instantiable "GainTables$Borders" 4 ∈ ga_T ∧ Cond.initialized "GainTables$Borders" ∈ ga_T := ⟨ga_mem 43 (by decide +kernel), ga_mem 14 (by decide +kernel)⟩
theorem li_Table_11 : gc_LI "GainTables$Table" 11 mt_Borders_init := ⟨in_Borders_init, rfl, ga_mem 45 (by decide +kernel), rfl, by decide +kernel, Or.inr (fun U h => h.2.1)⟩
theorem fc_Table_12 : gc_FP "GainTables$Table" 12 5 0 true (.object "GainTables$Borders") := ⟨T_Table, _, y_Table, rfl, by decide, in_Table, ga_mem 68 (by decide +kernel), rfl, ty_Table, nm_Table, rfl, rfl⟩
theorem fc_Table_18 : gc_FP "GainTables$Table" 18 5 1 true (.object "GainTables$Borders") := ⟨T_Table, _, y_Table, rfl, by decide, in_Table, ga_mem 71 (by decide +kernel), rfl, ty_Table, nm_Table, rfl, rfl⟩
theorem fc_Table_21 : gc_FP "GainTables$Table" 21 5 2 true (.array .int) := ⟨T_Table, _, y_Table, rfl, by decide, in_Table, ga_mem 74 (by decide +kernel), rfl, ty_Table, nm_Table, rfl, rfl⟩
theorem fc_Table_25 : gc_FP "GainTables$Table" 25 5 3 true (.array .int) := ⟨T_Table, _, y_Table, rfl, by decide, in_Table, ga_mem 75 (by decide +kernel), rfl, ty_Table, nm_Table, rfl, rfl⟩
theorem lk_Table_29 : ga_LS "GainTables$Table" 29 mt_Arr_fill 2 := ⟨in_Arr_fill, ga_mem 65 (by decide +kernel), ga_mem 66 (by decide +kernel), by decide +kernel⟩
theorem lo_Text_3 : Cond.methodLink "GainTables$Text" 3 Lib.objectInit ∈ ga_T := ga_mem 187 (by decide +kernel)
theorem fc_Text_11 : gc_FP "GainTables$Text" 11 6 1 false .int := ⟨T_Text, _, y_Text, rfl, by decide, in_Text, ga_mem 190 (by decide +kernel), rfl, ty_Text, nm_Text, rfl, rfl⟩
theorem fc_Text_15 : gc_FP "GainTables$Text" 15 6 3 true (.array .char) := ⟨T_Text, _, y_Text, rfl, by decide, in_Text, ga_mem 191 (by decide +kernel), rfl, ty_Text, nm_Text, rfl, rfl⟩
theorem lo_GT_3 : Cond.methodLink "GainTables" 3 Lib.objectInit ∈ ga_T := ga_mem 27 (by decide +kernel)
theorem lc_GT_9 : Cond.classLink "GainTables" 9 "GainTables$State" ∈ ga_T := ga_mem 30 (by decide +kernel)
theorem li_GT_11 : gc_LI "GainTables" 11 mt_State_init := ⟨in_State_init, rfl, ga_mem 33 (by decide +kernel), rfl, by decide +kernel, Or.inl (ga_mem 32 (by decide +kernel))⟩
theorem fc_GT_12 : gc_FP "GainTables" 12 7 0 true (.object "GainTables$State") := ⟨T_GT, _, y_GT, rfl, by decide, in_GT, ga_mem 233 (by decide +kernel), rfl, ty_GT, nm_GT, rfl, rfl⟩
theorem lc_GT_16 : Cond.classLink "GainTables" 16 "GainTables$History" ∈ ga_T := ga_mem 162 (by decide +kernel)
theorem ic_History : Cond.instantiable "GainTables$History" 3 ∈ ga_T ∧ Cond.initialized "GainTables$History" ∈ ga_T := ⟨ga_mem 163 (by decide +kernel), ga_mem 17 (by decide +kernel)⟩
theorem li_GT_18 : gc_LI "GainTables" 18 mt_History_init := ⟨in_History_init, rfl, ga_mem 165 (by decide +kernel), rfl, by decide +kernel, Or.inl (ga_mem 164 (by decide +kernel))⟩
theorem fc_GT_19 : gc_FP "GainTables" 19 7 1 true (.object "GainTables$History") := ⟨T_GT, _, y_GT, rfl, by decide, in_GT, ga_mem 234 (by decide +kernel), rfl, ty_GT, nm_GT, rfl, rfl⟩
theorem lc_GT_23 : Cond.classLink "GainTables" 23 "GainTables$Text" ∈ ga_T := ga_mem 182 (by decide +kernel)
theorem ic_Text : Cond.instantiable "GainTables$Text" 4 ∈ ga_T ∧ Cond.initialized "GainTables$Text" ∈ ga_T := ⟨ga_mem 183 (by decide +kernel), ga_mem 18 (by decide +kernel)⟩
theorem li_GT_25 : gc_LI "GainTables" 25 mt_Text_init := ⟨in_Text_init, rfl, ga_mem 185 (by decide +kernel), rfl, by decide +kernel, Or.inr (fun U h => h.2.2.2.1)⟩
theorem fc_GT_26 : gc_FP "GainTables" 26 7 2 true (.object "GainTables$Text") := ⟨T_GT, _, y_GT, rfl, by decide, in_GT, ga_mem 235 (by decide +kernel), rfl, ty_GT, nm_GT, rfl, rfl⟩
theorem lc_GT_30 : Cond.classLink "GainTables" 30 "GainTables$Table" ∈ ga_T := ga_mem 202 (by decide +kernel)
theorem li_GT_32 : gc_LI "GainTables" 32 mt_Table_init := ⟨in_Table_init, rfl, ga_mem 39 (by decide +kernel), rfl, by decide +kernel, Or.inl (ga_mem 203 (by decide +kernel))⟩
theorem fc_GT_33 : gc_FP "GainTables" 33 7 3 true (.object "GainTables$Table") := ⟨T_GT, _, y_GT, rfl, by decide, in_GT, ga_mem 236 (by decide +kernel), rfl, ty_GT, nm_GT, rfl, rfl⟩
theorem lc_GT_37 : Cond.classLink "GainTables" 37 "GainTables$Borders" ∈ ga_T := ga_mem 204 (by decide +kernel)
theorem li_GT_39 : gc_LI "GainTables" 39 mt_Borders_init := ⟨in_Borders_init, rfl, ga_mem 45 (by decide +kernel), rfl, by decide +kernel, Or.inr (fun U h => h.2.2.2.2.1)⟩
theorem fc_GT_40 : gc_FP "GainTables" 40 7 4 true (.object "GainTables$Borders") := ⟨T_GT, _, y_GT, rfl, by decide, in_GT, ga_mem 237 (by decide +kernel), rfl, ty_GT, nm_GT, rfl, rfl⟩
theorem lc_GT_44 : Cond.classLink "GainTables" 44 "GainTables$Blend" ∈ ga_T := ga_mem 206 (by decide +kernel)
theorem ic_Blend : Cond.instantiable "GainTables$Blend" 4 ∈ ga_T ∧ Cond.initialized "GainTables$Blend" ∈ ga_T := ⟨ga_mem 207 (by decide +kernel), ga_mem 19 (by decide +kernel)⟩
theorem li_GT_46 : gc_LI "GainTables" 46 mt_Blend_init := ⟨in_Blend_init, rfl, ga_mem 209 (by decide +kernel), rfl, by decide +kernel, Or.inr (fun U h => h.2.2.2.2.2.1)⟩
theorem fc_GT_47 : gc_FP "GainTables" 47 7 5 true (.object "GainTables$Blend") := ⟨T_GT, _, y_GT, rfl, by decide, in_GT, ga_mem 238 (by decide +kernel), rfl, ty_GT, nm_GT, rfl, rfl⟩
theorem fc_GT_51 : gc_FP "GainTables" 51 7 6 true (.object "GainTables$Blend") := ⟨T_GT, _, y_GT, rfl, by decide, in_GT, ga_mem 239 (by decide +kernel), rfl, ty_GT, nm_GT, rfl, rfl⟩
theorem fc_GT_54 : gc_FP "GainTables" 54 7 7 true (.array .int) := ⟨T_GT, _, y_GT, rfl, by decide, in_GT, ga_mem 240 (by decide +kernel), rfl, ty_GT, nm_GT, rfl, rfl⟩
theorem fc_GT_58 : gc_FP "GainTables" 58 7 8 true (.array .int) := ⟨T_GT, _, y_GT, rfl, by decide, in_GT, ga_mem 241 (by decide +kernel), rfl, ty_GT, nm_GT, rfl, rfl⟩
