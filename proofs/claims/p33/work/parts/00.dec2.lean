-- what the bytes say, instruction by instruction
theorem d_Table_numerator_0 : decode prog_7_method_13_code 0 = .ok (.aload_n 1, 1) := by decide +kernel
theorem d_Table_numerator_1 : decode prog_7_method_13_code 1 = .ok (.getfield 60, 3) := by decide +kernel
theorem d_Table_numerator_4 : decode prog_7_method_13_code 4 = .ok (.aload_n 1, 1) := by decide +kernel
theorem d_Table_numerator_5 : decode prog_7_method_13_code 5 = .ok (.getfield 65, 3) := by decide +kernel
theorem d_Table_numerator_8 : decode prog_7_method_13_code 8 = .ok (.isub, 1) := by decide +kernel
theorem d_Table_numerator_9 : decode prog_7_method_13_code 9 = .ok (.istore 4, 2) := by decide +kernel
theorem d_Table_numerator_11 : decode prog_7_method_13_code 11 = .ok (.aload_n 2, 1) := by decide +kernel
theorem d_Table_numerator_12 : decode prog_7_method_13_code 12 = .ok (.getfield 60, 3) := by decide +kernel
theorem d_Table_numerator_15 : decode prog_7_method_13_code 15 = .ok (.aload_n 2, 1) := by decide +kernel
theorem d_Table_numerator_16 : decode prog_7_method_13_code 16 = .ok (.getfield 65, 3) := by decide +kernel
theorem d_Table_numerator_19 : decode prog_7_method_13_code 19 = .ok (.isub, 1) := by decide +kernel
theorem d_Table_numerator_20 : decode prog_7_method_13_code 20 = .ok (.istore 5, 2) := by decide +kernel
theorem d_Table_numerator_22 : decode prog_7_method_13_code 22 = .ok (.iload 4, 2) := by decide +kernel
theorem d_Table_numerator_24 : decode prog_7_method_13_code 24 = .ok (.iload 5, 2) := by decide +kernel
theorem d_Table_numerator_26 : decode prog_7_method_13_code 26 = .ok (.imul, 1) := by decide +kernel
theorem d_Table_numerator_27 : decode prog_7_method_13_code 27 = .ok (.aload_n 0, 1) := by decide +kernel
theorem d_Table_numerator_28 : decode prog_7_method_13_code 28 = .ok (.aload_n 1, 1) := by decide +kernel
theorem d_Table_numerator_29 : decode prog_7_method_13_code 29 = .ok (.getfield 68, 3) := by decide +kernel
theorem d_Table_numerator_32 : decode prog_7_method_13_code 32 = .ok (.aload_n 2, 1) := by decide +kernel
theorem d_Table_numerator_33 : decode prog_7_method_13_code 33 = .ok (.getfield 68, 3) := by decide +kernel
theorem d_Table_numerator_36 : decode prog_7_method_13_code 36 = .ok (.invokestatic 49, 3) := by decide +kernel
theorem d_Table_numerator_39 : decode prog_7_method_13_code 39 = .ok (.iload_n 3, 1) := by decide +kernel
theorem d_Table_numerator_40 : decode prog_7_method_13_code 40 = .ok (.invokevirtual 57, 3) := by decide +kernel
theorem d_Table_numerator_43 : decode prog_7_method_13_code 43 = .ok (.imul, 1) := by decide +kernel
theorem d_Table_numerator_44 : decode prog_7_method_13_code 44 = .ok (.aload_n 1, 1) := by decide +kernel
theorem d_Table_numerator_45 : decode prog_7_method_13_code 45 = .ok (.getfield 65, 3) := by decide +kernel
theorem d_Table_numerator_48 : decode prog_7_method_13_code 48 = .ok (.iload 5, 2) := by decide +kernel
theorem d_Table_numerator_50 : decode prog_7_method_13_code 50 = .ok (.imul, 1) := by decide +kernel
theorem d_Table_numerator_51 : decode prog_7_method_13_code 51 = .ok (.aload_n 0, 1) := by decide +kernel
theorem d_Table_numerator_52 : decode prog_7_method_13_code 52 = .ok (.aload_n 1, 1) := by decide +kernel
theorem d_Table_numerator_53 : decode prog_7_method_13_code 53 = .ok (.getfield 71, 3) := by decide +kernel
theorem d_Table_numerator_56 : decode prog_7_method_13_code 56 = .ok (.aload_n 2, 1) := by decide +kernel
theorem d_Table_numerator_57 : decode prog_7_method_13_code 57 = .ok (.getfield 68, 3) := by decide +kernel
theorem d_Table_numerator_60 : decode prog_7_method_13_code 60 = .ok (.invokestatic 49, 3) := by decide +kernel
theorem d_Table_numerator_63 : decode prog_7_method_13_code 63 = .ok (.iload_n 3, 1) := by decide +kernel
theorem d_Table_numerator_64 : decode prog_7_method_13_code 64 = .ok (.invokevirtual 57, 3) := by decide +kernel
theorem d_Table_numerator_67 : decode prog_7_method_13_code 67 = .ok (.imul, 1) := by decide +kernel
theorem d_Table_numerator_68 : decode prog_7_method_13_code 68 = .ok (.iadd, 1) := by decide +kernel
theorem d_Table_numerator_69 : decode prog_7_method_13_code 69 = .ok (.iload 4, 2) := by decide +kernel
theorem d_Table_numerator_71 : decode prog_7_method_13_code 71 = .ok (.aload_n 2, 1) := by decide +kernel
theorem d_Table_numerator_72 : decode prog_7_method_13_code 72 = .ok (.getfield 65, 3) := by decide +kernel
theorem d_Table_numerator_75 : decode prog_7_method_13_code 75 = .ok (.imul, 1) := by decide +kernel
theorem d_Table_numerator_76 : decode prog_7_method_13_code 76 = .ok (.aload_n 0, 1) := by decide +kernel
theorem d_Table_numerator_77 : decode prog_7_method_13_code 77 = .ok (.aload_n 1, 1) := by decide +kernel
theorem d_Table_numerator_78 : decode prog_7_method_13_code 78 = .ok (.getfield 68, 3) := by decide +kernel
theorem d_Table_numerator_81 : decode prog_7_method_13_code 81 = .ok (.aload_n 2, 1) := by decide +kernel
theorem d_Table_numerator_82 : decode prog_7_method_13_code 82 = .ok (.getfield 71, 3) := by decide +kernel
theorem d_Table_numerator_85 : decode prog_7_method_13_code 85 = .ok (.invokestatic 49, 3) := by decide +kernel
theorem d_Table_numerator_88 : decode prog_7_method_13_code 88 = .ok (.iload_n 3, 1) := by decide +kernel
theorem d_Table_numerator_89 : decode prog_7_method_13_code 89 = .ok (.invokevirtual 57, 3) := by decide +kernel
theorem d_Table_numerator_92 : decode prog_7_method_13_code 92 = .ok (.imul, 1) := by decide +kernel
theorem d_Table_numerator_93 : decode prog_7_method_13_code 93 = .ok (.iadd, 1) := by decide +kernel
theorem d_Table_numerator_94 : decode prog_7_method_13_code 94 = .ok (.aload_n 1, 1) := by decide +kernel
theorem d_Table_numerator_95 : decode prog_7_method_13_code 95 = .ok (.getfield 65, 3) := by decide +kernel
theorem d_Table_numerator_98 : decode prog_7_method_13_code 98 = .ok (.aload_n 2, 1) := by decide +kernel
theorem d_Table_numerator_99 : decode prog_7_method_13_code 99 = .ok (.getfield 65, 3) := by decide +kernel
theorem d_Table_numerator_102 : decode prog_7_method_13_code 102 = .ok (.imul, 1) := by decide +kernel
theorem d_Table_numerator_103 : decode prog_7_method_13_code 103 = .ok (.aload_n 0, 1) := by decide +kernel
theorem d_Table_numerator_104 : decode prog_7_method_13_code 104 = .ok (.aload_n 1, 1) := by decide +kernel
theorem d_Table_numerator_105 : decode prog_7_method_13_code 105 = .ok (.getfield 71, 3) := by decide +kernel
theorem d_Table_numerator_108 : decode prog_7_method_13_code 108 = .ok (.aload_n 2, 1) := by decide +kernel
theorem d_Table_numerator_109 : decode prog_7_method_13_code 109 = .ok (.getfield 71, 3) := by decide +kernel
theorem d_Table_numerator_112 : decode prog_7_method_13_code 112 = .ok (.invokestatic 49, 3) := by decide +kernel
theorem d_Table_numerator_115 : decode prog_7_method_13_code 115 = .ok (.iload_n 3, 1) := by decide +kernel
theorem d_Table_numerator_116 : decode prog_7_method_13_code 116 = .ok (.invokevirtual 57, 3) := by decide +kernel
theorem d_Table_numerator_119 : decode prog_7_method_13_code 119 = .ok (.imul, 1) := by decide +kernel
theorem d_Table_numerator_120 : decode prog_7_method_13_code 120 = .ok (.iadd, 1) := by decide +kernel
theorem d_Table_numerator_121 : decode prog_7_method_13_code 121 = .ok (.ireturn, 1) := by decide +kernel
theorem d_State_putPoint_0 : decode prog_6_method_10_code 0 = .ok (.aload_n 0, 1) := by decide +kernel
theorem d_State_putPoint_1 : decode prog_6_method_10_code 1 = .ok (.getfield 31, 3) := by decide +kernel
theorem d_State_putPoint_4 : decode prog_6_method_10_code 4 = .ok (.iconst 0, 1) := by decide +kernel
theorem d_State_putPoint_5 : decode prog_6_method_10_code 5 = .ok (.iload_n 1, 1) := by decide +kernel
theorem d_State_putPoint_6 : decode prog_6_method_10_code 6 = .ok (.iastore, 1) := by decide +kernel
theorem d_State_putPoint_7 : decode prog_6_method_10_code 7 = .ok (.aload_n 0, 1) := by decide +kernel
theorem d_State_putPoint_8 : decode prog_6_method_10_code 8 = .ok (.getfield 31, 3) := by decide +kernel
theorem d_State_putPoint_11 : decode prog_6_method_10_code 11 = .ok (.iconst 1, 1) := by decide +kernel
theorem d_State_putPoint_12 : decode prog_6_method_10_code 12 = .ok (.iload_n 2, 1) := by decide +kernel
theorem d_State_putPoint_13 : decode prog_6_method_10_code 13 = .ok (.iastore, 1) := by decide +kernel
theorem d_State_putPoint_14 : decode prog_6_method_10_code 14 = .ok (.aload_n 0, 1) := by decide +kernel
theorem d_State_putPoint_15 : decode prog_6_method_10_code 15 = .ok (.getfield 35, 3) := by decide +kernel
theorem d_State_putPoint_18 : decode prog_6_method_10_code 18 = .ok (.iconst 0, 1) := by decide +kernel
theorem d_State_putPoint_19 : decode prog_6_method_10_code 19 = .ok (.aload_n 0, 1) := by decide +kernel
theorem d_State_putPoint_20 : decode prog_6_method_10_code 20 = .ok (.getfield 12, 3) := by decide +kernel
theorem d_State_putPoint_23 : decode prog_6_method_10_code 23 = .ok (.getfield 86, 3) := by decide +kernel
theorem d_State_putPoint_26 : decode prog_6_method_10_code 26 = .ok (.aload_n 0, 1) := by decide +kernel
theorem d_State_putPoint_27 : decode prog_6_method_10_code 27 = .ok (.getfield 35, 3) := by decide +kernel
theorem d_State_putPoint_30 : decode prog_6_method_10_code 30 = .ok (.iconst 0, 1) := by decide +kernel
theorem d_State_putPoint_31 : decode prog_6_method_10_code 31 = .ok (.iaload, 1) := by decide +kernel
theorem d_State_putPoint_32 : decode prog_6_method_10_code 32 = .ok (.iload_n 1, 1) := by decide +kernel
theorem d_State_putPoint_33 : decode prog_6_method_10_code 33 = .ok (.invokevirtual 115, 3) := by decide +kernel
theorem d_State_putPoint_36 : decode prog_6_method_10_code 36 = .ok (.iastore, 1) := by decide +kernel
theorem d_State_putPoint_37 : decode prog_6_method_10_code 37 = .ok (.aload_n 0, 1) := by decide +kernel
theorem d_State_putPoint_38 : decode prog_6_method_10_code 38 = .ok (.getfield 35, 3) := by decide +kernel
theorem d_State_putPoint_41 : decode prog_6_method_10_code 41 = .ok (.iconst 1, 1) := by decide +kernel
theorem d_State_putPoint_42 : decode prog_6_method_10_code 42 = .ok (.aload_n 0, 1) := by decide +kernel
theorem d_State_putPoint_43 : decode prog_6_method_10_code 43 = .ok (.getfield 12, 3) := by decide +kernel
theorem d_State_putPoint_46 : decode prog_6_method_10_code 46 = .ok (.getfield 96, 3) := by decide +kernel
theorem d_State_putPoint_49 : decode prog_6_method_10_code 49 = .ok (.aload_n 0, 1) := by decide +kernel
theorem d_State_putPoint_50 : decode prog_6_method_10_code 50 = .ok (.getfield 35, 3) := by decide +kernel
theorem d_State_putPoint_53 : decode prog_6_method_10_code 53 = .ok (.iconst 1, 1) := by decide +kernel
theorem d_State_putPoint_54 : decode prog_6_method_10_code 54 = .ok (.iaload, 1) := by decide +kernel
theorem d_State_putPoint_55 : decode prog_6_method_10_code 55 = .ok (.iload_n 2, 1) := by decide +kernel
theorem d_State_putPoint_56 : decode prog_6_method_10_code 56 = .ok (.invokevirtual 115, 3) := by decide +kernel
theorem d_State_putPoint_59 : decode prog_6_method_10_code 59 = .ok (.iastore, 1) := by decide +kernel
theorem d_State_putPoint_60 : decode prog_6_method_10_code 60 = .ok (.return_, 1) := by decide +kernel
theorem d_Borders_zoneAfter_0 : decode prog_3_method_14_code 0 = .ok (.iload_n 1, 1) := by decide +kernel
theorem d_Borders_zoneAfter_1 : decode prog_3_method_14_code 1 = .ok (.istore_n 3, 1) := by decide +kernel
theorem d_Borders_zoneAfter_2 : decode prog_3_method_14_code 2 = .ok (.iconst 0, 1) := by decide +kernel
theorem d_Borders_zoneAfter_3 : decode prog_3_method_14_code 3 = .ok (.istore 4, 2) := by decide +kernel
theorem d_Borders_zoneAfter_5 : decode prog_3_method_14_code 5 = .ok (.iconst 0, 1) := by decide +kernel
theorem d_Borders_zoneAfter_6 : decode prog_3_method_14_code 6 = .ok (.istore 5, 2) := by decide +kernel
theorem d_Borders_zoneAfter_8 : decode prog_3_method_14_code 8 = .ok (.iload 5, 2) := by decide +kernel
theorem d_Borders_zoneAfter_10 : decode prog_3_method_14_code 10 = .ok (.aload_n 0, 1) := by decide +kernel
theorem d_Borders_zoneAfter_11 : decode prog_3_method_14_code 11 = .ok (.getfield 21, 3) := by decide +kernel
theorem d_Borders_zoneAfter_14 : decode prog_3_method_14_code 14 = .ok (.if_icmp .ge 50, 3) := by decide +kernel
theorem d_Borders_zoneAfter_17 : decode prog_3_method_14_code 17 = .ok (.aload_n 0, 1) := by decide +kernel
theorem d_Borders_zoneAfter_18 : decode prog_3_method_14_code 18 = .ok (.getfield 15, 3) := by decide +kernel
theorem d_Borders_zoneAfter_21 : decode prog_3_method_14_code 21 = .ok (.iload 5, 2) := by decide +kernel
theorem d_Borders_zoneAfter_23 : decode prog_3_method_14_code 23 = .ok (.iaload, 1) := by decide +kernel
theorem d_Borders_zoneAfter_24 : decode prog_3_method_14_code 24 = .ok (.ifCond .ne 34, 3) := by decide +kernel
theorem d_Borders_zoneAfter_27 : decode prog_3_method_14_code 27 = .ok (.iload 4, 2) := by decide +kernel
theorem d_Borders_zoneAfter_29 : decode prog_3_method_14_code 29 = .ok (.iload_n 3, 1) := by decide +kernel
theorem d_Borders_zoneAfter_30 : decode prog_3_method_14_code 30 = .ok (.if_icmp .ne 25, 3) := by decide +kernel
theorem d_Borders_zoneAfter_33 : decode prog_3_method_14_code 33 = .ok (.iload_n 2, 1) := by decide +kernel
theorem d_Borders_zoneAfter_34 : decode prog_3_method_14_code 34 = .ok (.aload_n 0, 1) := by decide +kernel
theorem d_Borders_zoneAfter_35 : decode prog_3_method_14_code 35 = .ok (.getfield 9, 3) := by decide +kernel
theorem d_Borders_zoneAfter_38 : decode prog_3_method_14_code 38 = .ok (.iload 5, 2) := by decide +kernel
theorem d_Borders_zoneAfter_40 : decode prog_3_method_14_code 40 = .ok (.iaload, 1) := by decide +kernel
theorem d_Borders_zoneAfter_41 : decode prog_3_method_14_code 41 = .ok (.aload_n 0, 1) := by decide +kernel
theorem d_Borders_zoneAfter_42 : decode prog_3_method_14_code 42 = .ok (.getfield 18, 3) := by decide +kernel
theorem d_Borders_zoneAfter_45 : decode prog_3_method_14_code 45 = .ok (.iload 5, 2) := by decide +kernel
theorem d_Borders_zoneAfter_47 : decode prog_3_method_14_code 47 = .ok (.iaload, 1) := by decide +kernel
theorem d_Borders_zoneAfter_48 : decode prog_3_method_14_code 48 = .ok (.iadd, 1) := by decide +kernel
theorem d_Borders_zoneAfter_49 : decode prog_3_method_14_code 49 = .ok (.if_icmp .lt 6, 3) := by decide +kernel
theorem d_Borders_zoneAfter_52 : decode prog_3_method_14_code 52 = .ok (.iinc 3 1, 3) := by decide +kernel
theorem d_Borders_zoneAfter_55 : decode prog_3_method_14_code 55 = .ok (.iinc 4 1, 3) := by decide +kernel
theorem d_Borders_zoneAfter_58 : decode prog_3_method_14_code 58 = .ok (.iinc 5 1, 3) := by decide +kernel
theorem d_Borders_zoneAfter_61 : decode prog_3_method_14_code 61 = .ok (.goto (-53), 3) := by decide +kernel
theorem d_Borders_zoneAfter_64 : decode prog_3_method_14_code 64 = .ok (.aload_n 0, 1) := by decide +kernel
theorem d_Borders_zoneAfter_65 : decode prog_3_method_14_code 65 = .ok (.getfield 21, 3) := by decide +kernel
theorem d_Borders_zoneAfter_68 : decode prog_3_method_14_code 68 = .ok (.iconst 1, 1) := by decide +kernel
theorem d_Borders_zoneAfter_69 : decode prog_3_method_14_code 69 = .ok (.isub, 1) := by decide +kernel
theorem d_Borders_zoneAfter_70 : decode prog_3_method_14_code 70 = .ok (.istore 5, 2) := by decide +kernel
theorem d_Borders_zoneAfter_72 : decode prog_3_method_14_code 72 = .ok (.iload 5, 2) := by decide +kernel
theorem d_Borders_zoneAfter_74 : decode prog_3_method_14_code 74 = .ok (.ifCond .lt 50, 3) := by decide +kernel
theorem d_Borders_zoneAfter_77 : decode prog_3_method_14_code 77 = .ok (.aload_n 0, 1) := by decide +kernel
theorem d_Borders_zoneAfter_78 : decode prog_3_method_14_code 78 = .ok (.getfield 15, 3) := by decide +kernel
theorem d_Borders_zoneAfter_81 : decode prog_3_method_14_code 81 = .ok (.iload 5, 2) := by decide +kernel
theorem d_Borders_zoneAfter_83 : decode prog_3_method_14_code 83 = .ok (.iaload, 1) := by decide +kernel
theorem d_Borders_zoneAfter_84 : decode prog_3_method_14_code 84 = .ok (.ifCond .ne 34, 3) := by decide +kernel
theorem d_Borders_zoneAfter_87 : decode prog_3_method_14_code 87 = .ok (.iload 4, 2) := by decide +kernel
theorem d_Borders_zoneAfter_89 : decode prog_3_method_14_code 89 = .ok (.iload_n 3, 1) := by decide +kernel
theorem d_Borders_zoneAfter_90 : decode prog_3_method_14_code 90 = .ok (.if_icmp .ne 25, 3) := by decide +kernel
theorem d_Borders_zoneAfter_93 : decode prog_3_method_14_code 93 = .ok (.iload_n 2, 1) := by decide +kernel
theorem d_Borders_zoneAfter_94 : decode prog_3_method_14_code 94 = .ok (.aload_n 0, 1) := by decide +kernel
theorem d_Borders_zoneAfter_95 : decode prog_3_method_14_code 95 = .ok (.getfield 9, 3) := by decide +kernel
theorem d_Borders_zoneAfter_98 : decode prog_3_method_14_code 98 = .ok (.iload 5, 2) := by decide +kernel
theorem d_Borders_zoneAfter_100 : decode prog_3_method_14_code 100 = .ok (.iaload, 1) := by decide +kernel
theorem d_Borders_zoneAfter_101 : decode prog_3_method_14_code 101 = .ok (.aload_n 0, 1) := by decide +kernel
theorem d_Borders_zoneAfter_102 : decode prog_3_method_14_code 102 = .ok (.getfield 18, 3) := by decide +kernel
theorem d_Borders_zoneAfter_105 : decode prog_3_method_14_code 105 = .ok (.iload 5, 2) := by decide +kernel
theorem d_Borders_zoneAfter_107 : decode prog_3_method_14_code 107 = .ok (.iaload, 1) := by decide +kernel
theorem d_Borders_zoneAfter_108 : decode prog_3_method_14_code 108 = .ok (.isub, 1) := by decide +kernel
theorem d_Borders_zoneAfter_109 : decode prog_3_method_14_code 109 = .ok (.if_icmp .ge 6, 3) := by decide +kernel
theorem d_Borders_zoneAfter_112 : decode prog_3_method_14_code 112 = .ok (.iinc 3 (-1), 3) := by decide +kernel
theorem d_Borders_zoneAfter_115 : decode prog_3_method_14_code 115 = .ok (.iinc 4 (-1), 3) := by decide +kernel
theorem d_Borders_zoneAfter_118 : decode prog_3_method_14_code 118 = .ok (.iinc 5 (-1), 3) := by decide +kernel
theorem d_Borders_zoneAfter_121 : decode prog_3_method_14_code 121 = .ok (.goto (-49), 3) := by decide +kernel
theorem d_Borders_zoneAfter_124 : decode prog_3_method_14_code 124 = .ok (.iload_n 3, 1) := by decide +kernel
theorem d_Borders_zoneAfter_125 : decode prog_3_method_14_code 125 = .ok (.ireturn, 1) := by decide +kernel
theorem d_GT_greatestDifference_0 : decode prog_1_method_48_code 0 = .ok (.iconst 0, 1) := by decide +kernel
theorem d_GT_greatestDifference_1 : decode prog_1_method_48_code 1 = .ok (.istore_n 1, 1) := by decide +kernel
theorem d_GT_greatestDifference_2 : decode prog_1_method_48_code 2 = .ok (.iconst 0, 1) := by decide +kernel
theorem d_GT_greatestDifference_3 : decode prog_1_method_48_code 3 = .ok (.istore_n 2, 1) := by decide +kernel
theorem d_GT_greatestDifference_4 : decode prog_1_method_48_code 4 = .ok (.iload_n 2, 1) := by decide +kernel
theorem d_GT_greatestDifference_5 : decode prog_1_method_48_code 5 = .ok (.iconst 3, 1) := by decide +kernel
theorem d_GT_greatestDifference_6 : decode prog_1_method_48_code 6 = .ok (.if_icmp .ge 30, 3) := by decide +kernel
theorem d_GT_greatestDifference_9 : decode prog_1_method_48_code 9 = .ok (.iload_n 1, 1) := by decide +kernel
theorem d_GT_greatestDifference_10 : decode prog_1_method_48_code 10 = .ok (.aload_n 0, 1) := by decide +kernel
theorem d_GT_greatestDifference_11 : decode prog_1_method_48_code 11 = .ok (.getfield 58, 3) := by decide +kernel
theorem d_GT_greatestDifference_14 : decode prog_1_method_48_code 14 = .ok (.iload_n 2, 1) := by decide +kernel
theorem d_GT_greatestDifference_15 : decode prog_1_method_48_code 15 = .ok (.iaload, 1) := by decide +kernel
theorem d_GT_greatestDifference_16 : decode prog_1_method_48_code 16 = .ok (.aload_n 0, 1) := by decide +kernel
theorem d_GT_greatestDifference_17 : decode prog_1_method_48_code 17 = .ok (.getfield 54, 3) := by decide +kernel
theorem d_GT_greatestDifference_20 : decode prog_1_method_48_code 20 = .ok (.iload_n 2, 1) := by decide +kernel
theorem d_GT_greatestDifference_21 : decode prog_1_method_48_code 21 = .ok (.iaload, 1) := by decide +kernel
theorem d_GT_greatestDifference_22 : decode prog_1_method_48_code 22 = .ok (.isub, 1) := by decide +kernel
theorem d_GT_greatestDifference_23 : decode prog_1_method_48_code 23 = .ok (.invokestatic 337, 3) := by decide +kernel
theorem d_GT_greatestDifference_26 : decode prog_1_method_48_code 26 = .ok (.invokestatic 340, 3) := by decide +kernel
theorem d_GT_greatestDifference_29 : decode prog_1_method_48_code 29 = .ok (.istore_n 1, 1) := by decide +kernel
theorem d_GT_greatestDifference_30 : decode prog_1_method_48_code 30 = .ok (.iinc 2 1, 3) := by decide +kernel
theorem d_GT_greatestDifference_33 : decode prog_1_method_48_code 33 = .ok (.goto (-29), 3) := by decide +kernel
theorem d_GT_greatestDifference_36 : decode prog_1_method_48_code 36 = .ok (.iload_n 1, 1) := by decide +kernel
theorem d_GT_greatestDifference_37 : decode prog_1_method_48_code 37 = .ok (.ireturn, 1) := by decide +kernel
theorem d_State_noteEntry_0 : decode prog_6_method_11_code 0 = .ok (.aload_n 0, 1) := by decide +kernel
theorem d_State_noteEntry_1 : decode prog_6_method_11_code 1 = .ok (.getfield 41, 3) := by decide +kernel
theorem d_State_noteEntry_4 : decode prog_6_method_11_code 4 = .ok (.invokevirtual 119, 3) := by decide +kernel
theorem d_State_noteEntry_7 : decode prog_6_method_11_code 7 = .ok (.aload_n 0, 1) := by decide +kernel
theorem d_State_noteEntry_8 : decode prog_6_method_11_code 8 = .ok (.getfield 41, 3) := by decide +kernel
theorem d_State_noteEntry_11 : decode prog_6_method_11_code 11 = .ok (.iconst 0, 1) := by decide +kernel
theorem d_State_noteEntry_12 : decode prog_6_method_11_code 12 = .ok (.aload_n 0, 1) := by decide +kernel
theorem d_State_noteEntry_13 : decode prog_6_method_11_code 13 = .ok (.getfield 31, 3) := by decide +kernel
theorem d_State_noteEntry_16 : decode prog_6_method_11_code 16 = .ok (.iconst 0, 1) := by decide +kernel
theorem d_State_noteEntry_17 : decode prog_6_method_11_code 17 = .ok (.iaload, 1) := by decide +kernel
theorem d_State_noteEntry_18 : decode prog_6_method_11_code 18 = .ok (.invokevirtual 122, 3) := by decide +kernel
theorem d_State_noteEntry_21 : decode prog_6_method_11_code 21 = .ok (.aload_n 0, 1) := by decide +kernel
theorem d_State_noteEntry_22 : decode prog_6_method_11_code 22 = .ok (.getfield 41, 3) := by decide +kernel
theorem d_State_noteEntry_25 : decode prog_6_method_11_code 25 = .ok (.iconst 1, 1) := by decide +kernel
theorem d_State_noteEntry_26 : decode prog_6_method_11_code 26 = .ok (.aload_n 0, 1) := by decide +kernel
theorem d_State_noteEntry_27 : decode prog_6_method_11_code 27 = .ok (.getfield 31, 3) := by decide +kernel
theorem d_State_noteEntry_30 : decode prog_6_method_11_code 30 = .ok (.iconst 1, 1) := by decide +kernel
theorem d_State_noteEntry_31 : decode prog_6_method_11_code 31 = .ok (.iaload, 1) := by decide +kernel
theorem d_State_noteEntry_32 : decode prog_6_method_11_code 32 = .ok (.invokevirtual 122, 3) := by decide +kernel
theorem d_State_noteEntry_35 : decode prog_6_method_11_code 35 = .ok (.aload_n 0, 1) := by decide +kernel
theorem d_State_noteEntry_36 : decode prog_6_method_11_code 36 = .ok (.getfield 41, 3) := by decide +kernel
theorem d_State_noteEntry_39 : decode prog_6_method_11_code 39 = .ok (.iconst 2, 1) := by decide +kernel
theorem d_State_noteEntry_40 : decode prog_6_method_11_code 40 = .ok (.aload_n 0, 1) := by decide +kernel
theorem d_State_noteEntry_41 : decode prog_6_method_11_code 41 = .ok (.getfield 35, 3) := by decide +kernel
theorem d_State_noteEntry_44 : decode prog_6_method_11_code 44 = .ok (.iconst 0, 1) := by decide +kernel
theorem d_State_noteEntry_45 : decode prog_6_method_11_code 45 = .ok (.iaload, 1) := by decide +kernel
theorem d_State_noteEntry_46 : decode prog_6_method_11_code 46 = .ok (.invokevirtual 122, 3) := by decide +kernel
theorem d_State_noteEntry_49 : decode prog_6_method_11_code 49 = .ok (.aload_n 0, 1) := by decide +kernel
theorem d_State_noteEntry_50 : decode prog_6_method_11_code 50 = .ok (.getfield 41, 3) := by decide +kernel
theorem d_State_noteEntry_53 : decode prog_6_method_11_code 53 = .ok (.iconst 3, 1) := by decide +kernel
theorem d_State_noteEntry_54 : decode prog_6_method_11_code 54 = .ok (.aload_n 0, 1) := by decide +kernel
theorem d_State_noteEntry_55 : decode prog_6_method_11_code 55 = .ok (.getfield 35, 3) := by decide +kernel
theorem d_State_noteEntry_58 : decode prog_6_method_11_code 58 = .ok (.iconst 1, 1) := by decide +kernel
theorem d_State_noteEntry_59 : decode prog_6_method_11_code 59 = .ok (.iaload, 1) := by decide +kernel
theorem d_State_noteEntry_60 : decode prog_6_method_11_code 60 = .ok (.invokevirtual 122, 3) := by decide +kernel
theorem d_State_noteEntry_63 : decode prog_6_method_11_code 63 = .ok (.iconst 0, 1) := by decide +kernel
theorem d_State_noteEntry_64 : decode prog_6_method_11_code 64 = .ok (.istore_n 3, 1) := by decide +kernel
theorem d_State_noteEntry_65 : decode prog_6_method_11_code 65 = .ok (.iload_n 3, 1) := by decide +kernel
theorem d_State_noteEntry_66 : decode prog_6_method_11_code 66 = .ok (.aload_n 1, 1) := by decide +kernel
theorem d_State_noteEntry_67 : decode prog_6_method_11_code 67 = .ok (.arraylength, 1) := by decide +kernel
theorem d_State_noteEntry_68 : decode prog_6_method_11_code 68 = .ok (.if_icmp .ge 22, 3) := by decide +kernel
theorem d_State_noteEntry_71 : decode prog_6_method_11_code 71 = .ok (.aload_n 0, 1) := by decide +kernel
theorem d_State_noteEntry_72 : decode prog_6_method_11_code 72 = .ok (.getfield 41, 3) := by decide +kernel
theorem d_State_noteEntry_75 : decode prog_6_method_11_code 75 = .ok (.iconst 4, 1) := by decide +kernel
theorem d_State_noteEntry_76 : decode prog_6_method_11_code 76 = .ok (.iload_n 3, 1) := by decide +kernel
theorem d_State_noteEntry_77 : decode prog_6_method_11_code 77 = .ok (.iadd, 1) := by decide +kernel
theorem d_State_noteEntry_78 : decode prog_6_method_11_code 78 = .ok (.aload_n 1, 1) := by decide +kernel
theorem d_State_noteEntry_79 : decode prog_6_method_11_code 79 = .ok (.iload_n 3, 1) := by decide +kernel
theorem d_State_noteEntry_80 : decode prog_6_method_11_code 80 = .ok (.iaload, 1) := by decide +kernel
theorem d_State_noteEntry_81 : decode prog_6_method_11_code 81 = .ok (.invokevirtual 122, 3) := by decide +kernel
theorem d_State_noteEntry_84 : decode prog_6_method_11_code 84 = .ok (.iinc 3 1, 3) := by decide +kernel
theorem d_State_noteEntry_87 : decode prog_6_method_11_code 87 = .ok (.goto (-22), 3) := by decide +kernel
theorem d_State_noteEntry_90 : decode prog_6_method_11_code 90 = .ok (.aload_n 0, 1) := by decide +kernel
theorem d_State_noteEntry_91 : decode prog_6_method_11_code 91 = .ok (.getfield 41, 3) := by decide +kernel
theorem d_State_noteEntry_94 : decode prog_6_method_11_code 94 = .ok (.bipush 7, 2) := by decide +kernel
theorem d_State_noteEntry_96 : decode prog_6_method_11_code 96 = .ok (.iload_n 2, 1) := by decide +kernel
theorem d_State_noteEntry_97 : decode prog_6_method_11_code 97 = .ok (.invokevirtual 122, 3) := by decide +kernel
theorem d_State_noteEntry_100 : decode prog_6_method_11_code 100 = .ok (.return_, 1) := by decide +kernel
theorem d_Path_startEntry_0 : decode prog_5_method_3_code 0 = .ok (.aload_n 0, 1) := by decide +kernel
theorem d_Path_startEntry_1 : decode prog_5_method_3_code 1 = .ok (.aload_n 0, 1) := by decide +kernel
theorem d_Path_startEntry_2 : decode prog_5_method_3_code 2 = .ok (.getfield 19, 3) := by decide +kernel
theorem d_Path_startEntry_5 : decode prog_5_method_3_code 5 = .ok (.iconst 1, 1) := by decide +kernel
theorem d_Path_startEntry_6 : decode prog_5_method_3_code 6 = .ok (.iadd, 1) := by decide +kernel
theorem d_Path_startEntry_7 : decode prog_5_method_3_code 7 = .ok (.bipush 20, 2) := by decide +kernel
theorem d_Path_startEntry_9 : decode prog_5_method_3_code 9 = .ok (.irem, 1) := by decide +kernel
theorem d_Path_startEntry_10 : decode prog_5_method_3_code 10 = .ok (.putfield 19, 3) := by decide +kernel
theorem d_Path_startEntry_13 : decode prog_5_method_3_code 13 = .ok (.aload_n 0, 1) := by decide +kernel
theorem d_Path_startEntry_14 : decode prog_5_method_3_code 14 = .ok (.aload_n 0, 1) := by decide +kernel
theorem d_Path_startEntry_15 : decode prog_5_method_3_code 15 = .ok (.getfield 15, 3) := by decide +kernel
theorem d_Path_startEntry_18 : decode prog_5_method_3_code 18 = .ok (.iconst 1, 1) := by decide +kernel
theorem d_Path_startEntry_19 : decode prog_5_method_3_code 19 = .ok (.iadd, 1) := by decide +kernel
theorem d_Path_startEntry_20 : decode prog_5_method_3_code 20 = .ok (.bipush 20, 2) := by decide +kernel
theorem d_Path_startEntry_22 : decode prog_5_method_3_code 22 = .ok (.invokestatic 28, 3) := by decide +kernel
theorem d_Path_startEntry_25 : decode prog_5_method_3_code 25 = .ok (.putfield 15, 3) := by decide +kernel
theorem d_Path_startEntry_28 : decode prog_5_method_3_code 28 = .ok (.return_, 1) := by decide +kernel
theorem d_Path_putPart_0 : decode prog_5_method_4_code 0 = .ok (.aload_n 0, 1) := by decide +kernel
theorem d_Path_putPart_1 : decode prog_5_method_4_code 1 = .ok (.getfield 19, 3) := by decide +kernel
theorem d_Path_putPart_4 : decode prog_5_method_4_code 4 = .ok (.bipush 8, 2) := by decide +kernel
theorem d_Path_putPart_6 : decode prog_5_method_4_code 6 = .ok (.imul, 1) := by decide +kernel
theorem d_Path_putPart_7 : decode prog_5_method_4_code 7 = .ok (.iload_n 1, 1) := by decide +kernel
theorem d_Path_putPart_8 : decode prog_5_method_4_code 8 = .ok (.iadd, 1) := by decide +kernel
theorem d_Path_putPart_9 : decode prog_5_method_4_code 9 = .ok (.istore_n 3, 1) := by decide +kernel
theorem d_Path_putPart_10 : decode prog_5_method_4_code 10 = .ok (.iload_n 3, 1) := by decide +kernel
theorem d_Path_putPart_11 : decode prog_5_method_4_code 11 = .ok (.ifCond .lt 19, 3) := by decide +kernel
theorem d_Path_putPart_14 : decode prog_5_method_4_code 14 = .ok (.iload_n 3, 1) := by decide +kernel
theorem d_Path_putPart_15 : decode prog_5_method_4_code 15 = .ok (.aload_n 0, 1) := by decide +kernel
theorem d_Path_putPart_16 : decode prog_5_method_4_code 16 = .ok (.getfield 9, 3) := by decide +kernel
theorem d_Path_putPart_19 : decode prog_5_method_4_code 19 = .ok (.arraylength, 1) := by decide +kernel
theorem d_Path_putPart_20 : decode prog_5_method_4_code 20 = .ok (.if_icmp .ge 10, 3) := by decide +kernel
theorem d_Path_putPart_23 : decode prog_5_method_4_code 23 = .ok (.aload_n 0, 1) := by decide +kernel
theorem d_Path_putPart_24 : decode prog_5_method_4_code 24 = .ok (.getfield 9, 3) := by decide +kernel
theorem d_Path_putPart_27 : decode prog_5_method_4_code 27 = .ok (.iload_n 3, 1) := by decide +kernel
theorem d_Path_putPart_28 : decode prog_5_method_4_code 28 = .ok (.iload_n 2, 1) := by decide +kernel
theorem d_Path_putPart_29 : decode prog_5_method_4_code 29 = .ok (.iastore, 1) := by decide +kernel
theorem d_Path_putPart_30 : decode prog_5_method_4_code 30 = .ok (.return_, 1) := by decide +kernel
theorem d_GT_sweep_0 : decode prog_1_method_11_code 0 = .ok (.iload_n 1, 1) := by decide +kernel
theorem d_GT_sweep_1 : decode prog_1_method_11_code 1 = .ok (.invokestatic 61, 3) := by decide +kernel
theorem d_GT_sweep_4 : decode prog_1_method_11_code 4 = .ok (.ifCond .eq 21, 3) := by decide +kernel
theorem d_GT_sweep_7 : decode prog_1_method_11_code 7 = .ok (.iload_n 2, 1) := by decide +kernel
theorem d_GT_sweep_8 : decode prog_1_method_11_code 8 = .ok (.invokestatic 194, 3) := by decide +kernel
theorem d_GT_sweep_11 : decode prog_1_method_11_code 11 = .ok (.ifCond .eq 14, 3) := by decide +kernel
theorem d_GT_sweep_14 : decode prog_1_method_11_code 14 = .ok (.iload_n 3, 1) := by decide +kernel
theorem d_GT_sweep_15 : decode prog_1_method_11_code 15 = .ok (.iconst 1, 1) := by decide +kernel
theorem d_GT_sweep_16 : decode prog_1_method_11_code 16 = .ok (.sipush 1000, 3) := by decide +kernel
theorem d_GT_sweep_19 : decode prog_1_method_11_code 19 = .ok (.invokestatic 65, 3) := by decide +kernel
theorem d_GT_sweep_22 : decode prog_1_method_11_code 22 = .ok (.ifCond .ne 6, 3) := by decide +kernel
theorem d_GT_sweep_25 : decode prog_1_method_11_code 25 = .ok (.ldc 76, 2) := by decide +kernel
theorem d_GT_sweep_27 : decode prog_1_method_11_code 27 = .ok (.ireturn, 1) := by decide +kernel
theorem d_GT_sweep_28 : decode prog_1_method_11_code 28 = .ok (.aload_n 0, 1) := by decide +kernel
theorem d_GT_sweep_29 : decode prog_1_method_11_code 29 = .ok (.getfield 12, 3) := by decide +kernel
theorem d_GT_sweep_32 : decode prog_1_method_11_code 32 = .ok (.getfield 200, 3) := by decide +kernel
theorem d_GT_sweep_35 : decode prog_1_method_11_code 35 = .ok (.iload_n 1, 1) := by decide +kernel
theorem d_GT_sweep_36 : decode prog_1_method_11_code 36 = .ok (.iaload, 1) := by decide +kernel
theorem d_GT_sweep_37 : decode prog_1_method_11_code 37 = .ok (.istore 4, 2) := by decide +kernel
theorem d_GT_sweep_39 : decode prog_1_method_11_code 39 = .ok (.iload 4, 2) := by decide +kernel
theorem d_GT_sweep_41 : decode prog_1_method_11_code 41 = .ok (.iload_n 2, 1) := by decide +kernel
theorem d_GT_sweep_42 : decode prog_1_method_11_code 42 = .ok (.if_icmp .ne 6, 3) := by decide +kernel
theorem d_GT_sweep_45 : decode prog_1_method_11_code 45 = .ok (.ldc 87, 2) := by decide +kernel
theorem d_GT_sweep_47 : decode prog_1_method_11_code 47 = .ok (.ireturn, 1) := by decide +kernel
theorem d_GT_sweep_48 : decode prog_1_method_11_code 48 = .ok (.aload_n 0, 1) := by decide +kernel
theorem d_GT_sweep_49 : decode prog_1_method_11_code 49 = .ok (.getfield 19, 3) := by decide +kernel
theorem d_GT_sweep_52 : decode prog_1_method_11_code 52 = .ok (.aload_n 0, 1) := by decide +kernel
theorem d_GT_sweep_53 : decode prog_1_method_11_code 53 = .ok (.getfield 12, 3) := by decide +kernel
theorem d_GT_sweep_56 : decode prog_1_method_11_code 56 = .ok (.invokevirtual 93, 3) := by decide +kernel
theorem d_GT_sweep_59 : decode prog_1_method_11_code 59 = .ok (.iconst 0, 1) := by decide +kernel
theorem d_GT_sweep_60 : decode prog_1_method_11_code 60 = .ok (.istore 5, 2) := by decide +kernel
theorem d_GT_sweep_62 : decode prog_1_method_11_code 62 = .ok (.iconst 0, 1) := by decide +kernel
theorem d_GT_sweep_63 : decode prog_1_method_11_code 63 = .ok (.istore 6, 2) := by decide +kernel
theorem d_GT_sweep_65 : decode prog_1_method_11_code 65 = .ok (.iload 6, 2) := by decide +kernel
theorem d_GT_sweep_67 : decode prog_1_method_11_code 67 = .ok (.sipush 1000, 3) := by decide +kernel
theorem d_GT_sweep_70 : decode prog_1_method_11_code 70 = .ok (.if_icmp .ge 91, 3) := by decide +kernel
theorem d_GT_sweep_73 : decode prog_1_method_11_code 73 = .ok (.iload 4, 2) := by decide +kernel
theorem d_GT_sweep_75 : decode prog_1_method_11_code 75 = .ok (.iload_n 2, 1) := by decide +kernel
theorem d_GT_sweep_76 : decode prog_1_method_11_code 76 = .ok (.if_icmp .eq 85, 3) := by decide +kernel
theorem d_GT_sweep_79 : decode prog_1_method_11_code 79 = .ok (.iload 4, 2) := by decide +kernel
theorem d_GT_sweep_81 : decode prog_1_method_11_code 81 = .ok (.iload_n 2, 1) := by decide +kernel
theorem d_GT_sweep_82 : decode prog_1_method_11_code 82 = .ok (.iload_n 3, 1) := by decide +kernel
theorem d_GT_sweep_83 : decode prog_1_method_11_code 83 = .ok (.invokestatic 203, 3) := by decide +kernel
theorem d_GT_sweep_86 : decode prog_1_method_11_code 86 = .ok (.istore 4, 2) := by decide +kernel
theorem d_GT_sweep_88 : decode prog_1_method_11_code 88 = .ok (.aload_n 0, 1) := by decide +kernel
theorem d_GT_sweep_89 : decode prog_1_method_11_code 89 = .ok (.getfield 12, 3) := by decide +kernel
theorem d_GT_sweep_92 : decode prog_1_method_11_code 92 = .ok (.getfield 207, 3) := by decide +kernel
theorem d_GT_sweep_95 : decode prog_1_method_11_code 95 = .ok (.iload_n 1, 1) := by decide +kernel
theorem d_GT_sweep_96 : decode prog_1_method_11_code 96 = .ok (.iaload, 1) := by decide +kernel
theorem d_GT_sweep_97 : decode prog_1_method_11_code 97 = .ok (.istore 7, 2) := by decide +kernel
theorem d_GT_sweep_99 : decode prog_1_method_11_code 99 = .ok (.iload_n 1, 1) := by decide +kernel
theorem d_GT_sweep_100 : decode prog_1_method_11_code 100 = .ok (.ifCond .ne 22, 3) := by decide +kernel
theorem d_GT_sweep_103 : decode prog_1_method_11_code 103 = .ok (.aload_n 0, 1) := by decide +kernel
theorem d_GT_sweep_104 : decode prog_1_method_11_code 104 = .ok (.iload 4, 2) := by decide +kernel
theorem d_GT_sweep_106 : decode prog_1_method_11_code 106 = .ok (.aload_n 0, 1) := by decide +kernel
theorem d_GT_sweep_107 : decode prog_1_method_11_code 107 = .ok (.getfield 12, 3) := by decide +kernel
theorem d_GT_sweep_110 : decode prog_1_method_11_code 110 = .ok (.getfield 200, 3) := by decide +kernel
theorem d_GT_sweep_113 : decode prog_1_method_11_code 113 = .ok (.iconst 1, 1) := by decide +kernel
theorem d_GT_sweep_114 : decode prog_1_method_11_code 114 = .ok (.iaload, 1) := by decide +kernel
theorem d_GT_sweep_115 : decode prog_1_method_11_code 115 = .ok (.invokevirtual 197, 3) := by decide +kernel
theorem d_GT_sweep_118 : decode prog_1_method_11_code 118 = .ok (.pop, 1) := by decide +kernel
theorem d_GT_sweep_119 : decode prog_1_method_11_code 119 = .ok (.goto 19, 3) := by decide +kernel
theorem d_GT_sweep_122 : decode prog_1_method_11_code 122 = .ok (.aload_n 0, 1) := by decide +kernel
theorem d_GT_sweep_123 : decode prog_1_method_11_code 123 = .ok (.aload_n 0, 1) := by decide +kernel
theorem d_GT_sweep_124 : decode prog_1_method_11_code 124 = .ok (.getfield 12, 3) := by decide +kernel
theorem d_GT_sweep_127 : decode prog_1_method_11_code 127 = .ok (.getfield 200, 3) := by decide +kernel
theorem d_GT_sweep_130 : decode prog_1_method_11_code 130 = .ok (.iconst 0, 1) := by decide +kernel
theorem d_GT_sweep_131 : decode prog_1_method_11_code 131 = .ok (.iaload, 1) := by decide +kernel
theorem d_GT_sweep_132 : decode prog_1_method_11_code 132 = .ok (.iload 4, 2) := by decide +kernel
theorem d_GT_sweep_134 : decode prog_1_method_11_code 134 = .ok (.invokevirtual 197, 3) := by decide +kernel
theorem d_GT_sweep_137 : decode prog_1_method_11_code 137 = .ok (.pop, 1) := by decide +kernel
theorem d_GT_sweep_138 : decode prog_1_method_11_code 138 = .ok (.aload_n 0, 1) := by decide +kernel
theorem d_GT_sweep_139 : decode prog_1_method_11_code 139 = .ok (.getfield 12, 3) := by decide +kernel
theorem d_GT_sweep_142 : decode prog_1_method_11_code 142 = .ok (.getfield 207, 3) := by decide +kernel
theorem d_GT_sweep_145 : decode prog_1_method_11_code 145 = .ok (.iload_n 1, 1) := by decide +kernel
theorem d_GT_sweep_146 : decode prog_1_method_11_code 146 = .ok (.iaload, 1) := by decide +kernel
theorem d_GT_sweep_147 : decode prog_1_method_11_code 147 = .ok (.iload 7, 2) := by decide +kernel
theorem d_GT_sweep_149 : decode prog_1_method_11_code 149 = .ok (.if_icmp .eq 6, 3) := by decide +kernel
theorem d_GT_sweep_152 : decode prog_1_method_11_code 152 = .ok (.iinc 5 1, 3) := by decide +kernel
theorem d_GT_sweep_155 : decode prog_1_method_11_code 155 = .ok (.iinc 6 1, 3) := by decide +kernel
theorem d_GT_sweep_158 : decode prog_1_method_11_code 158 = .ok (.goto (-93), 3) := by decide +kernel
theorem d_GT_sweep_161 : decode prog_1_method_11_code 161 = .ok (.iload 5, 2) := by decide +kernel
theorem d_GT_sweep_163 : decode prog_1_method_11_code 163 = .ok (.ireturn, 1) := by decide +kernel
theorem d_GT_placeTowards_0 : decode prog_1_method_43_code 0 = .ok (.iload_n 0, 1) := by decide +kernel
theorem d_GT_placeTowards_1 : decode prog_1_method_43_code 1 = .ok (.iload_n 1, 1) := by decide +kernel
theorem d_GT_placeTowards_2 : decode prog_1_method_43_code 2 = .ok (.if_icmp .ge 13, 3) := by decide +kernel
theorem d_GT_placeTowards_5 : decode prog_1_method_43_code 5 = .ok (.iload_n 0, 1) := by decide +kernel
theorem d_GT_placeTowards_6 : decode prog_1_method_43_code 6 = .ok (.iload_n 2, 1) := by decide +kernel
theorem d_GT_placeTowards_7 : decode prog_1_method_43_code 7 = .ok (.iadd, 1) := by decide +kernel
theorem d_GT_placeTowards_8 : decode prog_1_method_43_code 8 = .ok (.iload_n 1, 1) := by decide +kernel
theorem d_GT_placeTowards_9 : decode prog_1_method_43_code 9 = .ok (.invokestatic 173, 3) := by decide +kernel
theorem d_GT_placeTowards_12 : decode prog_1_method_43_code 12 = .ok (.goto 10, 3) := by decide +kernel
theorem d_GT_placeTowards_15 : decode prog_1_method_43_code 15 = .ok (.iload_n 0, 1) := by decide +kernel
theorem d_GT_placeTowards_16 : decode prog_1_method_43_code 16 = .ok (.iload_n 2, 1) := by decide +kernel
theorem d_GT_placeTowards_17 : decode prog_1_method_43_code 17 = .ok (.isub, 1) := by decide +kernel
theorem d_GT_placeTowards_18 : decode prog_1_method_43_code 18 = .ok (.iload_n 1, 1) := by decide +kernel
theorem d_GT_placeTowards_19 : decode prog_1_method_43_code 19 = .ok (.invokestatic 340, 3) := by decide +kernel
theorem d_GT_placeTowards_22 : decode prog_1_method_43_code 22 = .ok (.ireturn, 1) := by decide +kernel
theorem d_GT_undo_0 : decode prog_1_method_14_code 0 = .ok (.aload_n 0, 1) := by decide +kernel
theorem d_GT_undo_1 : decode prog_1_method_14_code 1 = .ok (.getfield 19, 3) := by decide +kernel
theorem d_GT_undo_4 : decode prog_1_method_14_code 4 = .ok (.getfield 231, 3) := by decide +kernel
theorem d_GT_undo_7 : decode prog_1_method_14_code 7 = .ok (.ifCond .ne 6, 3) := by decide +kernel
theorem d_GT_undo_10 : decode prog_1_method_14_code 10 = .ok (.ldc 87, 2) := by decide +kernel
theorem d_GT_undo_12 : decode prog_1_method_14_code 12 = .ok (.ireturn, 1) := by decide +kernel
theorem d_GT_undo_13 : decode prog_1_method_14_code 13 = .ok (.aload_n 0, 1) := by decide +kernel
theorem d_GT_undo_14 : decode prog_1_method_14_code 14 = .ok (.getfield 19, 3) := by decide +kernel
theorem d_GT_undo_17 : decode prog_1_method_14_code 17 = .ok (.aload_n 0, 1) := by decide +kernel
theorem d_GT_undo_18 : decode prog_1_method_14_code 18 = .ok (.getfield 12, 3) := by decide +kernel
theorem d_GT_undo_21 : decode prog_1_method_14_code 21 = .ok (.invokevirtual 232, 3) := by decide +kernel
theorem d_GT_undo_24 : decode prog_1_method_14_code 24 = .ok (.aload_n 0, 1) := by decide +kernel
theorem d_GT_undo_25 : decode prog_1_method_14_code 25 = .ok (.getfield 19, 3) := by decide +kernel
theorem d_GT_undo_28 : decode prog_1_method_14_code 28 = .ok (.getfield 231, 3) := by decide +kernel
theorem d_GT_undo_31 : decode prog_1_method_14_code 31 = .ok (.ireturn, 1) := by decide +kernel
theorem d_History_bringBack_0 : decode prog_4_method_3_code 0 = .ok (.aload_n 0, 1) := by decide +kernel
theorem d_History_bringBack_1 : decode prog_4_method_3_code 1 = .ok (.getfield 18, 3) := by decide +kernel
theorem d_History_bringBack_4 : decode prog_4_method_3_code 4 = .ok (.ifCond .gt 4, 3) := by decide +kernel
theorem d_History_bringBack_7 : decode prog_4_method_3_code 7 = .ok (.return_, 1) := by decide +kernel
theorem d_History_bringBack_8 : decode prog_4_method_3_code 8 = .ok (.aload_n 0, 1) := by decide +kernel
theorem d_History_bringBack_9 : decode prog_4_method_3_code 9 = .ok (.dup, 1) := by decide +kernel
theorem d_History_bringBack_10 : decode prog_4_method_3_code 10 = .ok (.getfield 18, 3) := by decide +kernel
theorem d_History_bringBack_13 : decode prog_4_method_3_code 13 = .ok (.iconst 1, 1) := by decide +kernel
theorem d_History_bringBack_14 : decode prog_4_method_3_code 14 = .ok (.isub, 1) := by decide +kernel
theorem d_History_bringBack_15 : decode prog_4_method_3_code 15 = .ok (.putfield 18, 3) := by decide +kernel
theorem d_History_bringBack_18 : decode prog_4_method_3_code 18 = .ok (.aload_n 0, 1) := by decide +kernel
theorem d_History_bringBack_19 : decode prog_4_method_3_code 19 = .ok (.getfield 11, 3) := by decide +kernel
theorem d_History_bringBack_22 : decode prog_4_method_3_code 22 = .ok (.aload_n 0, 1) := by decide +kernel
theorem d_History_bringBack_23 : decode prog_4_method_3_code 23 = .ok (.getfield 22, 3) := by decide +kernel
theorem d_History_bringBack_26 : decode prog_4_method_3_code 26 = .ok (.aload_n 0, 1) := by decide +kernel
theorem d_History_bringBack_27 : decode prog_4_method_3_code 27 = .ok (.getfield 18, 3) := by decide +kernel
theorem d_History_bringBack_30 : decode prog_4_method_3_code 30 = .ok (.iadd, 1) := by decide +kernel
theorem d_History_bringBack_31 : decode prog_4_method_3_code 31 = .ok (.iconst 5, 1) := by decide +kernel
theorem d_History_bringBack_32 : decode prog_4_method_3_code 32 = .ok (.irem, 1) := by decide +kernel
theorem d_History_bringBack_33 : decode prog_4_method_3_code 33 = .ok (.aaload, 1) := by decide +kernel
theorem d_History_bringBack_34 : decode prog_4_method_3_code 34 = .ok (.astore_n 2, 1) := by decide +kernel
theorem d_History_bringBack_35 : decode prog_4_method_3_code 35 = .ok (.aload_n 2, 1) := by decide +kernel
theorem d_History_bringBack_36 : decode prog_4_method_3_code 36 = .ok (.ifnull 8, 3) := by decide +kernel
theorem d_History_bringBack_39 : decode prog_4_method_3_code 39 = .ok (.aload_n 1, 1) := by decide +kernel
theorem d_History_bringBack_40 : decode prog_4_method_3_code 40 = .ok (.aload_n 2, 1) := by decide +kernel
theorem d_History_bringBack_41 : decode prog_4_method_3_code 41 = .ok (.invokevirtual 25, 3) := by decide +kernel
theorem d_History_bringBack_44 : decode prog_4_method_3_code 44 = .ok (.return_, 1) := by decide +kernel
theorem d_GT_append_0 : decode prog_1_method_15_code 0 = .ok (.iload_n 1, 1) := by decide +kernel
theorem d_GT_append_1 : decode prog_1_method_15_code 1 = .ok (.iconst 1, 1) := by decide +kernel
theorem d_GT_append_2 : decode prog_1_method_15_code 2 = .ok (.sipush 255, 3) := by decide +kernel
theorem d_GT_append_5 : decode prog_1_method_15_code 5 = .ok (.invokestatic 65, 3) := by decide +kernel
theorem d_GT_append_8 : decode prog_1_method_15_code 8 = .ok (.ifCond .ne 6, 3) := by decide +kernel
theorem d_GT_append_11 : decode prog_1_method_15_code 11 = .ok (.ldc 76, 2) := by decide +kernel
theorem d_GT_append_13 : decode prog_1_method_15_code 13 = .ok (.ireturn, 1) := by decide +kernel
theorem d_GT_append_14 : decode prog_1_method_15_code 14 = .ok (.aload_n 0, 1) := by decide +kernel
theorem d_GT_append_15 : decode prog_1_method_15_code 15 = .ok (.getfield 26, 3) := by decide +kernel
theorem d_GT_append_18 : decode prog_1_method_15_code 18 = .ok (.getfield 235, 3) := by decide +kernel
theorem d_GT_append_21 : decode prog_1_method_15_code 21 = .ok (.sipush 160, 3) := by decide +kernel
theorem d_GT_append_24 : decode prog_1_method_15_code 24 = .ok (.if_icmp .lt 6, 3) := by decide +kernel
theorem d_GT_append_27 : decode prog_1_method_15_code 27 = .ok (.ldc 92, 2) := by decide +kernel
theorem d_GT_append_29 : decode prog_1_method_15_code 29 = .ok (.ireturn, 1) := by decide +kernel
theorem d_GT_append_30 : decode prog_1_method_15_code 30 = .ok (.aload_n 0, 1) := by decide +kernel
theorem d_GT_append_31 : decode prog_1_method_15_code 31 = .ok (.getfield 26, 3) := by decide +kernel
theorem d_GT_append_34 : decode prog_1_method_15_code 34 = .ok (.iload_n 1, 1) := by decide +kernel
theorem d_GT_append_35 : decode prog_1_method_15_code 35 = .ok (.i2c, 1) := by decide +kernel
theorem d_GT_append_36 : decode prog_1_method_15_code 36 = .ok (.invokevirtual 238, 3) := by decide +kernel
theorem d_GT_append_39 : decode prog_1_method_15_code 39 = .ok (.aload_n 0, 1) := by decide +kernel
theorem d_GT_append_40 : decode prog_1_method_15_code 40 = .ok (.getfield 26, 3) := by decide +kernel
theorem d_GT_append_43 : decode prog_1_method_15_code 43 = .ok (.getfield 235, 3) := by decide +kernel
theorem d_GT_append_46 : decode prog_1_method_15_code 46 = .ok (.ireturn, 1) := by decide +kernel
theorem d_Text_put_0 : decode prog_8_method_2_code 0 = .ok (.aload_n 0, 1) := by decide +kernel
theorem d_Text_put_1 : decode prog_8_method_2_code 1 = .ok (.getfield 19, 3) := by decide +kernel
theorem d_Text_put_4 : decode prog_8_method_2_code 4 = .ok (.sipush 160, 3) := by decide +kernel
theorem d_Text_put_7 : decode prog_8_method_2_code 7 = .ok (.if_icmp .ge 23, 3) := by decide +kernel
theorem d_Text_put_10 : decode prog_8_method_2_code 10 = .ok (.aload_n 0, 1) := by decide +kernel
theorem d_Text_put_11 : decode prog_8_method_2_code 11 = .ok (.getfield 15, 3) := by decide +kernel
theorem d_Text_put_14 : decode prog_8_method_2_code 14 = .ok (.aload_n 0, 1) := by decide +kernel
theorem d_Text_put_15 : decode prog_8_method_2_code 15 = .ok (.getfield 19, 3) := by decide +kernel
theorem d_Text_put_18 : decode prog_8_method_2_code 18 = .ok (.iload_n 1, 1) := by decide +kernel
theorem d_Text_put_19 : decode prog_8_method_2_code 19 = .ok (.castore, 1) := by decide +kernel
theorem d_Text_put_20 : decode prog_8_method_2_code 20 = .ok (.aload_n 0, 1) := by decide +kernel
theorem d_Text_put_21 : decode prog_8_method_2_code 21 = .ok (.dup, 1) := by decide +kernel
theorem d_Text_put_22 : decode prog_8_method_2_code 22 = .ok (.getfield 19, 3) := by decide +kernel
theorem d_Text_put_25 : decode prog_8_method_2_code 25 = .ok (.iconst 1, 1) := by decide +kernel
theorem d_Text_put_26 : decode prog_8_method_2_code 26 = .ok (.iadd, 1) := by decide +kernel
theorem d_Text_put_27 : decode prog_8_method_2_code 27 = .ok (.putfield 19, 3) := by decide +kernel
theorem d_Text_put_30 : decode prog_8_method_2_code 30 = .ok (.return_, 1) := by decide +kernel
theorem d_GT_count_0 : decode prog_1_method_18_code 0 = .ok (.iload_n 1, 1) := by decide +kernel
theorem d_GT_count_1 : decode prog_1_method_18_code 1 = .ok (.tableswitch 173 0 11 #[63, 74, 82, 92, 102, 112, 122, 133, 141, 149, 157, 165], 63) := by decide +kernel
theorem d_GT_count_64 : decode prog_1_method_18_code 64 = .ok (.aload_n 0, 1) := by decide +kernel
theorem d_GT_count_65 : decode prog_1_method_18_code 65 = .ok (.getfield 12, 3) := by decide +kernel
theorem d_GT_count_68 : decode prog_1_method_18_code 68 = .ok (.getfield 77, 3) := by decide +kernel
theorem d_GT_count_71 : decode prog_1_method_18_code 71 = .ok (.invokevirtual 225, 3) := by decide +kernel
theorem d_GT_count_74 : decode prog_1_method_18_code 74 = .ok (.ireturn, 1) := by decide +kernel
theorem d_GT_count_75 : decode prog_1_method_18_code 75 = .ok (.aload_n 0, 1) := by decide +kernel
theorem d_GT_count_76 : decode prog_1_method_18_code 76 = .ok (.getfield 12, 3) := by decide +kernel
theorem d_GT_count_79 : decode prog_1_method_18_code 79 = .ok (.getfield 191, 3) := by decide +kernel
theorem d_GT_count_82 : decode prog_1_method_18_code 82 = .ok (.ireturn, 1) := by decide +kernel
theorem d_GT_count_83 : decode prog_1_method_18_code 83 = .ok (.aload_n 0, 1) := by decide +kernel
theorem d_GT_count_84 : decode prog_1_method_18_code 84 = .ok (.getfield 12, 3) := by decide +kernel
theorem d_GT_count_87 : decode prog_1_method_18_code 87 = .ok (.getfield 200, 3) := by decide +kernel
theorem d_GT_count_90 : decode prog_1_method_18_code 90 = .ok (.iconst 0, 1) := by decide +kernel
theorem d_GT_count_91 : decode prog_1_method_18_code 91 = .ok (.iaload, 1) := by decide +kernel
theorem d_GT_count_92 : decode prog_1_method_18_code 92 = .ok (.ireturn, 1) := by decide +kernel
theorem d_GT_count_93 : decode prog_1_method_18_code 93 = .ok (.aload_n 0, 1) := by decide +kernel
theorem d_GT_count_94 : decode prog_1_method_18_code 94 = .ok (.getfield 12, 3) := by decide +kernel
theorem d_GT_count_97 : decode prog_1_method_18_code 97 = .ok (.getfield 200, 3) := by decide +kernel
theorem d_GT_count_100 : decode prog_1_method_18_code 100 = .ok (.iconst 1, 1) := by decide +kernel
theorem d_GT_count_101 : decode prog_1_method_18_code 101 = .ok (.iaload, 1) := by decide +kernel
theorem d_GT_count_102 : decode prog_1_method_18_code 102 = .ok (.ireturn, 1) := by decide +kernel
theorem d_GT_count_103 : decode prog_1_method_18_code 103 = .ok (.aload_n 0, 1) := by decide +kernel
theorem d_GT_count_104 : decode prog_1_method_18_code 104 = .ok (.getfield 12, 3) := by decide +kernel
theorem d_GT_count_107 : decode prog_1_method_18_code 107 = .ok (.getfield 207, 3) := by decide +kernel
theorem d_GT_count_110 : decode prog_1_method_18_code 110 = .ok (.iconst 0, 1) := by decide +kernel
theorem d_GT_count_111 : decode prog_1_method_18_code 111 = .ok (.iaload, 1) := by decide +kernel
theorem d_GT_count_112 : decode prog_1_method_18_code 112 = .ok (.ireturn, 1) := by decide +kernel
theorem d_GT_count_113 : decode prog_1_method_18_code 113 = .ok (.aload_n 0, 1) := by decide +kernel
theorem d_GT_count_114 : decode prog_1_method_18_code 114 = .ok (.getfield 12, 3) := by decide +kernel
theorem d_GT_count_117 : decode prog_1_method_18_code 117 = .ok (.getfield 207, 3) := by decide +kernel
theorem d_GT_count_120 : decode prog_1_method_18_code 120 = .ok (.iconst 1, 1) := by decide +kernel
theorem d_GT_count_121 : decode prog_1_method_18_code 121 = .ok (.iaload, 1) := by decide +kernel
theorem d_GT_count_122 : decode prog_1_method_18_code 122 = .ok (.ireturn, 1) := by decide +kernel
theorem d_GT_count_123 : decode prog_1_method_18_code 123 = .ok (.aload_n 0, 1) := by decide +kernel
theorem d_GT_count_124 : decode prog_1_method_18_code 124 = .ok (.getfield 12, 3) := by decide +kernel
theorem d_GT_count_127 : decode prog_1_method_18_code 127 = .ok (.getfield 250, 3) := by decide +kernel
theorem d_GT_count_130 : decode prog_1_method_18_code 130 = .ok (.getfield 254, 3) := by decide +kernel
theorem d_GT_count_133 : decode prog_1_method_18_code 133 = .ok (.ireturn, 1) := by decide +kernel
theorem d_GT_count_134 : decode prog_1_method_18_code 134 = .ok (.aload_n 0, 1) := by decide +kernel
theorem d_GT_count_135 : decode prog_1_method_18_code 135 = .ok (.getfield 12, 3) := by decide +kernel
theorem d_GT_count_138 : decode prog_1_method_18_code 138 = .ok (.getfield 257, 3) := by decide +kernel
theorem d_GT_count_141 : decode prog_1_method_18_code 141 = .ok (.ireturn, 1) := by decide +kernel
theorem d_GT_count_142 : decode prog_1_method_18_code 142 = .ok (.aload_n 0, 1) := by decide +kernel
theorem d_GT_count_143 : decode prog_1_method_18_code 143 = .ok (.getfield 12, 3) := by decide +kernel
theorem d_GT_count_146 : decode prog_1_method_18_code 146 = .ok (.getfield 260, 3) := by decide +kernel
theorem d_GT_count_149 : decode prog_1_method_18_code 149 = .ok (.ireturn, 1) := by decide +kernel
theorem d_GT_count_150 : decode prog_1_method_18_code 150 = .ok (.aload_n 0, 1) := by decide +kernel
theorem d_GT_count_151 : decode prog_1_method_18_code 151 = .ok (.getfield 19, 3) := by decide +kernel
theorem d_GT_count_154 : decode prog_1_method_18_code 154 = .ok (.getfield 231, 3) := by decide +kernel
theorem d_GT_count_157 : decode prog_1_method_18_code 157 = .ok (.ireturn, 1) := by decide +kernel
theorem d_GT_count_158 : decode prog_1_method_18_code 158 = .ok (.aload_n 0, 1) := by decide +kernel
theorem d_GT_count_159 : decode prog_1_method_18_code 159 = .ok (.getfield 26, 3) := by decide +kernel
theorem d_GT_count_162 : decode prog_1_method_18_code 162 = .ok (.getfield 235, 3) := by decide +kernel
theorem d_GT_count_165 : decode prog_1_method_18_code 165 = .ok (.ireturn, 1) := by decide +kernel
theorem d_GT_count_166 : decode prog_1_method_18_code 166 = .ok (.aload_n 0, 1) := by decide +kernel
theorem d_GT_count_167 : decode prog_1_method_18_code 167 = .ok (.getfield 12, 3) := by decide +kernel
theorem d_GT_count_170 : decode prog_1_method_18_code 170 = .ok (.invokevirtual 263, 3) := by decide +kernel
theorem d_GT_count_173 : decode prog_1_method_18_code 173 = .ok (.ireturn, 1) := by decide +kernel
theorem d_GT_count_174 : decode prog_1_method_18_code 174 = .ok (.ldc 76, 2) := by decide +kernel
theorem d_GT_count_176 : decode prog_1_method_18_code 176 = .ok (.ireturn, 1) := by decide +kernel
theorem d_Table_regions_0 : decode prog_7_method_5_code 0 = .ok (.aload_n 0, 1) := by decide +kernel
theorem d_Table_regions_1 : decode prog_7_method_5_code 1 = .ok (.getfield 12, 3) := by decide +kernel
theorem d_Table_regions_4 : decode prog_7_method_5_code 4 = .ok (.getfield 35, 3) := by decide +kernel
theorem d_Table_regions_7 : decode prog_7_method_5_code 7 = .ok (.iconst 1, 1) := by decide +kernel
theorem d_Table_regions_8 : decode prog_7_method_5_code 8 = .ok (.iadd, 1) := by decide +kernel
theorem d_Table_regions_9 : decode prog_7_method_5_code 9 = .ok (.aload_n 0, 1) := by decide +kernel
theorem d_Table_regions_10 : decode prog_7_method_5_code 10 = .ok (.getfield 18, 3) := by decide +kernel
theorem d_Table_regions_13 : decode prog_7_method_5_code 13 = .ok (.getfield 35, 3) := by decide +kernel
theorem d_Table_regions_16 : decode prog_7_method_5_code 16 = .ok (.iconst 1, 1) := by decide +kernel
theorem d_Table_regions_17 : decode prog_7_method_5_code 17 = .ok (.iadd, 1) := by decide +kernel
theorem d_Table_regions_18 : decode prog_7_method_5_code 18 = .ok (.imul, 1) := by decide +kernel
theorem d_Table_regions_19 : decode prog_7_method_5_code 19 = .ok (.ireturn, 1) := by decide +kernel
theorem d_State_placesTaken_0 : decode prog_6_method_4_code 0 = .ok (.iconst 0, 1) := by decide +kernel
theorem d_State_placesTaken_1 : decode prog_6_method_4_code 1 = .ok (.istore_n 1, 1) := by decide +kernel
theorem d_State_placesTaken_2 : decode prog_6_method_4_code 2 = .ok (.iconst 0, 1) := by decide +kernel
theorem d_State_placesTaken_3 : decode prog_6_method_4_code 3 = .ok (.istore_n 2, 1) := by decide +kernel
theorem d_State_placesTaken_4 : decode prog_6_method_4_code 4 = .ok (.iload_n 2, 1) := by decide +kernel
theorem d_State_placesTaken_5 : decode prog_6_method_4_code 5 = .ok (.iconst 3, 1) := by decide +kernel
theorem d_State_placesTaken_6 : decode prog_6_method_4_code 6 = .ok (.if_icmp .ge 21, 3) := by decide +kernel
theorem d_State_placesTaken_9 : decode prog_6_method_4_code 9 = .ok (.aload_n 0, 1) := by decide +kernel
theorem d_State_placesTaken_10 : decode prog_6_method_4_code 10 = .ok (.getfield 27, 3) := by decide +kernel
theorem d_State_placesTaken_13 : decode prog_6_method_4_code 13 = .ok (.iload_n 2, 1) := by decide +kernel
theorem d_State_placesTaken_14 : decode prog_6_method_4_code 14 = .ok (.baload, 1) := by decide +kernel
theorem d_State_placesTaken_15 : decode prog_6_method_4_code 15 = .ok (.ifCond .eq 6, 3) := by decide +kernel
theorem d_State_placesTaken_18 : decode prog_6_method_4_code 18 = .ok (.iinc 1 1, 3) := by decide +kernel
theorem d_State_placesTaken_21 : decode prog_6_method_4_code 21 = .ok (.iinc 2 1, 3) := by decide +kernel
theorem d_State_placesTaken_24 : decode prog_6_method_4_code 24 = .ok (.goto (-20), 3) := by decide +kernel
theorem d_State_placesTaken_27 : decode prog_6_method_4_code 27 = .ok (.iload_n 1, 1) := by decide +kernel
theorem d_State_placesTaken_28 : decode prog_6_method_4_code 28 = .ok (.ireturn, 1) := by decide +kernel
theorem d_GT_effect_0 : decode prog_1_method_27_code 0 = .ok (.iload_n 1, 1) := by decide +kernel
theorem d_GT_effect_1 : decode prog_1_method_27_code 1 = .ok (.invokestatic 194, 3) := by decide +kernel
theorem d_GT_effect_4 : decode prog_1_method_27_code 4 = .ok (.ifCond .eq 10, 3) := by decide +kernel
theorem d_GT_effect_7 : decode prog_1_method_27_code 7 = .ok (.iload_n 2, 1) := by decide +kernel
theorem d_GT_effect_8 : decode prog_1_method_27_code 8 = .ok (.invokestatic 194, 3) := by decide +kernel
theorem d_GT_effect_11 : decode prog_1_method_27_code 11 = .ok (.ifCond .ne 6, 3) := by decide +kernel
theorem d_GT_effect_14 : decode prog_1_method_27_code 14 = .ok (.ldc 76, 2) := by decide +kernel
theorem d_GT_effect_16 : decode prog_1_method_27_code 16 = .ok (.ireturn, 1) := by decide +kernel
theorem d_GT_effect_17 : decode prog_1_method_27_code 17 = .ok (.aload_n 0, 1) := by decide +kernel
theorem d_GT_effect_18 : decode prog_1_method_27_code 18 = .ok (.getfield 12, 3) := by decide +kernel
theorem d_GT_effect_21 : decode prog_1_method_27_code 21 = .ok (.iload_n 1, 1) := by decide +kernel
theorem d_GT_effect_22 : decode prog_1_method_27_code 22 = .ok (.iload_n 2, 1) := by decide +kernel
theorem d_GT_effect_23 : decode prog_1_method_27_code 23 = .ok (.invokevirtual 304, 3) := by decide +kernel
theorem d_GT_effect_26 : decode prog_1_method_27_code 26 = .ok (.ifCond .eq 5, 3) := by decide +kernel
theorem d_GT_effect_29 : decode prog_1_method_27_code 29 = .ok (.iconst 0, 1) := by decide +kernel
theorem d_GT_effect_30 : decode prog_1_method_27_code 30 = .ok (.ireturn, 1) := by decide +kernel
theorem d_GT_effect_31 : decode prog_1_method_27_code 31 = .ok (.aload_n 0, 1) := by decide +kernel
theorem d_GT_effect_32 : decode prog_1_method_27_code 32 = .ok (.getfield 12, 3) := by decide +kernel
theorem d_GT_effect_35 : decode prog_1_method_27_code 35 = .ok (.getfield 77, 3) := by decide +kernel
theorem d_GT_effect_38 : decode prog_1_method_27_code 38 = .ok (.getfield 167, 3) := by decide +kernel
theorem d_GT_effect_41 : decode prog_1_method_27_code 41 = .ok (.aload_n 0, 1) := by decide +kernel
theorem d_GT_effect_42 : decode prog_1_method_27_code 42 = .ok (.getfield 12, 3) := by decide +kernel
theorem d_GT_effect_45 : decode prog_1_method_27_code 45 = .ok (.getfield 207, 3) := by decide +kernel
theorem d_GT_effect_48 : decode prog_1_method_27_code 48 = .ok (.iconst 0, 1) := by decide +kernel
theorem d_GT_effect_49 : decode prog_1_method_27_code 49 = .ok (.iaload, 1) := by decide +kernel
theorem d_GT_effect_50 : decode prog_1_method_27_code 50 = .ok (.iload_n 1, 1) := by decide +kernel
theorem d_GT_effect_51 : decode prog_1_method_27_code 51 = .ok (.invokevirtual 307, 3) := by decide +kernel
theorem d_GT_effect_54 : decode prog_1_method_27_code 54 = .ok (.istore_n 3, 1) := by decide +kernel
theorem d_GT_effect_55 : decode prog_1_method_27_code 55 = .ok (.aload_n 0, 1) := by decide +kernel
theorem d_GT_effect_56 : decode prog_1_method_27_code 56 = .ok (.getfield 12, 3) := by decide +kernel
theorem d_GT_effect_59 : decode prog_1_method_27_code 59 = .ok (.getfield 77, 3) := by decide +kernel
theorem d_GT_effect_62 : decode prog_1_method_27_code 62 = .ok (.getfield 170, 3) := by decide +kernel
theorem d_GT_effect_65 : decode prog_1_method_27_code 65 = .ok (.aload_n 0, 1) := by decide +kernel
theorem d_GT_effect_66 : decode prog_1_method_27_code 66 = .ok (.getfield 12, 3) := by decide +kernel
theorem d_GT_effect_69 : decode prog_1_method_27_code 69 = .ok (.getfield 207, 3) := by decide +kernel
theorem d_GT_effect_72 : decode prog_1_method_27_code 72 = .ok (.iconst 1, 1) := by decide +kernel
theorem d_GT_effect_73 : decode prog_1_method_27_code 73 = .ok (.iaload, 1) := by decide +kernel
theorem d_GT_effect_74 : decode prog_1_method_27_code 74 = .ok (.iload_n 2, 1) := by decide +kernel
theorem d_GT_effect_75 : decode prog_1_method_27_code 75 = .ok (.invokevirtual 307, 3) := by decide +kernel
theorem d_GT_effect_78 : decode prog_1_method_27_code 78 = .ok (.istore 4, 2) := by decide +kernel
theorem d_GT_effect_80 : decode prog_1_method_27_code 80 = .ok (.aload_n 0, 1) := by decide +kernel
theorem d_GT_effect_81 : decode prog_1_method_27_code 81 = .ok (.invokevirtual 266, 3) := by decide +kernel
theorem d_GT_effect_84 : decode prog_1_method_27_code 84 = .ok (.aload_n 0, 1) := by decide +kernel
theorem d_GT_effect_85 : decode prog_1_method_27_code 85 = .ok (.aload_n 0, 1) := by decide +kernel
theorem d_GT_effect_86 : decode prog_1_method_27_code 86 = .ok (.getfield 54, 3) := by decide +kernel
theorem d_GT_effect_89 : decode prog_1_method_27_code 89 = .ok (.invokevirtual 310, 3) := by decide +kernel
theorem d_GT_effect_92 : decode prog_1_method_27_code 92 = .ok (.aload_n 0, 1) := by decide +kernel
theorem d_GT_effect_93 : decode prog_1_method_27_code 93 = .ok (.getfield 47, 3) := by decide +kernel
theorem d_GT_effect_96 : decode prog_1_method_27_code 96 = .ok (.aload_n 0, 1) := by decide +kernel
theorem d_GT_effect_97 : decode prog_1_method_27_code 97 = .ok (.getfield 12, 3) := by decide +kernel
theorem d_GT_effect_100 : decode prog_1_method_27_code 100 = .ok (.getfield 77, 3) := by decide +kernel
theorem d_GT_effect_103 : decode prog_1_method_27_code 103 = .ok (.getfield 167, 3) := by decide +kernel
theorem d_GT_effect_106 : decode prog_1_method_27_code 106 = .ok (.iload_n 3, 1) := by decide +kernel
theorem d_GT_effect_107 : decode prog_1_method_27_code 107 = .ok (.iload_n 1, 1) := by decide +kernel
theorem d_GT_effect_108 : decode prog_1_method_27_code 108 = .ok (.invokevirtual 314, 3) := by decide +kernel
theorem d_GT_effect_111 : decode prog_1_method_27_code 111 = .ok (.aload_n 0, 1) := by decide +kernel
theorem d_GT_effect_112 : decode prog_1_method_27_code 112 = .ok (.getfield 51, 3) := by decide +kernel
theorem d_GT_effect_115 : decode prog_1_method_27_code 115 = .ok (.aload_n 0, 1) := by decide +kernel
theorem d_GT_effect_116 : decode prog_1_method_27_code 116 = .ok (.getfield 12, 3) := by decide +kernel
theorem d_GT_effect_119 : decode prog_1_method_27_code 119 = .ok (.getfield 77, 3) := by decide +kernel
theorem d_GT_effect_122 : decode prog_1_method_27_code 122 = .ok (.getfield 170, 3) := by decide +kernel
theorem d_GT_effect_125 : decode prog_1_method_27_code 125 = .ok (.iload 4, 2) := by decide +kernel
theorem d_GT_effect_127 : decode prog_1_method_27_code 127 = .ok (.iload_n 2, 1) := by decide +kernel
theorem d_GT_effect_128 : decode prog_1_method_27_code 128 = .ok (.invokevirtual 314, 3) := by decide +kernel
theorem d_GT_effect_131 : decode prog_1_method_27_code 131 = .ok (.aload_n 0, 1) := by decide +kernel
theorem d_GT_effect_132 : decode prog_1_method_27_code 132 = .ok (.aload_n 0, 1) := by decide +kernel
theorem d_GT_effect_133 : decode prog_1_method_27_code 133 = .ok (.getfield 58, 3) := by decide +kernel
theorem d_GT_effect_136 : decode prog_1_method_27_code 136 = .ok (.invokevirtual 310, 3) := by decide +kernel
theorem d_GT_effect_139 : decode prog_1_method_27_code 139 = .ok (.iconst 1, 1) := by decide +kernel
theorem d_GT_effect_140 : decode prog_1_method_27_code 140 = .ok (.iload_n 3, 1) := by decide +kernel
theorem d_GT_effect_141 : decode prog_1_method_27_code 141 = .ok (.aload_n 0, 1) := by decide +kernel
theorem d_GT_effect_142 : decode prog_1_method_27_code 142 = .ok (.getfield 12, 3) := by decide +kernel
theorem d_GT_effect_145 : decode prog_1_method_27_code 145 = .ok (.getfield 207, 3) := by decide +kernel
theorem d_GT_effect_148 : decode prog_1_method_27_code 148 = .ok (.iconst 0, 1) := by decide +kernel
theorem d_GT_effect_149 : decode prog_1_method_27_code 149 = .ok (.iaload, 1) := by decide +kernel
theorem d_GT_effect_150 : decode prog_1_method_27_code 150 = .ok (.if_icmp .eq 7, 3) := by decide +kernel
theorem d_GT_effect_153 : decode prog_1_method_27_code 153 = .ok (.iconst 2, 1) := by decide +kernel
theorem d_GT_effect_154 : decode prog_1_method_27_code 154 = .ok (.goto 4, 3) := by decide +kernel
theorem d_GT_effect_157 : decode prog_1_method_27_code 157 = .ok (.iconst 0, 1) := by decide +kernel
theorem d_GT_effect_158 : decode prog_1_method_27_code 158 = .ok (.iadd, 1) := by decide +kernel
theorem d_GT_effect_159 : decode prog_1_method_27_code 159 = .ok (.iload 4, 2) := by decide +kernel
theorem d_GT_effect_161 : decode prog_1_method_27_code 161 = .ok (.aload_n 0, 1) := by decide +kernel
theorem d_GT_effect_162 : decode prog_1_method_27_code 162 = .ok (.getfield 12, 3) := by decide +kernel
theorem d_GT_effect_165 : decode prog_1_method_27_code 165 = .ok (.getfield 207, 3) := by decide +kernel
theorem d_GT_effect_168 : decode prog_1_method_27_code 168 = .ok (.iconst 1, 1) := by decide +kernel
theorem d_GT_effect_169 : decode prog_1_method_27_code 169 = .ok (.iaload, 1) := by decide +kernel
theorem d_GT_effect_170 : decode prog_1_method_27_code 170 = .ok (.if_icmp .eq 7, 3) := by decide +kernel
theorem d_GT_effect_173 : decode prog_1_method_27_code 173 = .ok (.iconst 4, 1) := by decide +kernel
theorem d_GT_effect_174 : decode prog_1_method_27_code 174 = .ok (.goto 4, 3) := by decide +kernel
theorem d_GT_effect_177 : decode prog_1_method_27_code 177 = .ok (.iconst 0, 1) := by decide +kernel
theorem d_GT_effect_178 : decode prog_1_method_27_code 178 = .ok (.iadd, 1) := by decide +kernel
theorem d_GT_effect_179 : decode prog_1_method_27_code 179 = .ok (.aload_n 0, 1) := by decide +kernel
theorem d_GT_effect_180 : decode prog_1_method_27_code 180 = .ok (.invokevirtual 318, 3) := by decide +kernel
theorem d_GT_effect_183 : decode prog_1_method_27_code 183 = .ok (.ifCond .eq 8, 3) := by decide +kernel
theorem d_GT_effect_186 : decode prog_1_method_27_code 186 = .ok (.bipush 8, 2) := by decide +kernel
theorem d_GT_effect_188 : decode prog_1_method_27_code 188 = .ok (.goto 4, 3) := by decide +kernel
theorem d_GT_effect_191 : decode prog_1_method_27_code 191 = .ok (.iconst 0, 1) := by decide +kernel
theorem d_GT_effect_192 : decode prog_1_method_27_code 192 = .ok (.iadd, 1) := by decide +kernel
theorem d_GT_effect_193 : decode prog_1_method_27_code 193 = .ok (.ireturn, 1) := by decide +kernel
theorem d_GT_valueAt_0 : decode prog_1_method_28_code 0 = .ok (.iload_n 1, 1) := by decide +kernel
theorem d_GT_valueAt_1 : decode prog_1_method_28_code 1 = .ok (.invokestatic 194, 3) := by decide +kernel
theorem d_GT_valueAt_4 : decode prog_1_method_28_code 4 = .ok (.ifCond .eq 17, 3) := by decide +kernel
theorem d_GT_valueAt_7 : decode prog_1_method_28_code 7 = .ok (.iload_n 2, 1) := by decide +kernel
theorem d_GT_valueAt_8 : decode prog_1_method_28_code 8 = .ok (.invokestatic 194, 3) := by decide +kernel
theorem d_GT_valueAt_11 : decode prog_1_method_28_code 11 = .ok (.ifCond .eq 10, 3) := by decide +kernel
theorem d_GT_valueAt_14 : decode prog_1_method_28_code 14 = .ok (.iload_n 3, 1) := by decide +kernel
theorem d_GT_valueAt_15 : decode prog_1_method_28_code 15 = .ok (.invokestatic 164, 3) := by decide +kernel
theorem d_GT_valueAt_18 : decode prog_1_method_28_code 18 = .ok (.ifCond .ne 6, 3) := by decide +kernel
theorem d_GT_valueAt_21 : decode prog_1_method_28_code 21 = .ok (.ldc 76, 2) := by decide +kernel
theorem d_GT_valueAt_23 : decode prog_1_method_28_code 23 = .ok (.ireturn, 1) := by decide +kernel
theorem d_GT_valueAt_24 : decode prog_1_method_28_code 24 = .ok (.aload_n 0, 1) := by decide +kernel
theorem d_GT_valueAt_25 : decode prog_1_method_28_code 25 = .ok (.getfield 47, 3) := by decide +kernel
theorem d_GT_valueAt_28 : decode prog_1_method_28_code 28 = .ok (.aload_n 0, 1) := by decide +kernel
theorem d_GT_valueAt_29 : decode prog_1_method_28_code 29 = .ok (.getfield 12, 3) := by decide +kernel
theorem d_GT_valueAt_32 : decode prog_1_method_28_code 32 = .ok (.getfield 77, 3) := by decide +kernel
theorem d_GT_valueAt_35 : decode prog_1_method_28_code 35 = .ok (.getfield 167, 3) := by decide +kernel
theorem d_GT_valueAt_38 : decode prog_1_method_28_code 38 = .ok (.iload_n 1, 1) := by decide +kernel
theorem d_GT_valueAt_39 : decode prog_1_method_28_code 39 = .ok (.invokevirtual 321, 3) := by decide +kernel
theorem d_GT_valueAt_42 : decode prog_1_method_28_code 42 = .ok (.aload_n 0, 1) := by decide +kernel
theorem d_GT_valueAt_43 : decode prog_1_method_28_code 43 = .ok (.getfield 51, 3) := by decide +kernel
theorem d_GT_valueAt_46 : decode prog_1_method_28_code 46 = .ok (.aload_n 0, 1) := by decide +kernel
theorem d_GT_valueAt_47 : decode prog_1_method_28_code 47 = .ok (.getfield 12, 3) := by decide +kernel
theorem d_GT_valueAt_50 : decode prog_1_method_28_code 50 = .ok (.getfield 77, 3) := by decide +kernel
theorem d_GT_valueAt_53 : decode prog_1_method_28_code 53 = .ok (.getfield 170, 3) := by decide +kernel
theorem d_GT_valueAt_56 : decode prog_1_method_28_code 56 = .ok (.iload_n 2, 1) := by decide +kernel
theorem d_GT_valueAt_57 : decode prog_1_method_28_code 57 = .ok (.invokevirtual 321, 3) := by decide +kernel
theorem d_GT_valueAt_60 : decode prog_1_method_28_code 60 = .ok (.aload_n 0, 1) := by decide +kernel
theorem d_GT_valueAt_61 : decode prog_1_method_28_code 61 = .ok (.iload_n 3, 1) := by decide +kernel
theorem d_GT_valueAt_62 : decode prog_1_method_28_code 62 = .ok (.invokevirtual 295, 3) := by decide +kernel
theorem d_GT_valueAt_65 : decode prog_1_method_28_code 65 = .ok (.ireturn, 1) := by decide +kernel
theorem d_Blend_findByPosition_0 : decode prog_2_method_3_code 0 = .ok (.aload_n 0, 1) := by decide +kernel
theorem d_Blend_findByPosition_1 : decode prog_2_method_3_code 1 = .ok (.aload_n 1, 1) := by decide +kernel
theorem d_Blend_findByPosition_2 : decode prog_2_method_3_code 2 = .ok (.aload_n 1, 1) := by decide +kernel
theorem d_Blend_findByPosition_3 : decode prog_2_method_3_code 3 = .ok (.iload_n 2, 1) := by decide +kernel
theorem d_Blend_findByPosition_4 : decode prog_2_method_3_code 4 = .ok (.invokevirtual 43, 3) := by decide +kernel
theorem d_Blend_findByPosition_7 : decode prog_2_method_3_code 7 = .ok (.iload_n 2, 1) := by decide +kernel
theorem d_Blend_findByPosition_8 : decode prog_2_method_3_code 8 = .ok (.invokevirtual 46, 3) := by decide +kernel
theorem d_Blend_findByPosition_11 : decode prog_2_method_3_code 11 = .ok (.return_, 1) := by decide +kernel
theorem d_GT_chatter_0 : decode prog_1_method_29_code 0 = .ok (.iload_n 1, 1) := by decide +kernel
theorem d_GT_chatter_1 : decode prog_1_method_29_code 1 = .ok (.invokestatic 61, 3) := by decide +kernel
theorem d_GT_chatter_4 : decode prog_1_method_29_code 4 = .ok (.ifCond .eq 29, 3) := by decide +kernel
theorem d_GT_chatter_7 : decode prog_1_method_29_code 7 = .ok (.iload_n 2, 1) := by decide +kernel
theorem d_GT_chatter_8 : decode prog_1_method_29_code 8 = .ok (.invokestatic 194, 3) := by decide +kernel
theorem d_GT_chatter_11 : decode prog_1_method_29_code 11 = .ok (.ifCond .eq 22, 3) := by decide +kernel
theorem d_GT_chatter_14 : decode prog_1_method_29_code 14 = .ok (.iload_n 2, 1) := by decide +kernel
theorem d_GT_chatter_15 : decode prog_1_method_29_code 15 = .ok (.iload_n 3, 1) := by decide +kernel
theorem d_GT_chatter_16 : decode prog_1_method_29_code 16 = .ok (.invokestatic 325, 3) := by decide +kernel
theorem d_GT_chatter_19 : decode prog_1_method_29_code 19 = .ok (.ifCond .eq 14, 3) := by decide +kernel
theorem d_GT_chatter_22 : decode prog_1_method_29_code 22 = .ok (.iload 4, 2) := by decide +kernel
theorem d_GT_chatter_24 : decode prog_1_method_29_code 24 = .ok (.iconst 1, 1) := by decide +kernel
theorem d_GT_chatter_25 : decode prog_1_method_29_code 25 = .ok (.bipush 100, 2) := by decide +kernel
theorem d_GT_chatter_27 : decode prog_1_method_29_code 27 = .ok (.invokestatic 65, 3) := by decide +kernel
theorem d_GT_chatter_30 : decode prog_1_method_29_code 30 = .ok (.ifCond .ne 6, 3) := by decide +kernel
theorem d_GT_chatter_33 : decode prog_1_method_29_code 33 = .ok (.ldc 76, 2) := by decide +kernel
theorem d_GT_chatter_35 : decode prog_1_method_29_code 35 = .ok (.ireturn, 1) := by decide +kernel
theorem d_GT_chatter_36 : decode prog_1_method_29_code 36 = .ok (.aload_n 0, 1) := by decide +kernel
theorem d_GT_chatter_37 : decode prog_1_method_29_code 37 = .ok (.getfield 12, 3) := by decide +kernel
theorem d_GT_chatter_40 : decode prog_1_method_29_code 40 = .ok (.getfield 77, 3) := by decide +kernel
theorem d_GT_chatter_43 : decode prog_1_method_29_code 43 = .ok (.iload_n 1, 1) := by decide +kernel
theorem d_GT_chatter_44 : decode prog_1_method_29_code 44 = .ok (.invokevirtual 80, 3) := by decide +kernel
theorem d_GT_chatter_47 : decode prog_1_method_29_code 47 = .ok (.astore 5, 2) := by decide +kernel
theorem d_GT_chatter_49 : decode prog_1_method_29_code 49 = .ok (.aload 5, 2) := by decide +kernel
theorem d_GT_chatter_51 : decode prog_1_method_29_code 51 = .ok (.aload_n 0, 1) := by decide +kernel
theorem d_GT_chatter_52 : decode prog_1_method_29_code 52 = .ok (.getfield 12, 3) := by decide +kernel
theorem d_GT_chatter_55 : decode prog_1_method_29_code 55 = .ok (.getfield 207, 3) := by decide +kernel
theorem d_GT_chatter_58 : decode prog_1_method_29_code 58 = .ok (.iload_n 1, 1) := by decide +kernel
theorem d_GT_chatter_59 : decode prog_1_method_29_code 59 = .ok (.iaload, 1) := by decide +kernel
theorem d_GT_chatter_60 : decode prog_1_method_29_code 60 = .ok (.iload_n 2, 1) := by decide +kernel
theorem d_GT_chatter_61 : decode prog_1_method_29_code 61 = .ok (.iload_n 3, 1) := by decide +kernel
theorem d_GT_chatter_62 : decode prog_1_method_29_code 62 = .ok (.iload 4, 2) := by decide +kernel
theorem d_GT_chatter_64 : decode prog_1_method_29_code 64 = .ok (.invokevirtual 328, 3) := by decide +kernel
theorem d_GT_chatter_67 : decode prog_1_method_29_code 67 = .ok (.ireturn, 1) := by decide +kernel
theorem d_GT_isSwing_0 : decode prog_1_method_39_code 0 = .ok (.iload_n 1, 1) := by decide +kernel
theorem d_GT_isSwing_1 : decode prog_1_method_39_code 1 = .ok (.iconst 0, 1) := by decide +kernel
theorem d_GT_isSwing_2 : decode prog_1_method_39_code 2 = .ok (.sipush 500, 3) := by decide +kernel
theorem d_GT_isSwing_5 : decode prog_1_method_39_code 5 = .ok (.invokestatic 65, 3) := by decide +kernel
theorem d_GT_isSwing_8 : decode prog_1_method_39_code 8 = .ok (.ifCond .eq 25, 3) := by decide +kernel
theorem d_GT_isSwing_11 : decode prog_1_method_39_code 11 = .ok (.iload_n 0, 1) := by decide +kernel
theorem d_GT_isSwing_12 : decode prog_1_method_39_code 12 = .ok (.iload_n 1, 1) := by decide +kernel
theorem d_GT_isSwing_13 : decode prog_1_method_39_code 13 = .ok (.isub, 1) := by decide +kernel
theorem d_GT_isSwing_14 : decode prog_1_method_39_code 14 = .ok (.invokestatic 194, 3) := by decide +kernel
theorem d_GT_isSwing_17 : decode prog_1_method_39_code 17 = .ok (.ifCond .eq 16, 3) := by decide +kernel
theorem d_GT_isSwing_20 : decode prog_1_method_39_code 20 = .ok (.iload_n 0, 1) := by decide +kernel
theorem d_GT_isSwing_21 : decode prog_1_method_39_code 21 = .ok (.iload_n 1, 1) := by decide +kernel
theorem d_GT_isSwing_22 : decode prog_1_method_39_code 22 = .ok (.iadd, 1) := by decide +kernel
theorem d_GT_isSwing_23 : decode prog_1_method_39_code 23 = .ok (.invokestatic 194, 3) := by decide +kernel
theorem d_GT_isSwing_26 : decode prog_1_method_39_code 26 = .ok (.ifCond .eq 7, 3) := by decide +kernel
theorem d_GT_isSwing_29 : decode prog_1_method_39_code 29 = .ok (.iconst 1, 1) := by decide +kernel
theorem d_GT_isSwing_30 : decode prog_1_method_39_code 30 = .ok (.goto 4, 3) := by decide +kernel
theorem d_GT_isSwing_33 : decode prog_1_method_39_code 33 = .ok (.iconst 0, 1) := by decide +kernel
theorem d_GT_isSwing_34 : decode prog_1_method_39_code 34 = .ok (.ireturn, 1) := by decide +kernel
theorem d_Borders_zoneChanges_0 : decode prog_3_method_17_code 0 = .ok (.iconst 0, 1) := by decide +kernel
theorem d_Borders_zoneChanges_1 : decode prog_3_method_17_code 1 = .ok (.istore 5, 2) := by decide +kernel
theorem d_Borders_zoneChanges_3 : decode prog_3_method_17_code 3 = .ok (.iload_n 1, 1) := by decide +kernel
theorem d_Borders_zoneChanges_4 : decode prog_3_method_17_code 4 = .ok (.istore 6, 2) := by decide +kernel
theorem d_Borders_zoneChanges_6 : decode prog_3_method_17_code 6 = .ok (.iconst 0, 1) := by decide +kernel
theorem d_Borders_zoneChanges_7 : decode prog_3_method_17_code 7 = .ok (.istore 7, 2) := by decide +kernel
theorem d_Borders_zoneChanges_9 : decode prog_3_method_17_code 9 = .ok (.iload 7, 2) := by decide +kernel
theorem d_Borders_zoneChanges_11 : decode prog_3_method_17_code 11 = .ok (.iload 4, 2) := by decide +kernel
theorem d_Borders_zoneChanges_13 : decode prog_3_method_17_code 13 = .ok (.if_icmp .ge 51, 3) := by decide +kernel
theorem d_Borders_zoneChanges_16 : decode prog_3_method_17_code 16 = .ok (.iload 7, 2) := by decide +kernel
theorem d_Borders_zoneChanges_18 : decode prog_3_method_17_code 18 = .ok (.iconst 2, 1) := by decide +kernel
theorem d_Borders_zoneChanges_19 : decode prog_3_method_17_code 19 = .ok (.irem, 1) := by decide +kernel
theorem d_Borders_zoneChanges_20 : decode prog_3_method_17_code 20 = .ok (.ifCond .ne 9, 3) := by decide +kernel
theorem d_Borders_zoneChanges_23 : decode prog_3_method_17_code 23 = .ok (.iload_n 2, 1) := by decide +kernel
theorem d_Borders_zoneChanges_24 : decode prog_3_method_17_code 24 = .ok (.iload_n 3, 1) := by decide +kernel
theorem d_Borders_zoneChanges_25 : decode prog_3_method_17_code 25 = .ok (.iadd, 1) := by decide +kernel
theorem d_Borders_zoneChanges_26 : decode prog_3_method_17_code 26 = .ok (.goto 6, 3) := by decide +kernel
theorem d_Borders_zoneChanges_29 : decode prog_3_method_17_code 29 = .ok (.iload_n 2, 1) := by decide +kernel
theorem d_Borders_zoneChanges_30 : decode prog_3_method_17_code 30 = .ok (.iload_n 3, 1) := by decide +kernel
theorem d_Borders_zoneChanges_31 : decode prog_3_method_17_code 31 = .ok (.isub, 1) := by decide +kernel
theorem d_Borders_zoneChanges_32 : decode prog_3_method_17_code 32 = .ok (.istore 8, 2) := by decide +kernel
theorem d_Borders_zoneChanges_34 : decode prog_3_method_17_code 34 = .ok (.aload_n 0, 1) := by decide +kernel
theorem d_Borders_zoneChanges_35 : decode prog_3_method_17_code 35 = .ok (.iload 6, 2) := by decide +kernel
theorem d_Borders_zoneChanges_37 : decode prog_3_method_17_code 37 = .ok (.iload 8, 2) := by decide +kernel
theorem d_Borders_zoneChanges_39 : decode prog_3_method_17_code 39 = .ok (.invokevirtual 48, 3) := by decide +kernel
theorem d_Borders_zoneChanges_42 : decode prog_3_method_17_code 42 = .ok (.istore 9, 2) := by decide +kernel
theorem d_Borders_zoneChanges_44 : decode prog_3_method_17_code 44 = .ok (.iload 9, 2) := by decide +kernel
theorem d_Borders_zoneChanges_46 : decode prog_3_method_17_code 46 = .ok (.iload 6, 2) := by decide +kernel
theorem d_Borders_zoneChanges_48 : decode prog_3_method_17_code 48 = .ok (.if_icmp .eq 6, 3) := by decide +kernel
theorem d_Borders_zoneChanges_51 : decode prog_3_method_17_code 51 = .ok (.iinc 5 1, 3) := by decide +kernel
theorem d_Borders_zoneChanges_54 : decode prog_3_method_17_code 54 = .ok (.iload 9, 2) := by decide +kernel
theorem d_Borders_zoneChanges_56 : decode prog_3_method_17_code 56 = .ok (.istore 6, 2) := by decide +kernel
theorem d_Borders_zoneChanges_58 : decode prog_3_method_17_code 58 = .ok (.iinc 7 1, 3) := by decide +kernel
theorem d_Borders_zoneChanges_61 : decode prog_3_method_17_code 61 = .ok (.goto (-52), 3) := by decide +kernel
theorem d_Borders_zoneChanges_64 : decode prog_3_method_17_code 64 = .ok (.iload 5, 2) := by decide +kernel
theorem d_Borders_zoneChanges_66 : decode prog_3_method_17_code 66 = .ok (.ireturn, 1) := by decide +kernel
theorem d_GT_steepest_0 : decode prog_1_method_31_code 0 = .ok (.iload_n 1, 1) := by decide +kernel
theorem d_GT_steepest_1 : decode prog_1_method_31_code 1 = .ok (.invokestatic 61, 3) := by decide +kernel
theorem d_GT_steepest_4 : decode prog_1_method_31_code 4 = .ok (.ifCond .eq 19, 3) := by decide +kernel
theorem d_GT_steepest_7 : decode prog_1_method_31_code 7 = .ok (.iload_n 2, 1) := by decide +kernel
theorem d_GT_steepest_8 : decode prog_1_method_31_code 8 = .ok (.invokestatic 164, 3) := by decide +kernel
theorem d_GT_steepest_11 : decode prog_1_method_31_code 11 = .ok (.ifCond .eq 12, 3) := by decide +kernel
theorem d_GT_steepest_14 : decode prog_1_method_31_code 14 = .ok (.iload_n 3, 1) := by decide +kernel
theorem d_GT_steepest_15 : decode prog_1_method_31_code 15 = .ok (.iconst 0, 1) := by decide +kernel
theorem d_GT_steepest_16 : decode prog_1_method_31_code 16 = .ok (.iconst 1, 1) := by decide +kernel
theorem d_GT_steepest_17 : decode prog_1_method_31_code 17 = .ok (.invokestatic 65, 3) := by decide +kernel
theorem d_GT_steepest_20 : decode prog_1_method_31_code 20 = .ok (.ifCond .ne 6, 3) := by decide +kernel
theorem d_GT_steepest_23 : decode prog_1_method_31_code 23 = .ok (.ldc 76, 2) := by decide +kernel
theorem d_GT_steepest_25 : decode prog_1_method_31_code 25 = .ok (.ireturn, 1) := by decide +kernel
theorem d_GT_steepest_26 : decode prog_1_method_31_code 26 = .ok (.aload_n 0, 1) := by decide +kernel
theorem d_GT_steepest_27 : decode prog_1_method_31_code 27 = .ok (.getfield 12, 3) := by decide +kernel
theorem d_GT_steepest_30 : decode prog_1_method_31_code 30 = .ok (.getfield 77, 3) := by decide +kernel
theorem d_GT_steepest_33 : decode prog_1_method_31_code 33 = .ok (.iload_n 1, 1) := by decide +kernel
theorem d_GT_steepest_34 : decode prog_1_method_31_code 34 = .ok (.invokevirtual 80, 3) := by decide +kernel
theorem d_GT_steepest_37 : decode prog_1_method_31_code 37 = .ok (.astore 4, 2) := by decide +kernel
theorem d_GT_steepest_39 : decode prog_1_method_31_code 39 = .ok (.iload_n 1, 1) := by decide +kernel
theorem d_GT_steepest_40 : decode prog_1_method_31_code 40 = .ok (.ifCond .ne 10, 3) := by decide +kernel
theorem d_GT_steepest_43 : decode prog_1_method_31_code 43 = .ok (.aload_n 0, 1) := by decide +kernel
theorem d_GT_steepest_44 : decode prog_1_method_31_code 44 = .ok (.getfield 47, 3) := by decide +kernel
theorem d_GT_steepest_47 : decode prog_1_method_31_code 47 = .ok (.goto 7, 3) := by decide +kernel
theorem d_GT_steepest_50 : decode prog_1_method_31_code 50 = .ok (.aload_n 0, 1) := by decide +kernel
theorem d_GT_steepest_51 : decode prog_1_method_31_code 51 = .ok (.getfield 51, 3) := by decide +kernel
theorem d_GT_steepest_54 : decode prog_1_method_31_code 54 = .ok (.astore 5, 2) := by decide +kernel
theorem d_GT_steepest_56 : decode prog_1_method_31_code 56 = .ok (.aload_n 0, 1) := by decide +kernel
theorem d_GT_steepest_57 : decode prog_1_method_31_code 57 = .ok (.getfield 47, 3) := by decide +kernel
theorem d_GT_steepest_60 : decode prog_1_method_31_code 60 = .ok (.aload_n 0, 1) := by decide +kernel
theorem d_GT_steepest_61 : decode prog_1_method_31_code 61 = .ok (.getfield 12, 3) := by decide +kernel
theorem d_GT_steepest_64 : decode prog_1_method_31_code 64 = .ok (.getfield 77, 3) := by decide +kernel
theorem d_GT_steepest_67 : decode prog_1_method_31_code 67 = .ok (.getfield 167, 3) := by decide +kernel
theorem d_GT_steepest_70 : decode prog_1_method_31_code 70 = .ok (.iload_n 1, 1) := by decide +kernel
theorem d_GT_steepest_71 : decode prog_1_method_31_code 71 = .ok (.ifCond .ne 7, 3) := by decide +kernel
theorem d_GT_steepest_74 : decode prog_1_method_31_code 74 = .ok (.iconst 0, 1) := by decide +kernel
theorem d_GT_steepest_75 : decode prog_1_method_31_code 75 = .ok (.goto 12, 3) := by decide +kernel
theorem d_GT_steepest_78 : decode prog_1_method_31_code 78 = .ok (.aload_n 0, 1) := by decide +kernel
theorem d_GT_steepest_79 : decode prog_1_method_31_code 79 = .ok (.getfield 12, 3) := by decide +kernel
theorem d_GT_steepest_82 : decode prog_1_method_31_code 82 = .ok (.getfield 200, 3) := by decide +kernel
theorem d_GT_steepest_85 : decode prog_1_method_31_code 85 = .ok (.iconst 0, 1) := by decide +kernel
theorem d_GT_steepest_86 : decode prog_1_method_31_code 86 = .ok (.iaload, 1) := by decide +kernel
theorem d_GT_steepest_87 : decode prog_1_method_31_code 87 = .ok (.invokevirtual 321, 3) := by decide +kernel
theorem d_GT_steepest_90 : decode prog_1_method_31_code 90 = .ok (.aload_n 0, 1) := by decide +kernel
theorem d_GT_steepest_91 : decode prog_1_method_31_code 91 = .ok (.getfield 51, 3) := by decide +kernel
theorem d_GT_steepest_94 : decode prog_1_method_31_code 94 = .ok (.aload_n 0, 1) := by decide +kernel
theorem d_GT_steepest_95 : decode prog_1_method_31_code 95 = .ok (.getfield 12, 3) := by decide +kernel
theorem d_GT_steepest_98 : decode prog_1_method_31_code 98 = .ok (.getfield 77, 3) := by decide +kernel
theorem d_GT_steepest_101 : decode prog_1_method_31_code 101 = .ok (.getfield 170, 3) := by decide +kernel
theorem d_GT_steepest_104 : decode prog_1_method_31_code 104 = .ok (.iload_n 1, 1) := by decide +kernel
theorem d_GT_steepest_105 : decode prog_1_method_31_code 105 = .ok (.ifCond .ne 15, 3) := by decide +kernel
theorem d_GT_steepest_108 : decode prog_1_method_31_code 108 = .ok (.aload_n 0, 1) := by decide +kernel
theorem d_GT_steepest_109 : decode prog_1_method_31_code 109 = .ok (.getfield 12, 3) := by decide +kernel
theorem d_GT_steepest_112 : decode prog_1_method_31_code 112 = .ok (.getfield 200, 3) := by decide +kernel
theorem d_GT_steepest_115 : decode prog_1_method_31_code 115 = .ok (.iconst 1, 1) := by decide +kernel
theorem d_GT_steepest_116 : decode prog_1_method_31_code 116 = .ok (.iaload, 1) := by decide +kernel
theorem d_GT_steepest_117 : decode prog_1_method_31_code 117 = .ok (.goto 4, 3) := by decide +kernel
theorem d_GT_steepest_120 : decode prog_1_method_31_code 120 = .ok (.iconst 0, 1) := by decide +kernel
theorem d_GT_steepest_121 : decode prog_1_method_31_code 121 = .ok (.invokevirtual 321, 3) := by decide +kernel
theorem d_GT_steepest_124 : decode prog_1_method_31_code 124 = .ok (.aload_n 0, 1) := by decide +kernel
theorem d_GT_steepest_125 : decode prog_1_method_31_code 125 = .ok (.iload_n 2, 1) := by decide +kernel
theorem d_GT_steepest_126 : decode prog_1_method_31_code 126 = .ok (.invokevirtual 295, 3) := by decide +kernel
theorem d_GT_steepest_129 : decode prog_1_method_31_code 129 = .ok (.istore 6, 2) := by decide +kernel
theorem d_GT_steepest_131 : decode prog_1_method_31_code 131 = .ok (.iconst 0, 1) := by decide +kernel
theorem d_GT_steepest_132 : decode prog_1_method_31_code 132 = .ok (.istore 7, 2) := by decide +kernel
theorem d_GT_steepest_134 : decode prog_1_method_31_code 134 = .ok (.iconst 0, 1) := by decide +kernel
theorem d_GT_steepest_135 : decode prog_1_method_31_code 135 = .ok (.istore 8, 2) := by decide +kernel
theorem d_GT_steepest_137 : decode prog_1_method_31_code 137 = .ok (.iconst 0, 1) := by decide +kernel
theorem d_GT_steepest_138 : decode prog_1_method_31_code 138 = .ok (.istore 9, 2) := by decide +kernel
theorem d_GT_steepest_140 : decode prog_1_method_31_code 140 = .ok (.iload 9, 2) := by decide +kernel
theorem d_GT_steepest_142 : decode prog_1_method_31_code 142 = .ok (.sipush 1000, 3) := by decide +kernel
theorem d_GT_steepest_145 : decode prog_1_method_31_code 145 = .ok (.if_icmp .ge 58, 3) := by decide +kernel
theorem d_GT_steepest_148 : decode prog_1_method_31_code 148 = .ok (.aload 5, 2) := by decide +kernel
theorem d_GT_steepest_150 : decode prog_1_method_31_code 150 = .ok (.aload 4, 2) := by decide +kernel
theorem d_GT_steepest_152 : decode prog_1_method_31_code 152 = .ok (.iload 9, 2) := by decide +kernel
theorem d_GT_steepest_154 : decode prog_1_method_31_code 154 = .ok (.iconst 1, 1) := by decide +kernel
theorem d_GT_steepest_155 : decode prog_1_method_31_code 155 = .ok (.iadd, 1) := by decide +kernel
theorem d_GT_steepest_156 : decode prog_1_method_31_code 156 = .ok (.invokevirtual 321, 3) := by decide +kernel
theorem d_GT_steepest_159 : decode prog_1_method_31_code 159 = .ok (.aload_n 0, 1) := by decide +kernel
theorem d_GT_steepest_160 : decode prog_1_method_31_code 160 = .ok (.iload_n 2, 1) := by decide +kernel
theorem d_GT_steepest_161 : decode prog_1_method_31_code 161 = .ok (.invokevirtual 295, 3) := by decide +kernel
theorem d_GT_steepest_164 : decode prog_1_method_31_code 164 = .ok (.istore 10, 2) := by decide +kernel
theorem d_GT_steepest_166 : decode prog_1_method_31_code 166 = .ok (.iload 10, 2) := by decide +kernel
theorem d_GT_steepest_168 : decode prog_1_method_31_code 168 = .ok (.iload 6, 2) := by decide +kernel
theorem d_GT_steepest_170 : decode prog_1_method_31_code 170 = .ok (.isub, 1) := by decide +kernel
theorem d_GT_steepest_171 : decode prog_1_method_31_code 171 = .ok (.invokestatic 337, 3) := by decide +kernel
theorem d_GT_steepest_174 : decode prog_1_method_31_code 174 = .ok (.iload 7, 2) := by decide +kernel
theorem d_GT_steepest_176 : decode prog_1_method_31_code 176 = .ok (.if_icmp .le 17, 3) := by decide +kernel
theorem d_GT_steepest_179 : decode prog_1_method_31_code 179 = .ok (.iload 10, 2) := by decide +kernel
theorem d_GT_steepest_181 : decode prog_1_method_31_code 181 = .ok (.iload 6, 2) := by decide +kernel
theorem d_GT_steepest_183 : decode prog_1_method_31_code 183 = .ok (.isub, 1) := by decide +kernel
theorem d_GT_steepest_184 : decode prog_1_method_31_code 184 = .ok (.invokestatic 337, 3) := by decide +kernel
theorem d_GT_steepest_187 : decode prog_1_method_31_code 187 = .ok (.istore 7, 2) := by decide +kernel
theorem d_GT_steepest_189 : decode prog_1_method_31_code 189 = .ok (.iload 9, 2) := by decide +kernel
theorem d_GT_steepest_191 : decode prog_1_method_31_code 191 = .ok (.istore 8, 2) := by decide +kernel
theorem d_GT_steepest_193 : decode prog_1_method_31_code 193 = .ok (.iload 10, 2) := by decide +kernel
theorem d_GT_steepest_195 : decode prog_1_method_31_code 195 = .ok (.istore 6, 2) := by decide +kernel
theorem d_GT_steepest_197 : decode prog_1_method_31_code 197 = .ok (.iinc 9 1, 3) := by decide +kernel
theorem d_GT_steepest_200 : decode prog_1_method_31_code 200 = .ok (.goto (-60), 3) := by decide +kernel
theorem d_GT_steepest_203 : decode prog_1_method_31_code 203 = .ok (.iload_n 3, 1) := by decide +kernel
theorem d_GT_steepest_204 : decode prog_1_method_31_code 204 = .ok (.ifCond .ne 8, 3) := by decide +kernel
theorem d_GT_steepest_207 : decode prog_1_method_31_code 207 = .ok (.iload 7, 2) := by decide +kernel
theorem d_GT_steepest_209 : decode prog_1_method_31_code 209 = .ok (.goto 5, 3) := by decide +kernel
theorem d_GT_steepest_212 : decode prog_1_method_31_code 212 = .ok (.iload 8, 2) := by decide +kernel
theorem d_GT_steepest_214 : decode prog_1_method_31_code 214 = .ok (.ireturn, 1) := by decide +kernel
theorem d_GT_axis_0 : decode prog_1_method_19_code 0 = .ok (.iload_n 1, 1) := by decide +kernel
theorem d_GT_axis_1 : decode prog_1_method_19_code 1 = .ok (.invokestatic 61, 3) := by decide +kernel
theorem d_GT_axis_4 : decode prog_1_method_19_code 4 = .ok (.ifCond .ne 6, 3) := by decide +kernel
theorem d_GT_axis_7 : decode prog_1_method_19_code 7 = .ok (.ldc 76, 2) := by decide +kernel
theorem d_GT_axis_9 : decode prog_1_method_19_code 9 = .ok (.ireturn, 1) := by decide +kernel
theorem d_GT_axis_10 : decode prog_1_method_19_code 10 = .ok (.aload_n 0, 1) := by decide +kernel
theorem d_GT_axis_11 : decode prog_1_method_19_code 11 = .ok (.invokevirtual 266, 3) := by decide +kernel
theorem d_GT_axis_14 : decode prog_1_method_19_code 14 = .ok (.iload_n 1, 1) := by decide +kernel
theorem d_GT_axis_15 : decode prog_1_method_19_code 15 = .ok (.ifCond .ne 10, 3) := by decide +kernel
theorem d_GT_axis_18 : decode prog_1_method_19_code 18 = .ok (.aload_n 0, 1) := by decide +kernel
theorem d_GT_axis_19 : decode prog_1_method_19_code 19 = .ok (.getfield 47, 3) := by decide +kernel
theorem d_GT_axis_22 : decode prog_1_method_19_code 22 = .ok (.goto 7, 3) := by decide +kernel
theorem d_GT_axis_25 : decode prog_1_method_19_code 25 = .ok (.aload_n 0, 1) := by decide +kernel
theorem d_GT_axis_26 : decode prog_1_method_19_code 26 = .ok (.getfield 51, 3) := by decide +kernel
theorem d_GT_axis_29 : decode prog_1_method_19_code 29 = .ok (.astore_n 3, 1) := by decide +kernel
theorem d_GT_axis_30 : decode prog_1_method_19_code 30 = .ok (.iload_n 2, 1) := by decide +kernel
theorem d_GT_axis_31 : decode prog_1_method_19_code 31 = .ok (.tableswitch 87 0 5 #[37, 52, 67, 72, 77, 82], 37) := by decide +kernel
theorem d_GT_axis_68 : decode prog_1_method_19_code 68 = .ok (.aload_n 0, 1) := by decide +kernel
theorem d_GT_axis_69 : decode prog_1_method_19_code 69 = .ok (.getfield 12, 3) := by decide +kernel
theorem d_GT_axis_72 : decode prog_1_method_19_code 72 = .ok (.getfield 77, 3) := by decide +kernel
theorem d_GT_axis_75 : decode prog_1_method_19_code 75 = .ok (.iload_n 1, 1) := by decide +kernel
theorem d_GT_axis_76 : decode prog_1_method_19_code 76 = .ok (.invokevirtual 80, 3) := by decide +kernel
theorem d_GT_axis_79 : decode prog_1_method_19_code 79 = .ok (.getfield 116, 3) := by decide +kernel
theorem d_GT_axis_82 : decode prog_1_method_19_code 82 = .ok (.ireturn, 1) := by decide +kernel
theorem d_GT_axis_83 : decode prog_1_method_19_code 83 = .ok (.aload_n 0, 1) := by decide +kernel
theorem d_GT_axis_84 : decode prog_1_method_19_code 84 = .ok (.getfield 12, 3) := by decide +kernel
theorem d_GT_axis_87 : decode prog_1_method_19_code 87 = .ok (.getfield 77, 3) := by decide +kernel
theorem d_GT_axis_90 : decode prog_1_method_19_code 90 = .ok (.iload_n 1, 1) := by decide +kernel
theorem d_GT_axis_91 : decode prog_1_method_19_code 91 = .ok (.invokevirtual 80, 3) := by decide +kernel
theorem d_GT_axis_94 : decode prog_1_method_19_code 94 = .ok (.invokevirtual 269, 3) := by decide +kernel
theorem d_GT_axis_97 : decode prog_1_method_19_code 97 = .ok (.ireturn, 1) := by decide +kernel
theorem d_GT_axis_98 : decode prog_1_method_19_code 98 = .ok (.aload_n 3, 1) := by decide +kernel
theorem d_GT_axis_99 : decode prog_1_method_19_code 99 = .ok (.getfield 271, 3) := by decide +kernel
theorem d_GT_axis_102 : decode prog_1_method_19_code 102 = .ok (.ireturn, 1) := by decide +kernel
theorem d_GT_axis_103 : decode prog_1_method_19_code 103 = .ok (.aload_n 3, 1) := by decide +kernel
theorem d_GT_axis_104 : decode prog_1_method_19_code 104 = .ok (.getfield 274, 3) := by decide +kernel
theorem d_GT_axis_107 : decode prog_1_method_19_code 107 = .ok (.ireturn, 1) := by decide +kernel
theorem d_GT_axis_108 : decode prog_1_method_19_code 108 = .ok (.aload_n 3, 1) := by decide +kernel
theorem d_GT_axis_109 : decode prog_1_method_19_code 109 = .ok (.getfield 277, 3) := by decide +kernel
theorem d_GT_axis_112 : decode prog_1_method_19_code 112 = .ok (.ireturn, 1) := by decide +kernel
theorem d_GT_axis_113 : decode prog_1_method_19_code 113 = .ok (.aload_n 3, 1) := by decide +kernel
theorem d_GT_axis_114 : decode prog_1_method_19_code 114 = .ok (.getfield 280, 3) := by decide +kernel
theorem d_GT_axis_117 : decode prog_1_method_19_code 117 = .ok (.ireturn, 1) := by decide +kernel
theorem d_GT_axis_118 : decode prog_1_method_19_code 118 = .ok (.ldc 76, 2) := by decide +kernel
theorem d_GT_axis_120 : decode prog_1_method_19_code 120 = .ok (.ireturn, 1) := by decide +kernel
theorem d_Borders_zones_0 : decode prog_3_method_12_code 0 = .ok (.aload_n 0, 1) := by decide +kernel
theorem d_Borders_zones_1 : decode prog_3_method_12_code 1 = .ok (.sipush 1000, 3) := by decide +kernel
theorem d_Borders_zones_4 : decode prog_3_method_12_code 4 = .ok (.invokevirtual 35, 3) := by decide +kernel
theorem d_Borders_zones_7 : decode prog_3_method_12_code 7 = .ok (.iconst 1, 1) := by decide +kernel
theorem d_Borders_zones_8 : decode prog_3_method_12_code 8 = .ok (.iadd, 1) := by decide +kernel
theorem d_Borders_zones_9 : decode prog_3_method_12_code 9 = .ok (.ireturn, 1) := by decide +kernel
theorem d_GT_border_0 : decode prog_1_method_20_code 0 = .ok (.iload_n 1, 1) := by decide +kernel
theorem d_GT_border_1 : decode prog_1_method_20_code 1 = .ok (.invokestatic 61, 3) := by decide +kernel
theorem d_GT_border_4 : decode prog_1_method_20_code 4 = .ok (.ifCond .eq 16, 3) := by decide +kernel
theorem d_GT_border_7 : decode prog_1_method_20_code 7 = .ok (.iload_n 2, 1) := by decide +kernel
theorem d_GT_border_8 : decode prog_1_method_20_code 8 = .ok (.ifCond .lt 12, 3) := by decide +kernel
theorem d_GT_border_11 : decode prog_1_method_20_code 11 = .ok (.iload_n 3, 1) := by decide +kernel
theorem d_GT_border_12 : decode prog_1_method_20_code 12 = .ok (.iconst 0, 1) := by decide +kernel
theorem d_GT_border_13 : decode prog_1_method_20_code 13 = .ok (.iconst 2, 1) := by decide +kernel
theorem d_GT_border_14 : decode prog_1_method_20_code 14 = .ok (.invokestatic 65, 3) := by decide +kernel
theorem d_GT_border_17 : decode prog_1_method_20_code 17 = .ok (.ifCond .ne 6, 3) := by decide +kernel
theorem d_GT_border_20 : decode prog_1_method_20_code 20 = .ok (.ldc 76, 2) := by decide +kernel
theorem d_GT_border_22 : decode prog_1_method_20_code 22 = .ok (.ireturn, 1) := by decide +kernel
theorem d_GT_border_23 : decode prog_1_method_20_code 23 = .ok (.aload_n 0, 1) := by decide +kernel
theorem d_GT_border_24 : decode prog_1_method_20_code 24 = .ok (.getfield 12, 3) := by decide +kernel
theorem d_GT_border_27 : decode prog_1_method_20_code 27 = .ok (.getfield 77, 3) := by decide +kernel
theorem d_GT_border_30 : decode prog_1_method_20_code 30 = .ok (.iload_n 1, 1) := by decide +kernel
theorem d_GT_border_31 : decode prog_1_method_20_code 31 = .ok (.invokevirtual 80, 3) := by decide +kernel
theorem d_GT_border_34 : decode prog_1_method_20_code 34 = .ok (.astore 4, 2) := by decide +kernel
theorem d_GT_border_36 : decode prog_1_method_20_code 36 = .ok (.aload 4, 2) := by decide +kernel
theorem d_GT_border_38 : decode prog_1_method_20_code 38 = .ok (.iload_n 2, 1) := by decide +kernel
theorem d_GT_border_39 : decode prog_1_method_20_code 39 = .ok (.invokevirtual 283, 3) := by decide +kernel
theorem d_GT_border_42 : decode prog_1_method_20_code 42 = .ok (.ifCond .ne 6, 3) := by decide +kernel
theorem d_GT_border_45 : decode prog_1_method_20_code 45 = .ok (.ldc 181, 2) := by decide +kernel
theorem d_GT_border_47 : decode prog_1_method_20_code 47 = .ok (.ireturn, 1) := by decide +kernel
theorem d_GT_border_48 : decode prog_1_method_20_code 48 = .ok (.iload_n 3, 1) := by decide +kernel
theorem d_GT_border_49 : decode prog_1_method_20_code 49 = .ok (.lookupswitch 41 #[(0, 27), (1, 34)], 27) := by decide +kernel
theorem d_GT_border_76 : decode prog_1_method_20_code 76 = .ok (.aload 4, 2) := by decide +kernel
theorem d_GT_border_78 : decode prog_1_method_20_code 78 = .ok (.iload_n 2, 1) := by decide +kernel
theorem d_GT_border_79 : decode prog_1_method_20_code 79 = .ok (.invokevirtual 120, 3) := by decide +kernel
theorem d_GT_border_82 : decode prog_1_method_20_code 82 = .ok (.ireturn, 1) := by decide +kernel
theorem d_GT_border_83 : decode prog_1_method_20_code 83 = .ok (.aload 4, 2) := by decide +kernel
theorem d_GT_border_85 : decode prog_1_method_20_code 85 = .ok (.iload_n 2, 1) := by decide +kernel
theorem d_GT_border_86 : decode prog_1_method_20_code 86 = .ok (.invokevirtual 124, 3) := by decide +kernel
theorem d_GT_border_89 : decode prog_1_method_20_code 89 = .ok (.ireturn, 1) := by decide +kernel
theorem d_GT_border_90 : decode prog_1_method_20_code 90 = .ok (.aload 4, 2) := by decide +kernel
theorem d_GT_border_92 : decode prog_1_method_20_code 92 = .ok (.iload_n 2, 1) := by decide +kernel
theorem d_GT_border_93 : decode prog_1_method_20_code 93 = .ok (.invokevirtual 127, 3) := by decide +kernel
theorem d_GT_border_96 : decode prog_1_method_20_code 96 = .ok (.ireturn, 1) := by decide +kernel
theorem d_Borders_kindOf_0 : decode prog_3_method_6_code 0 = .ok (.aload_n 0, 1) := by decide +kernel
theorem d_Borders_kindOf_1 : decode prog_3_method_6_code 1 = .ok (.iload_n 1, 1) := by decide +kernel
theorem d_Borders_kindOf_2 : decode prog_3_method_6_code 2 = .ok (.invokevirtual 31, 3) := by decide +kernel
theorem d_Borders_kindOf_5 : decode prog_3_method_6_code 5 = .ok (.ifCond .eq 12, 3) := by decide +kernel
theorem d_Borders_kindOf_8 : decode prog_3_method_6_code 8 = .ok (.aload_n 0, 1) := by decide +kernel
theorem d_Borders_kindOf_9 : decode prog_3_method_6_code 9 = .ok (.getfield 15, 3) := by decide +kernel
theorem d_Borders_kindOf_12 : decode prog_3_method_6_code 12 = .ok (.iload_n 1, 1) := by decide +kernel
theorem d_Borders_kindOf_13 : decode prog_3_method_6_code 13 = .ok (.iaload, 1) := by decide +kernel
theorem d_Borders_kindOf_14 : decode prog_3_method_6_code 14 = .ok (.goto 4, 3) := by decide +kernel
theorem d_Borders_kindOf_17 : decode prog_3_method_6_code 17 = .ok (.iconst 0, 1) := by decide +kernel
theorem d_Borders_kindOf_18 : decode prog_3_method_6_code 18 = .ok (.ireturn, 1) := by decide +kernel
theorem d_GT_region_0 : decode prog_1_method_21_code 0 = .ok (.aload_n 0, 1) := by decide +kernel
theorem d_GT_region_1 : decode prog_1_method_21_code 1 = .ok (.iload_n 1, 1) := by decide +kernel
theorem d_GT_region_2 : decode prog_1_method_21_code 2 = .ok (.iload_n 2, 1) := by decide +kernel
theorem d_GT_region_3 : decode prog_1_method_21_code 3 = .ok (.invokevirtual 178, 3) := by decide +kernel
theorem d_GT_region_6 : decode prog_1_method_21_code 6 = .ok (.ifCond .eq 12, 3) := by decide +kernel
theorem d_GT_region_9 : decode prog_1_method_21_code 9 = .ok (.iload_n 3, 1) := by decide +kernel
theorem d_GT_region_10 : decode prog_1_method_21_code 10 = .ok (.iconst 0, 1) := by decide +kernel
theorem d_GT_region_11 : decode prog_1_method_21_code 11 = .ok (.iconst 3, 1) := by decide +kernel
theorem d_GT_region_12 : decode prog_1_method_21_code 12 = .ok (.invokestatic 65, 3) := by decide +kernel
theorem d_GT_region_15 : decode prog_1_method_21_code 15 = .ok (.ifCond .ne 6, 3) := by decide +kernel
theorem d_GT_region_18 : decode prog_1_method_21_code 18 = .ok (.ldc 76, 2) := by decide +kernel
theorem d_GT_region_20 : decode prog_1_method_21_code 20 = .ok (.ireturn, 1) := by decide +kernel
theorem d_GT_region_21 : decode prog_1_method_21_code 21 = .ok (.iload_n 1, 1) := by decide +kernel
theorem d_GT_region_22 : decode prog_1_method_21_code 22 = .ok (.iload_n 2, 1) := by decide +kernel
theorem d_GT_region_23 : decode prog_1_method_21_code 23 = .ok (.invokestatic 150, 3) := by decide +kernel
theorem d_GT_region_26 : decode prog_1_method_21_code 26 = .ok (.istore 4, 2) := by decide +kernel
theorem d_GT_region_28 : decode prog_1_method_21_code 28 = .ok (.iload_n 3, 1) := by decide +kernel
theorem d_GT_region_29 : decode prog_1_method_21_code 29 = .ok (.iconst 3, 1) := by decide +kernel
theorem d_GT_region_30 : decode prog_1_method_21_code 30 = .ok (.if_icmp .ge 19, 3) := by decide +kernel
theorem d_GT_region_33 : decode prog_1_method_21_code 33 = .ok (.aload_n 0, 1) := by decide +kernel
theorem d_GT_region_34 : decode prog_1_method_21_code 34 = .ok (.getfield 12, 3) := by decide +kernel
theorem d_GT_region_37 : decode prog_1_method_21_code 37 = .ok (.getfield 77, 3) := by decide +kernel
theorem d_GT_region_40 : decode prog_1_method_21_code 40 = .ok (.iload 4, 2) := by decide +kernel
theorem d_GT_region_42 : decode prog_1_method_21_code 42 = .ok (.iload_n 3, 1) := by decide +kernel
theorem d_GT_region_43 : decode prog_1_method_21_code 43 = .ok (.invokevirtual 157, 3) := by decide +kernel
theorem d_GT_region_46 : decode prog_1_method_21_code 46 = .ok (.goto 15, 3) := by decide +kernel
theorem d_GT_region_49 : decode prog_1_method_21_code 49 = .ok (.aload_n 0, 1) := by decide +kernel
theorem d_GT_region_50 : decode prog_1_method_21_code 50 = .ok (.getfield 12, 3) := by decide +kernel
theorem d_GT_region_53 : decode prog_1_method_21_code 53 = .ok (.getfield 77, 3) := by decide +kernel
theorem d_GT_region_56 : decode prog_1_method_21_code 56 = .ok (.iload 4, 2) := by decide +kernel
theorem d_GT_region_58 : decode prog_1_method_21_code 58 = .ok (.invokevirtual 182, 3) := by decide +kernel
theorem d_GT_region_61 : decode prog_1_method_21_code 61 = .ok (.ireturn, 1) := by decide +kernel
theorem d_GT_operator_0 : decode prog_1_method_22_code 0 = .ok (.iload_n 1, 1) := by decide +kernel
theorem d_GT_operator_1 : decode prog_1_method_22_code 1 = .ok (.invokestatic 136, 3) := by decide +kernel
theorem d_GT_operator_4 : decode prog_1_method_22_code 4 = .ok (.ifCond .ne 6, 3) := by decide +kernel
theorem d_GT_operator_7 : decode prog_1_method_22_code 7 = .ok (.ldc 76, 2) := by decide +kernel
theorem d_GT_operator_9 : decode prog_1_method_22_code 9 = .ok (.ireturn, 1) := by decide +kernel
theorem d_GT_operator_10 : decode prog_1_method_22_code 10 = .ok (.iload_n 2, 1) := by decide +kernel
theorem d_GT_operator_11 : decode prog_1_method_22_code 11 = .ok (.tableswitch 71 0 3 #[29, 39, 49, 61], 29) := by decide +kernel
theorem d_GT_operator_40 : decode prog_1_method_22_code 40 = .ok (.aload_n 0, 1) := by decide +kernel
theorem d_GT_operator_41 : decode prog_1_method_22_code 41 = .ok (.getfield 12, 3) := by decide +kernel
theorem d_GT_operator_44 : decode prog_1_method_22_code 44 = .ok (.getfield 140, 3) := by decide +kernel
theorem d_GT_operator_47 : decode prog_1_method_22_code 47 = .ok (.iload_n 1, 1) := by decide +kernel
theorem d_GT_operator_48 : decode prog_1_method_22_code 48 = .ok (.iaload, 1) := by decide +kernel
theorem d_GT_operator_49 : decode prog_1_method_22_code 49 = .ok (.ireturn, 1) := by decide +kernel
theorem d_GT_operator_50 : decode prog_1_method_22_code 50 = .ok (.aload_n 0, 1) := by decide +kernel
theorem d_GT_operator_51 : decode prog_1_method_22_code 51 = .ok (.getfield 12, 3) := by decide +kernel
theorem d_GT_operator_54 : decode prog_1_method_22_code 54 = .ok (.getfield 143, 3) := by decide +kernel
theorem d_GT_operator_57 : decode prog_1_method_22_code 57 = .ok (.iload_n 1, 1) := by decide +kernel
theorem d_GT_operator_58 : decode prog_1_method_22_code 58 = .ok (.iaload, 1) := by decide +kernel
theorem d_GT_operator_59 : decode prog_1_method_22_code 59 = .ok (.ireturn, 1) := by decide +kernel
theorem d_GT_operator_60 : decode prog_1_method_22_code 60 = .ok (.aload_n 0, 1) := by decide +kernel
theorem d_GT_operator_61 : decode prog_1_method_22_code 61 = .ok (.getfield 12, 3) := by decide +kernel
theorem d_GT_operator_64 : decode prog_1_method_22_code 64 = .ok (.getfield 77, 3) := by decide +kernel
theorem d_GT_operator_67 : decode prog_1_method_22_code 67 = .ok (.iload_n 1, 1) := by decide +kernel
theorem d_GT_operator_68 : decode prog_1_method_22_code 68 = .ok (.invokevirtual 188, 3) := by decide +kernel
theorem d_GT_operator_71 : decode prog_1_method_22_code 71 = .ok (.ireturn, 1) := by decide +kernel
theorem d_GT_operator_72 : decode prog_1_method_22_code 72 = .ok (.aload_n 0, 1) := by decide +kernel
theorem d_GT_operator_73 : decode prog_1_method_22_code 73 = .ok (.getfield 12, 3) := by decide +kernel
theorem d_GT_operator_76 : decode prog_1_method_22_code 76 = .ok (.getfield 286, 3) := by decide +kernel
theorem d_GT_operator_79 : decode prog_1_method_22_code 79 = .ok (.iload_n 1, 1) := by decide +kernel
theorem d_GT_operator_80 : decode prog_1_method_22_code 80 = .ok (.iaload, 1) := by decide +kernel
theorem d_GT_operator_81 : decode prog_1_method_22_code 81 = .ok (.ireturn, 1) := by decide +kernel
theorem d_GT_operator_82 : decode prog_1_method_22_code 82 = .ok (.ldc 76, 2) := by decide +kernel
theorem d_GT_operator_84 : decode prog_1_method_22_code 84 = .ok (.ireturn, 1) := by decide +kernel
theorem d_Table_locksOf_0 : decode prog_7_method_11_code 0 = .ok (.iconst 0, 1) := by decide +kernel
theorem d_Table_locksOf_1 : decode prog_7_method_11_code 1 = .ok (.istore_n 2, 1) := by decide +kernel
theorem d_Table_locksOf_2 : decode prog_7_method_11_code 2 = .ok (.iconst 0, 1) := by decide +kernel
theorem d_Table_locksOf_3 : decode prog_7_method_11_code 3 = .ok (.istore_n 3, 1) := by decide +kernel
theorem d_Table_locksOf_4 : decode prog_7_method_11_code 4 = .ok (.iload_n 3, 1) := by decide +kernel
theorem d_Table_locksOf_5 : decode prog_7_method_11_code 5 = .ok (.aload_n 0, 1) := by decide +kernel
theorem d_Table_locksOf_6 : decode prog_7_method_11_code 6 = .ok (.getfield 12, 3) := by decide +kernel
theorem d_Table_locksOf_9 : decode prog_7_method_11_code 9 = .ok (.getfield 35, 3) := by decide +kernel
theorem d_Table_locksOf_12 : decode prog_7_method_11_code 12 = .ok (.if_icmp .gt 47, 3) := by decide +kernel
theorem d_Table_locksOf_15 : decode prog_7_method_11_code 15 = .ok (.iconst 0, 1) := by decide +kernel
theorem d_Table_locksOf_16 : decode prog_7_method_11_code 16 = .ok (.istore 4, 2) := by decide +kernel
theorem d_Table_locksOf_18 : decode prog_7_method_11_code 18 = .ok (.iload 4, 2) := by decide +kernel
theorem d_Table_locksOf_20 : decode prog_7_method_11_code 20 = .ok (.aload_n 0, 1) := by decide +kernel
theorem d_Table_locksOf_21 : decode prog_7_method_11_code 21 = .ok (.getfield 18, 3) := by decide +kernel
theorem d_Table_locksOf_24 : decode prog_7_method_11_code 24 = .ok (.getfield 35, 3) := by decide +kernel
theorem d_Table_locksOf_27 : decode prog_7_method_11_code 27 = .ok (.if_icmp .gt 26, 3) := by decide +kernel
theorem d_Table_locksOf_30 : decode prog_7_method_11_code 30 = .ok (.aload_n 0, 1) := by decide +kernel
theorem d_Table_locksOf_31 : decode prog_7_method_11_code 31 = .ok (.iload_n 3, 1) := by decide +kernel
theorem d_Table_locksOf_32 : decode prog_7_method_11_code 32 = .ok (.iload 4, 2) := by decide +kernel
theorem d_Table_locksOf_34 : decode prog_7_method_11_code 34 = .ok (.invokestatic 49, 3) := by decide +kernel
theorem d_Table_locksOf_37 : decode prog_7_method_11_code 37 = .ok (.invokevirtual 53, 3) := by decide +kernel
theorem d_Table_locksOf_40 : decode prog_7_method_11_code 40 = .ok (.iload_n 1, 1) := by decide +kernel
theorem d_Table_locksOf_41 : decode prog_7_method_11_code 41 = .ok (.if_icmp .ne 6, 3) := by decide +kernel
theorem d_Table_locksOf_44 : decode prog_7_method_11_code 44 = .ok (.iinc 2 1, 3) := by decide +kernel
theorem d_Table_locksOf_47 : decode prog_7_method_11_code 47 = .ok (.iinc 4 1, 3) := by decide +kernel
theorem d_Table_locksOf_50 : decode prog_7_method_11_code 50 = .ok (.goto (-32), 3) := by decide +kernel
theorem d_Table_locksOf_53 : decode prog_7_method_11_code 53 = .ok (.iinc 3 1, 3) := by decide +kernel
theorem d_Table_locksOf_56 : decode prog_7_method_11_code 56 = .ok (.goto (-52), 3) := by decide +kernel
theorem d_Table_locksOf_59 : decode prog_7_method_11_code 59 = .ok (.iload_n 2, 1) := by decide +kernel
theorem d_Table_locksOf_60 : decode prog_7_method_11_code 60 = .ok (.ireturn, 1) := by decide +kernel
theorem d_GT_account_0 : decode prog_1_method_23_code 0 = .ok (.iload_n 1, 1) := by decide +kernel
theorem d_GT_account_1 : decode prog_1_method_23_code 1 = .ok (.iconst 0, 1) := by decide +kernel
theorem d_GT_account_2 : decode prog_1_method_23_code 2 = .ok (.iconst 4, 1) := by decide +kernel
theorem d_GT_account_3 : decode prog_1_method_23_code 3 = .ok (.invokestatic 65, 3) := by decide +kernel
theorem d_GT_account_6 : decode prog_1_method_23_code 6 = .ok (.ifCond .ne 6, 3) := by decide +kernel
theorem d_GT_account_9 : decode prog_1_method_23_code 9 = .ok (.ldc 76, 2) := by decide +kernel
theorem d_GT_account_11 : decode prog_1_method_23_code 11 = .ok (.ireturn, 1) := by decide +kernel
theorem d_GT_account_12 : decode prog_1_method_23_code 12 = .ok (.iload_n 1, 1) := by decide +kernel
theorem d_GT_account_13 : decode prog_1_method_23_code 13 = .ok (.iconst 4, 1) := by decide +kernel
theorem d_GT_account_14 : decode prog_1_method_23_code 14 = .ok (.if_icmp .ne 13, 3) := by decide +kernel
theorem d_GT_account_17 : decode prog_1_method_23_code 17 = .ok (.aload_n 0, 1) := by decide +kernel
theorem d_GT_account_18 : decode prog_1_method_23_code 18 = .ok (.getfield 12, 3) := by decide +kernel
theorem d_GT_account_21 : decode prog_1_method_23_code 21 = .ok (.invokevirtual 289, 3) := by decide +kernel
theorem d_GT_account_24 : decode prog_1_method_23_code 24 = .ok (.goto 12, 3) := by decide +kernel
theorem d_GT_account_27 : decode prog_1_method_23_code 27 = .ok (.aload_n 0, 1) := by decide +kernel
theorem d_GT_account_28 : decode prog_1_method_23_code 28 = .ok (.getfield 12, 3) := by decide +kernel
theorem d_GT_account_31 : decode prog_1_method_23_code 31 = .ok (.getfield 292, 3) := by decide +kernel
theorem d_GT_account_34 : decode prog_1_method_23_code 34 = .ok (.iload_n 1, 1) := by decide +kernel
theorem d_GT_account_35 : decode prog_1_method_23_code 35 = .ok (.iaload, 1) := by decide +kernel
theorem d_GT_account_36 : decode prog_1_method_23_code 36 = .ok (.ireturn, 1) := by decide +kernel
theorem d_State_sumOfAccounts_0 : decode prog_6_method_5_code 0 = .ok (.iconst 0, 1) := by decide +kernel
theorem d_State_sumOfAccounts_1 : decode prog_6_method_5_code 1 = .ok (.istore_n 1, 1) := by decide +kernel
theorem d_State_sumOfAccounts_2 : decode prog_6_method_5_code 2 = .ok (.iconst 0, 1) := by decide +kernel
theorem d_State_sumOfAccounts_3 : decode prog_6_method_5_code 3 = .ok (.istore_n 2, 1) := by decide +kernel
theorem d_State_sumOfAccounts_4 : decode prog_6_method_5_code 4 = .ok (.iload_n 2, 1) := by decide +kernel
theorem d_State_sumOfAccounts_5 : decode prog_6_method_5_code 5 = .ok (.aload_n 0, 1) := by decide +kernel
theorem d_State_sumOfAccounts_6 : decode prog_6_method_5_code 6 = .ok (.getfield 54, 3) := by decide +kernel
theorem d_State_sumOfAccounts_9 : decode prog_6_method_5_code 9 = .ok (.arraylength, 1) := by decide +kernel
theorem d_State_sumOfAccounts_10 : decode prog_6_method_5_code 10 = .ok (.if_icmp .ge 18, 3) := by decide +kernel
theorem d_State_sumOfAccounts_13 : decode prog_6_method_5_code 13 = .ok (.iload_n 1, 1) := by decide +kernel
theorem d_State_sumOfAccounts_14 : decode prog_6_method_5_code 14 = .ok (.aload_n 0, 1) := by decide +kernel
theorem d_State_sumOfAccounts_15 : decode prog_6_method_5_code 15 = .ok (.getfield 54, 3) := by decide +kernel
theorem d_State_sumOfAccounts_18 : decode prog_6_method_5_code 18 = .ok (.iload_n 2, 1) := by decide +kernel
theorem d_State_sumOfAccounts_19 : decode prog_6_method_5_code 19 = .ok (.iaload, 1) := by decide +kernel
theorem d_State_sumOfAccounts_20 : decode prog_6_method_5_code 20 = .ok (.iadd, 1) := by decide +kernel
theorem d_State_sumOfAccounts_21 : decode prog_6_method_5_code 21 = .ok (.istore_n 1, 1) := by decide +kernel
theorem d_State_sumOfAccounts_22 : decode prog_6_method_5_code 22 = .ok (.iinc 2 1, 3) := by decide +kernel
theorem d_State_sumOfAccounts_25 : decode prog_6_method_5_code 25 = .ok (.goto (-21), 3) := by decide +kernel
theorem d_State_sumOfAccounts_28 : decode prog_6_method_5_code 28 = .ok (.iload_n 1, 1) := by decide +kernel
theorem d_State_sumOfAccounts_29 : decode prog_6_method_5_code 29 = .ok (.ireturn, 1) := by decide +kernel
theorem d_GT_gain_0 : decode prog_1_method_24_code 0 = .ok (.iload_n 1, 1) := by decide +kernel
theorem d_GT_gain_1 : decode prog_1_method_24_code 1 = .ok (.invokestatic 164, 3) := by decide +kernel
theorem d_GT_gain_4 : decode prog_1_method_24_code 4 = .ok (.ifCond .ne 6, 3) := by decide +kernel
theorem d_GT_gain_7 : decode prog_1_method_24_code 7 = .ok (.ldc 76, 2) := by decide +kernel
theorem d_GT_gain_9 : decode prog_1_method_24_code 9 = .ok (.ireturn, 1) := by decide +kernel
theorem d_GT_gain_10 : decode prog_1_method_24_code 10 = .ok (.aload_n 0, 1) := by decide +kernel
theorem d_GT_gain_11 : decode prog_1_method_24_code 11 = .ok (.invokevirtual 266, 3) := by decide +kernel
theorem d_GT_gain_14 : decode prog_1_method_24_code 14 = .ok (.iload_n 2, 1) := by decide +kernel
theorem d_GT_gain_15 : decode prog_1_method_24_code 15 = .ok (.tableswitch 67 0 2 #[25, 31, 51], 25) := by decide +kernel
theorem d_GT_gain_40 : decode prog_1_method_24_code 40 = .ok (.aload_n 0, 1) := by decide +kernel
theorem d_GT_gain_41 : decode prog_1_method_24_code 41 = .ok (.iload_n 1, 1) := by decide +kernel
theorem d_GT_gain_42 : decode prog_1_method_24_code 42 = .ok (.invokevirtual 295, 3) := by decide +kernel
theorem d_GT_gain_45 : decode prog_1_method_24_code 45 = .ok (.ireturn, 1) := by decide +kernel
theorem d_GT_gain_46 : decode prog_1_method_24_code 46 = .ok (.aload_n 0, 1) := by decide +kernel
theorem d_GT_gain_47 : decode prog_1_method_24_code 47 = .ok (.getfield 12, 3) := by decide +kernel
theorem d_GT_gain_50 : decode prog_1_method_24_code 50 = .ok (.getfield 77, 3) := by decide +kernel
theorem d_GT_gain_53 : decode prog_1_method_24_code 53 = .ok (.aload_n 0, 1) := by decide +kernel
theorem d_GT_gain_54 : decode prog_1_method_24_code 54 = .ok (.getfield 47, 3) := by decide +kernel
theorem d_GT_gain_57 : decode prog_1_method_24_code 57 = .ok (.aload_n 0, 1) := by decide +kernel
theorem d_GT_gain_58 : decode prog_1_method_24_code 58 = .ok (.getfield 51, 3) := by decide +kernel
theorem d_GT_gain_61 : decode prog_1_method_24_code 61 = .ok (.iload_n 1, 1) := by decide +kernel
theorem d_GT_gain_62 : decode prog_1_method_24_code 62 = .ok (.invokevirtual 298, 3) := by decide +kernel
theorem d_GT_gain_65 : decode prog_1_method_24_code 65 = .ok (.ireturn, 1) := by decide +kernel
theorem d_GT_gain_66 : decode prog_1_method_24_code 66 = .ok (.aload_n 0, 1) := by decide +kernel
theorem d_GT_gain_67 : decode prog_1_method_24_code 67 = .ok (.getfield 47, 3) := by decide +kernel
theorem d_GT_gain_70 : decode prog_1_method_24_code 70 = .ok (.getfield 280, 3) := by decide +kernel
theorem d_GT_gain_73 : decode prog_1_method_24_code 73 = .ok (.aload_n 0, 1) := by decide +kernel
theorem d_GT_gain_74 : decode prog_1_method_24_code 74 = .ok (.getfield 51, 3) := by decide +kernel
theorem d_GT_gain_77 : decode prog_1_method_24_code 77 = .ok (.getfield 280, 3) := by decide +kernel
theorem d_GT_gain_80 : decode prog_1_method_24_code 80 = .ok (.imul, 1) := by decide +kernel
theorem d_GT_gain_81 : decode prog_1_method_24_code 81 = .ok (.ireturn, 1) := by decide +kernel
theorem d_GT_gain_82 : decode prog_1_method_24_code 82 = .ok (.ldc 76, 2) := by decide +kernel
theorem d_GT_gain_84 : decode prog_1_method_24_code 84 = .ok (.ireturn, 1) := by decide +kernel
theorem d_GT_trail_0 : decode prog_1_method_25_code 0 = .ok (.iload_n 1, 1) := by decide +kernel
theorem d_GT_trail_1 : decode prog_1_method_25_code 1 = .ok (.ifCond .lt 13, 3) := by decide +kernel
theorem d_GT_trail_4 : decode prog_1_method_25_code 4 = .ok (.iload_n 2, 1) := by decide +kernel
theorem d_GT_trail_5 : decode prog_1_method_25_code 5 = .ok (.iconst 0, 1) := by decide +kernel
theorem d_GT_trail_6 : decode prog_1_method_25_code 6 = .ok (.bipush 7, 2) := by decide +kernel
theorem d_GT_trail_8 : decode prog_1_method_25_code 8 = .ok (.invokestatic 65, 3) := by decide +kernel
theorem d_GT_trail_11 : decode prog_1_method_25_code 11 = .ok (.ifCond .ne 6, 3) := by decide +kernel
theorem d_GT_trail_14 : decode prog_1_method_25_code 14 = .ok (.ldc 76, 2) := by decide +kernel
theorem d_GT_trail_16 : decode prog_1_method_25_code 16 = .ok (.ireturn, 1) := by decide +kernel
theorem d_GT_trail_17 : decode prog_1_method_25_code 17 = .ok (.iload_n 1, 1) := by decide +kernel
theorem d_GT_trail_18 : decode prog_1_method_25_code 18 = .ok (.aload_n 0, 1) := by decide +kernel
theorem d_GT_trail_19 : decode prog_1_method_25_code 19 = .ok (.getfield 12, 3) := by decide +kernel
theorem d_GT_trail_22 : decode prog_1_method_25_code 22 = .ok (.getfield 250, 3) := by decide +kernel
theorem d_GT_trail_25 : decode prog_1_method_25_code 25 = .ok (.getfield 254, 3) := by decide +kernel
theorem d_GT_trail_28 : decode prog_1_method_25_code 28 = .ok (.if_icmp .ge 18, 3) := by decide +kernel
theorem d_GT_trail_31 : decode prog_1_method_25_code 31 = .ok (.aload_n 0, 1) := by decide +kernel
theorem d_GT_trail_32 : decode prog_1_method_25_code 32 = .ok (.getfield 12, 3) := by decide +kernel
theorem d_GT_trail_35 : decode prog_1_method_25_code 35 = .ok (.getfield 250, 3) := by decide +kernel
theorem d_GT_trail_38 : decode prog_1_method_25_code 38 = .ok (.iload_n 1, 1) := by decide +kernel
theorem d_GT_trail_39 : decode prog_1_method_25_code 39 = .ok (.iload_n 2, 1) := by decide +kernel
theorem d_GT_trail_40 : decode prog_1_method_25_code 40 = .ok (.invokevirtual 301, 3) := by decide +kernel
theorem d_GT_trail_43 : decode prog_1_method_25_code 43 = .ok (.goto 5, 3) := by decide +kernel
theorem d_GT_trail_46 : decode prog_1_method_25_code 46 = .ok (.ldc 181, 2) := by decide +kernel
theorem d_GT_trail_48 : decode prog_1_method_25_code 48 = .ok (.ireturn, 1) := by decide +kernel
theorem d_Path_partOf_0 : decode prog_5_method_5_code 0 = .ok (.aload_n 0, 1) := by decide +kernel
theorem d_Path_partOf_1 : decode prog_5_method_5_code 1 = .ok (.getfield 19, 3) := by decide +kernel
theorem d_Path_partOf_4 : decode prog_5_method_5_code 4 = .ok (.iload_n 1, 1) := by decide +kernel
theorem d_Path_partOf_5 : decode prog_5_method_5_code 5 = .ok (.isub, 1) := by decide +kernel
theorem d_Path_partOf_6 : decode prog_5_method_5_code 6 = .ok (.bipush 20, 2) := by decide +kernel
theorem d_Path_partOf_8 : decode prog_5_method_5_code 8 = .ok (.invokestatic 34, 3) := by decide +kernel
theorem d_Path_partOf_11 : decode prog_5_method_5_code 11 = .ok (.bipush 8, 2) := by decide +kernel
theorem d_Path_partOf_13 : decode prog_5_method_5_code 13 = .ok (.imul, 1) := by decide +kernel
theorem d_Path_partOf_14 : decode prog_5_method_5_code 14 = .ok (.iload_n 2, 1) := by decide +kernel
theorem d_Path_partOf_15 : decode prog_5_method_5_code 15 = .ok (.iadd, 1) := by decide +kernel
theorem d_Path_partOf_16 : decode prog_5_method_5_code 16 = .ok (.istore_n 3, 1) := by decide +kernel
theorem d_Path_partOf_17 : decode prog_5_method_5_code 17 = .ok (.iload_n 3, 1) := by decide +kernel
theorem d_Path_partOf_18 : decode prog_5_method_5_code 18 = .ok (.ifCond .lt 21, 3) := by decide +kernel
theorem d_Path_partOf_21 : decode prog_5_method_5_code 21 = .ok (.iload_n 3, 1) := by decide +kernel
theorem d_Path_partOf_22 : decode prog_5_method_5_code 22 = .ok (.aload_n 0, 1) := by decide +kernel
theorem d_Path_partOf_23 : decode prog_5_method_5_code 23 = .ok (.getfield 9, 3) := by decide +kernel
theorem d_Path_partOf_26 : decode prog_5_method_5_code 26 = .ok (.arraylength, 1) := by decide +kernel
theorem d_Path_partOf_27 : decode prog_5_method_5_code 27 = .ok (.if_icmp .ge 12, 3) := by decide +kernel
theorem d_Path_partOf_30 : decode prog_5_method_5_code 30 = .ok (.aload_n 0, 1) := by decide +kernel
theorem d_Path_partOf_31 : decode prog_5_method_5_code 31 = .ok (.getfield 9, 3) := by decide +kernel
theorem d_Path_partOf_34 : decode prog_5_method_5_code 34 = .ok (.iload_n 3, 1) := by decide +kernel
theorem d_Path_partOf_35 : decode prog_5_method_5_code 35 = .ok (.iaload, 1) := by decide +kernel
theorem d_Path_partOf_36 : decode prog_5_method_5_code 36 = .ok (.goto 5, 3) := by decide +kernel
theorem d_Path_partOf_39 : decode prog_5_method_5_code 39 = .ok (.ldc 37, 2) := by decide +kernel
theorem d_Path_partOf_41 : decode prog_5_method_5_code 41 = .ok (.ireturn, 1) := by decide +kernel
theorem d_GT_removeBorder_0 : decode prog_1_method_3_code 0 = .ok (.aload_n 0, 1) := by decide +kernel
theorem d_GT_removeBorder_1 : decode prog_1_method_3_code 1 = .ok (.iload_n 1, 1) := by decide +kernel
theorem d_GT_removeBorder_2 : decode prog_1_method_3_code 2 = .ok (.iload_n 2, 1) := by decide +kernel
theorem d_GT_removeBorder_3 : decode prog_1_method_3_code 3 = .ok (.invokevirtual 109, 3) := by decide +kernel
theorem d_GT_removeBorder_6 : decode prog_1_method_3_code 6 = .ok (.ifCond .ne 6, 3) := by decide +kernel
theorem d_GT_removeBorder_9 : decode prog_1_method_3_code 9 = .ok (.ldc 76, 2) := by decide +kernel
theorem d_GT_removeBorder_11 : decode prog_1_method_3_code 11 = .ok (.ireturn, 1) := by decide +kernel
theorem d_GT_removeBorder_12 : decode prog_1_method_3_code 12 = .ok (.aload_n 0, 1) := by decide +kernel
theorem d_GT_removeBorder_13 : decode prog_1_method_3_code 13 = .ok (.getfield 19, 3) := by decide +kernel
theorem d_GT_removeBorder_16 : decode prog_1_method_3_code 16 = .ok (.aload_n 0, 1) := by decide +kernel
theorem d_GT_removeBorder_17 : decode prog_1_method_3_code 17 = .ok (.getfield 12, 3) := by decide +kernel
theorem d_GT_removeBorder_20 : decode prog_1_method_3_code 20 = .ok (.invokevirtual 93, 3) := by decide +kernel
theorem d_GT_removeBorder_23 : decode prog_1_method_3_code 23 = .ok (.aload_n 0, 1) := by decide +kernel
theorem d_GT_removeBorder_24 : decode prog_1_method_3_code 24 = .ok (.getfield 12, 3) := by decide +kernel
theorem d_GT_removeBorder_27 : decode prog_1_method_3_code 27 = .ok (.getfield 77, 3) := by decide +kernel
theorem d_GT_removeBorder_30 : decode prog_1_method_3_code 30 = .ok (.invokevirtual 97, 3) := by decide +kernel
theorem d_GT_removeBorder_33 : decode prog_1_method_3_code 33 = .ok (.istore_n 3, 1) := by decide +kernel
theorem d_GT_removeBorder_34 : decode prog_1_method_3_code 34 = .ok (.aload_n 0, 1) := by decide +kernel
theorem d_GT_removeBorder_35 : decode prog_1_method_3_code 35 = .ok (.getfield 12, 3) := by decide +kernel
theorem d_GT_removeBorder_38 : decode prog_1_method_3_code 38 = .ok (.getfield 77, 3) := by decide +kernel
theorem d_GT_removeBorder_41 : decode prog_1_method_3_code 41 = .ok (.iload_n 1, 1) := by decide +kernel
theorem d_GT_removeBorder_42 : decode prog_1_method_3_code 42 = .ok (.iload_n 2, 1) := by decide +kernel
theorem d_GT_removeBorder_43 : decode prog_1_method_3_code 43 = .ok (.invokevirtual 112, 3) := by decide +kernel
theorem d_GT_removeBorder_46 : decode prog_1_method_3_code 46 = .ok (.aload_n 0, 1) := by decide +kernel
theorem d_GT_removeBorder_47 : decode prog_1_method_3_code 47 = .ok (.getfield 12, 3) := by decide +kernel
theorem d_GT_removeBorder_50 : decode prog_1_method_3_code 50 = .ok (.iload_n 3, 1) := by decide +kernel
theorem d_GT_removeBorder_51 : decode prog_1_method_3_code 51 = .ok (.invokevirtual 105, 3) := by decide +kernel
theorem d_GT_removeBorder_54 : decode prog_1_method_3_code 54 = .ok (.aload_n 0, 1) := by decide +kernel
theorem d_GT_removeBorder_55 : decode prog_1_method_3_code 55 = .ok (.getfield 12, 3) := by decide +kernel
theorem d_GT_removeBorder_58 : decode prog_1_method_3_code 58 = .ok (.getfield 77, 3) := by decide +kernel
theorem d_GT_removeBorder_61 : decode prog_1_method_3_code 61 = .ok (.iload_n 1, 1) := by decide +kernel
theorem d_GT_removeBorder_62 : decode prog_1_method_3_code 62 = .ok (.invokevirtual 80, 3) := by decide +kernel
theorem d_GT_removeBorder_65 : decode prog_1_method_3_code 65 = .ok (.getfield 116, 3) := by decide +kernel
theorem d_GT_removeBorder_68 : decode prog_1_method_3_code 68 = .ok (.ireturn, 1) := by decide +kernel
theorem d_GT_isBorder_0 : decode prog_1_method_40_code 0 = .ok (.iload_n 1, 1) := by decide +kernel
theorem d_GT_isBorder_1 : decode prog_1_method_40_code 1 = .ok (.invokestatic 61, 3) := by decide +kernel
theorem d_GT_isBorder_4 : decode prog_1_method_40_code 4 = .ok (.ifCond .eq 25, 3) := by decide +kernel
theorem d_GT_isBorder_7 : decode prog_1_method_40_code 7 = .ok (.aload_n 0, 1) := by decide +kernel
theorem d_GT_isBorder_8 : decode prog_1_method_40_code 8 = .ok (.getfield 12, 3) := by decide +kernel
theorem d_GT_isBorder_11 : decode prog_1_method_40_code 11 = .ok (.getfield 77, 3) := by decide +kernel
theorem d_GT_isBorder_14 : decode prog_1_method_40_code 14 = .ok (.iload_n 1, 1) := by decide +kernel
theorem d_GT_isBorder_15 : decode prog_1_method_40_code 15 = .ok (.invokevirtual 80, 3) := by decide +kernel
theorem d_GT_isBorder_18 : decode prog_1_method_40_code 18 = .ok (.iload_n 2, 1) := by decide +kernel
theorem d_GT_isBorder_19 : decode prog_1_method_40_code 19 = .ok (.invokevirtual 283, 3) := by decide +kernel
theorem d_GT_isBorder_22 : decode prog_1_method_40_code 22 = .ok (.ifCond .eq 7, 3) := by decide +kernel
theorem d_GT_isBorder_25 : decode prog_1_method_40_code 25 = .ok (.iconst 1, 1) := by decide +kernel
theorem d_GT_isBorder_26 : decode prog_1_method_40_code 26 = .ok (.goto 4, 3) := by decide +kernel
theorem d_GT_isBorder_29 : decode prog_1_method_40_code 29 = .ok (.iconst 0, 1) := by decide +kernel
theorem d_GT_isBorder_30 : decode prog_1_method_40_code 30 = .ok (.ireturn, 1) := by decide +kernel
theorem d_Table_mergeAt_0 : decode prog_7_method_15_code 0 = .ok (.aload_n 0, 1) := by decide +kernel
theorem d_Table_mergeAt_1 : decode prog_7_method_15_code 1 = .ok (.iload_n 1, 1) := by decide +kernel
theorem d_Table_mergeAt_2 : decode prog_7_method_15_code 2 = .ok (.invokevirtual 74, 3) := by decide +kernel
theorem d_Table_mergeAt_5 : decode prog_7_method_15_code 5 = .ok (.astore_n 3, 1) := by decide +kernel
theorem d_Table_mergeAt_6 : decode prog_7_method_15_code 6 = .ok (.iload_n 2, 1) := by decide +kernel
theorem d_Table_mergeAt_7 : decode prog_7_method_15_code 7 = .ok (.iconst 2, 1) := by decide +kernel
theorem d_Table_mergeAt_8 : decode prog_7_method_15_code 8 = .ok (.iadd, 1) := by decide +kernel
theorem d_Table_mergeAt_9 : decode prog_7_method_15_code 9 = .ok (.istore 4, 2) := by decide +kernel
theorem d_Table_mergeAt_11 : decode prog_7_method_15_code 11 = .ok (.iload 4, 2) := by decide +kernel
theorem d_Table_mergeAt_13 : decode prog_7_method_15_code 13 = .ok (.aload_n 3, 1) := by decide +kernel
theorem d_Table_mergeAt_14 : decode prog_7_method_15_code 14 = .ok (.getfield 35, 3) := by decide +kernel
theorem d_Table_mergeAt_17 : decode prog_7_method_15_code 17 = .ok (.if_icmp .gt 20, 3) := by decide +kernel
theorem d_Table_mergeAt_20 : decode prog_7_method_15_code 20 = .ok (.aload_n 0, 1) := by decide +kernel
theorem d_Table_mergeAt_21 : decode prog_7_method_15_code 21 = .ok (.iload_n 1, 1) := by decide +kernel
theorem d_Table_mergeAt_22 : decode prog_7_method_15_code 22 = .ok (.iload 4, 2) := by decide +kernel
theorem d_Table_mergeAt_24 : decode prog_7_method_15_code 24 = .ok (.iload 4, 2) := by decide +kernel
theorem d_Table_mergeAt_26 : decode prog_7_method_15_code 26 = .ok (.iconst 1, 1) := by decide +kernel
theorem d_Table_mergeAt_27 : decode prog_7_method_15_code 27 = .ok (.isub, 1) := by decide +kernel
theorem d_Table_mergeAt_28 : decode prog_7_method_15_code 28 = .ok (.invokevirtual 82, 3) := by decide +kernel
theorem d_Table_mergeAt_31 : decode prog_7_method_15_code 31 = .ok (.iinc 4 1, 3) := by decide +kernel
theorem d_Table_mergeAt_34 : decode prog_7_method_15_code 34 = .ok (.goto (-23), 3) := by decide +kernel
theorem d_Table_mergeAt_37 : decode prog_7_method_15_code 37 = .ok (.aload_n 3, 1) := by decide +kernel
theorem d_Table_mergeAt_38 : decode prog_7_method_15_code 38 = .ok (.iload_n 2, 1) := by decide +kernel
theorem d_Table_mergeAt_39 : decode prog_7_method_15_code 39 = .ok (.invokevirtual 86, 3) := by decide +kernel
theorem d_Table_mergeAt_42 : decode prog_7_method_15_code 42 = .ok (.return_, 1) := by decide +kernel
theorem d_Borders_delete_0 : decode prog_3_method_19_code 0 = .ok (.aload_n 0, 1) := by decide +kernel
theorem d_Borders_delete_1 : decode prog_3_method_19_code 1 = .ok (.iload_n 1, 1) := by decide +kernel
theorem d_Borders_delete_2 : decode prog_3_method_19_code 2 = .ok (.invokevirtual 31, 3) := by decide +kernel
theorem d_Borders_delete_5 : decode prog_3_method_19_code 5 = .ok (.ifCond .ne 4, 3) := by decide +kernel
theorem d_Borders_delete_8 : decode prog_3_method_19_code 8 = .ok (.return_, 1) := by decide +kernel
theorem d_Borders_delete_9 : decode prog_3_method_19_code 9 = .ok (.iload_n 1, 1) := by decide +kernel
theorem d_Borders_delete_10 : decode prog_3_method_19_code 10 = .ok (.iconst 1, 1) := by decide +kernel
theorem d_Borders_delete_11 : decode prog_3_method_19_code 11 = .ok (.iadd, 1) := by decide +kernel
theorem d_Borders_delete_12 : decode prog_3_method_19_code 12 = .ok (.istore_n 2, 1) := by decide +kernel
theorem d_Borders_delete_13 : decode prog_3_method_19_code 13 = .ok (.iload_n 2, 1) := by decide +kernel
theorem d_Borders_delete_14 : decode prog_3_method_19_code 14 = .ok (.aload_n 0, 1) := by decide +kernel
theorem d_Borders_delete_15 : decode prog_3_method_19_code 15 = .ok (.getfield 21, 3) := by decide +kernel
theorem d_Borders_delete_18 : decode prog_3_method_19_code 18 = .ok (.if_icmp .ge 17, 3) := by decide +kernel
theorem d_Borders_delete_21 : decode prog_3_method_19_code 21 = .ok (.aload_n 0, 1) := by decide +kernel
theorem d_Borders_delete_22 : decode prog_3_method_19_code 22 = .ok (.iload_n 2, 1) := by decide +kernel
theorem d_Borders_delete_23 : decode prog_3_method_19_code 23 = .ok (.iload_n 2, 1) := by decide +kernel
theorem d_Borders_delete_24 : decode prog_3_method_19_code 24 = .ok (.iconst 1, 1) := by decide +kernel
theorem d_Borders_delete_25 : decode prog_3_method_19_code 25 = .ok (.isub, 1) := by decide +kernel
theorem d_Borders_delete_26 : decode prog_3_method_19_code 26 = .ok (.invokevirtual 58, 3) := by decide +kernel
theorem d_Borders_delete_29 : decode prog_3_method_19_code 29 = .ok (.iinc 2 1, 3) := by decide +kernel
theorem d_Borders_delete_32 : decode prog_3_method_19_code 32 = .ok (.goto (-19), 3) := by decide +kernel
theorem d_Borders_delete_35 : decode prog_3_method_19_code 35 = .ok (.aload_n 0, 1) := by decide +kernel
theorem d_Borders_delete_36 : decode prog_3_method_19_code 36 = .ok (.dup, 1) := by decide +kernel
theorem d_Borders_delete_37 : decode prog_3_method_19_code 37 = .ok (.getfield 21, 3) := by decide +kernel
theorem d_Borders_delete_40 : decode prog_3_method_19_code 40 = .ok (.iconst 1, 1) := by decide +kernel
theorem d_Borders_delete_41 : decode prog_3_method_19_code 41 = .ok (.isub, 1) := by decide +kernel
theorem d_Borders_delete_42 : decode prog_3_method_19_code 42 = .ok (.putfield 21, 3) := by decide +kernel
theorem d_Borders_delete_45 : decode prog_3_method_19_code 45 = .ok (.return_, 1) := by decide +kernel
theorem d_GT_setReach_0 : decode prog_1_method_4_code 0 = .ok (.aload_n 0, 1) := by decide +kernel
theorem d_GT_setReach_1 : decode prog_1_method_4_code 1 = .ok (.iload_n 1, 1) := by decide +kernel
theorem d_GT_setReach_2 : decode prog_1_method_4_code 2 = .ok (.iload_n 2, 1) := by decide +kernel
theorem d_GT_setReach_3 : decode prog_1_method_4_code 3 = .ok (.invokevirtual 109, 3) := by decide +kernel
theorem d_GT_setReach_6 : decode prog_1_method_4_code 6 = .ok (.ifCond .ne 6, 3) := by decide +kernel
theorem d_GT_setReach_9 : decode prog_1_method_4_code 9 = .ok (.ldc 76, 2) := by decide +kernel
theorem d_GT_setReach_11 : decode prog_1_method_4_code 11 = .ok (.ireturn, 1) := by decide +kernel
theorem d_GT_setReach_12 : decode prog_1_method_4_code 12 = .ok (.aload_n 0, 1) := by decide +kernel
theorem d_GT_setReach_13 : decode prog_1_method_4_code 13 = .ok (.getfield 12, 3) := by decide +kernel
theorem d_GT_setReach_16 : decode prog_1_method_4_code 16 = .ok (.getfield 77, 3) := by decide +kernel
theorem d_GT_setReach_19 : decode prog_1_method_4_code 19 = .ok (.iload_n 1, 1) := by decide +kernel
theorem d_GT_setReach_20 : decode prog_1_method_4_code 20 = .ok (.invokevirtual 80, 3) := by decide +kernel
theorem d_GT_setReach_23 : decode prog_1_method_4_code 23 = .ok (.astore 4, 2) := by decide +kernel
theorem d_GT_setReach_25 : decode prog_1_method_4_code 25 = .ok (.aload 4, 2) := by decide +kernel
theorem d_GT_setReach_27 : decode prog_1_method_4_code 27 = .ok (.iload_n 2, 1) := by decide +kernel
theorem d_GT_setReach_28 : decode prog_1_method_4_code 28 = .ok (.invokevirtual 120, 3) := by decide +kernel
theorem d_GT_setReach_31 : decode prog_1_method_4_code 31 = .ok (.istore 5, 2) := by decide +kernel
theorem d_GT_setReach_33 : decode prog_1_method_4_code 33 = .ok (.aload 4, 2) := by decide +kernel
theorem d_GT_setReach_35 : decode prog_1_method_4_code 35 = .ok (.iload_n 2, 1) := by decide +kernel
theorem d_GT_setReach_36 : decode prog_1_method_4_code 36 = .ok (.invokevirtual 124, 3) := by decide +kernel
theorem d_GT_setReach_39 : decode prog_1_method_4_code 39 = .ok (.iload_n 3, 1) := by decide +kernel
theorem d_GT_setReach_40 : decode prog_1_method_4_code 40 = .ok (.invokestatic 69, 3) := by decide +kernel
theorem d_GT_setReach_43 : decode prog_1_method_4_code 43 = .ok (.ifCond .eq 12, 3) := by decide +kernel
theorem d_GT_setReach_46 : decode prog_1_method_4_code 46 = .ok (.iload 5, 2) := by decide +kernel
theorem d_GT_setReach_48 : decode prog_1_method_4_code 48 = .ok (.iload_n 3, 1) := by decide +kernel
theorem d_GT_setReach_49 : decode prog_1_method_4_code 49 = .ok (.invokestatic 73, 3) := by decide +kernel
theorem d_GT_setReach_52 : decode prog_1_method_4_code 52 = .ok (.ifCond .ne 6, 3) := by decide +kernel
theorem d_GT_setReach_55 : decode prog_1_method_4_code 55 = .ok (.ldc 76, 2) := by decide +kernel
theorem d_GT_setReach_57 : decode prog_1_method_4_code 57 = .ok (.ireturn, 1) := by decide +kernel
theorem d_GT_setReach_58 : decode prog_1_method_4_code 58 = .ok (.aload 4, 2) := by decide +kernel
theorem d_GT_setReach_60 : decode prog_1_method_4_code 60 = .ok (.iload 5, 2) := by decide +kernel
theorem d_GT_setReach_62 : decode prog_1_method_4_code 62 = .ok (.iload_n 3, 1) := by decide +kernel
theorem d_GT_setReach_63 : decode prog_1_method_4_code 63 = .ok (.iload_n 2, 1) := by decide +kernel
theorem d_GT_setReach_64 : decode prog_1_method_4_code 64 = .ok (.invokevirtual 84, 3) := by decide +kernel
theorem d_GT_setReach_67 : decode prog_1_method_4_code 67 = .ok (.ifCond .ne 6, 3) := by decide +kernel
theorem d_GT_setReach_70 : decode prog_1_method_4_code 70 = .ok (.ldc 87, 2) := by decide +kernel
theorem d_GT_setReach_72 : decode prog_1_method_4_code 72 = .ok (.ireturn, 1) := by decide +kernel
theorem d_GT_setReach_73 : decode prog_1_method_4_code 73 = .ok (.aload_n 0, 1) := by decide +kernel
theorem d_GT_setReach_74 : decode prog_1_method_4_code 74 = .ok (.getfield 19, 3) := by decide +kernel
theorem d_GT_setReach_77 : decode prog_1_method_4_code 77 = .ok (.aload_n 0, 1) := by decide +kernel
theorem d_GT_setReach_78 : decode prog_1_method_4_code 78 = .ok (.getfield 12, 3) := by decide +kernel
theorem d_GT_setReach_81 : decode prog_1_method_4_code 81 = .ok (.invokevirtual 93, 3) := by decide +kernel
theorem d_GT_setReach_84 : decode prog_1_method_4_code 84 = .ok (.aload 4, 2) := by decide +kernel
theorem d_GT_setReach_86 : decode prog_1_method_4_code 86 = .ok (.iload_n 2, 1) := by decide +kernel
theorem d_GT_setReach_87 : decode prog_1_method_4_code 87 = .ok (.invokevirtual 127, 3) := by decide +kernel
theorem d_GT_setReach_90 : decode prog_1_method_4_code 90 = .ok (.istore 6, 2) := by decide +kernel
theorem d_GT_setReach_92 : decode prog_1_method_4_code 92 = .ok (.aload 4, 2) := by decide +kernel
theorem d_GT_setReach_94 : decode prog_1_method_4_code 94 = .ok (.iload_n 2, 1) := by decide +kernel
theorem d_GT_setReach_95 : decode prog_1_method_4_code 95 = .ok (.iload_n 3, 1) := by decide +kernel
theorem d_GT_setReach_96 : decode prog_1_method_4_code 96 = .ok (.invokevirtual 130, 3) := by decide +kernel
theorem d_GT_setReach_99 : decode prog_1_method_4_code 99 = .ok (.aload_n 0, 1) := by decide +kernel
theorem d_GT_setReach_100 : decode prog_1_method_4_code 100 = .ok (.getfield 12, 3) := by decide +kernel
theorem d_GT_setReach_103 : decode prog_1_method_4_code 103 = .ok (.invokevirtual 133, 3) := by decide +kernel
theorem d_GT_setReach_106 : decode prog_1_method_4_code 106 = .ok (.iload 6, 2) := by decide +kernel
theorem d_GT_setReach_108 : decode prog_1_method_4_code 108 = .ok (.ireturn, 1) := by decide +kernel
theorem d_Borders_putReach_0 : decode prog_3_method_8_code 0 = .ok (.aload_n 0, 1) := by decide +kernel
theorem d_Borders_putReach_1 : decode prog_3_method_8_code 1 = .ok (.iload_n 1, 1) := by decide +kernel
theorem d_Borders_putReach_2 : decode prog_3_method_8_code 2 = .ok (.invokevirtual 31, 3) := by decide +kernel
theorem d_Borders_putReach_5 : decode prog_3_method_8_code 5 = .ok (.ifCond .eq 10, 3) := by decide +kernel
theorem d_Borders_putReach_8 : decode prog_3_method_8_code 8 = .ok (.aload_n 0, 1) := by decide +kernel
theorem d_Borders_putReach_9 : decode prog_3_method_8_code 9 = .ok (.getfield 18, 3) := by decide +kernel
theorem d_Borders_putReach_12 : decode prog_3_method_8_code 12 = .ok (.iload_n 1, 1) := by decide +kernel
theorem d_Borders_putReach_13 : decode prog_3_method_8_code 13 = .ok (.iload_n 2, 1) := by decide +kernel
theorem d_Borders_putReach_14 : decode prog_3_method_8_code 14 = .ok (.iastore, 1) := by decide +kernel
theorem d_Borders_putReach_15 : decode prog_3_method_8_code 15 = .ok (.return_, 1) := by decide +kernel
theorem d_GT_setOperator_0 : decode prog_1_method_5_code 0 = .ok (.iload_n 1, 1) := by decide +kernel
theorem d_GT_setOperator_1 : decode prog_1_method_5_code 1 = .ok (.invokestatic 136, 3) := by decide +kernel
theorem d_GT_setOperator_4 : decode prog_1_method_5_code 4 = .ok (.ifCond .eq 12, 3) := by decide +kernel
theorem d_GT_setOperator_7 : decode prog_1_method_5_code 7 = .ok (.iload_n 2, 1) := by decide +kernel
theorem d_GT_setOperator_8 : decode prog_1_method_5_code 8 = .ok (.iconst 0, 1) := by decide +kernel
theorem d_GT_setOperator_9 : decode prog_1_method_5_code 9 = .ok (.iconst 1, 1) := by decide +kernel
theorem d_GT_setOperator_10 : decode prog_1_method_5_code 10 = .ok (.invokestatic 65, 3) := by decide +kernel
theorem d_GT_setOperator_13 : decode prog_1_method_5_code 13 = .ok (.ifCond .ne 6, 3) := by decide +kernel
theorem d_GT_setOperator_16 : decode prog_1_method_5_code 16 = .ok (.ldc 76, 2) := by decide +kernel
theorem d_GT_setOperator_18 : decode prog_1_method_5_code 18 = .ok (.ireturn, 1) := by decide +kernel
theorem d_GT_setOperator_19 : decode prog_1_method_5_code 19 = .ok (.iload_n 2, 1) := by decide +kernel
theorem d_GT_setOperator_20 : decode prog_1_method_5_code 20 = .ok (.ifCond .ne 17, 3) := by decide +kernel
theorem d_GT_setOperator_23 : decode prog_1_method_5_code 23 = .ok (.iload_n 3, 1) := by decide +kernel
theorem d_GT_setOperator_24 : decode prog_1_method_5_code 24 = .ok (.iconst 1, 1) := by decide +kernel
theorem d_GT_setOperator_25 : decode prog_1_method_5_code 25 = .ok (.sipush 9999, 3) := by decide +kernel
theorem d_GT_setOperator_28 : decode prog_1_method_5_code 28 = .ok (.invokestatic 65, 3) := by decide +kernel
theorem d_GT_setOperator_31 : decode prog_1_method_5_code 31 = .ok (.ifCond .ne 19, 3) := by decide +kernel
theorem d_GT_setOperator_34 : decode prog_1_method_5_code 34 = .ok (.goto 13, 3) := by decide +kernel
theorem d_GT_setOperator_37 : decode prog_1_method_5_code 37 = .ok (.iload_n 3, 1) := by decide +kernel
theorem d_GT_setOperator_38 : decode prog_1_method_5_code 38 = .ok (.iconst 0, 1) := by decide +kernel
theorem d_GT_setOperator_39 : decode prog_1_method_5_code 39 = .ok (.ldc 139, 2) := by decide +kernel
theorem d_GT_setOperator_41 : decode prog_1_method_5_code 41 = .ok (.invokestatic 65, 3) := by decide +kernel
theorem d_GT_setOperator_44 : decode prog_1_method_5_code 44 = .ok (.ifCond .ne 6, 3) := by decide +kernel
theorem d_GT_setOperator_47 : decode prog_1_method_5_code 47 = .ok (.ldc 76, 2) := by decide +kernel
theorem d_GT_setOperator_49 : decode prog_1_method_5_code 49 = .ok (.ireturn, 1) := by decide +kernel
theorem d_GT_setOperator_50 : decode prog_1_method_5_code 50 = .ok (.aload_n 0, 1) := by decide +kernel
theorem d_GT_setOperator_51 : decode prog_1_method_5_code 51 = .ok (.getfield 19, 3) := by decide +kernel
theorem d_GT_setOperator_54 : decode prog_1_method_5_code 54 = .ok (.aload_n 0, 1) := by decide +kernel
theorem d_GT_setOperator_55 : decode prog_1_method_5_code 55 = .ok (.getfield 12, 3) := by decide +kernel
theorem d_GT_setOperator_58 : decode prog_1_method_5_code 58 = .ok (.invokevirtual 93, 3) := by decide +kernel
theorem d_GT_setOperator_61 : decode prog_1_method_5_code 61 = .ok (.iload_n 2, 1) := by decide +kernel
theorem d_GT_setOperator_62 : decode prog_1_method_5_code 62 = .ok (.ifCond .ne 13, 3) := by decide +kernel
theorem d_GT_setOperator_65 : decode prog_1_method_5_code 65 = .ok (.aload_n 0, 1) := by decide +kernel
theorem d_GT_setOperator_66 : decode prog_1_method_5_code 66 = .ok (.getfield 12, 3) := by decide +kernel
theorem d_GT_setOperator_69 : decode prog_1_method_5_code 69 = .ok (.getfield 140, 3) := by decide +kernel
theorem d_GT_setOperator_72 : decode prog_1_method_5_code 72 = .ok (.goto 10, 3) := by decide +kernel
theorem d_GT_setOperator_75 : decode prog_1_method_5_code 75 = .ok (.aload_n 0, 1) := by decide +kernel
theorem d_GT_setOperator_76 : decode prog_1_method_5_code 76 = .ok (.getfield 12, 3) := by decide +kernel
theorem d_GT_setOperator_79 : decode prog_1_method_5_code 79 = .ok (.getfield 143, 3) := by decide +kernel
theorem d_GT_setOperator_82 : decode prog_1_method_5_code 82 = .ok (.astore 4, 2) := by decide +kernel
theorem d_GT_setOperator_84 : decode prog_1_method_5_code 84 = .ok (.aload 4, 2) := by decide +kernel
theorem d_GT_setOperator_86 : decode prog_1_method_5_code 86 = .ok (.iload_n 1, 1) := by decide +kernel
theorem d_GT_setOperator_87 : decode prog_1_method_5_code 87 = .ok (.iaload, 1) := by decide +kernel
theorem d_GT_setOperator_88 : decode prog_1_method_5_code 88 = .ok (.istore 5, 2) := by decide +kernel
theorem d_GT_setOperator_90 : decode prog_1_method_5_code 90 = .ok (.aload 4, 2) := by decide +kernel
theorem d_GT_setOperator_92 : decode prog_1_method_5_code 92 = .ok (.iload_n 1, 1) := by decide +kernel
theorem d_GT_setOperator_93 : decode prog_1_method_5_code 93 = .ok (.iload_n 3, 1) := by decide +kernel
theorem d_GT_setOperator_94 : decode prog_1_method_5_code 94 = .ok (.iastore, 1) := by decide +kernel
theorem d_GT_setOperator_95 : decode prog_1_method_5_code 95 = .ok (.iload 5, 2) := by decide +kernel
theorem d_GT_setOperator_97 : decode prog_1_method_5_code 97 = .ok (.ireturn, 1) := by decide +kernel
theorem d_GT_scale_0 : decode prog_1_method_7_code 0 = .ok (.iload_n 1, 1) := by decide +kernel
theorem d_GT_scale_1 : decode prog_1_method_7_code 1 = .ok (.invokestatic 136, 3) := by decide +kernel
theorem d_GT_scale_4 : decode prog_1_method_7_code 4 = .ok (.ifCond .eq 21, 3) := by decide +kernel
theorem d_GT_scale_7 : decode prog_1_method_7_code 7 = .ok (.iload_n 2, 1) := by decide +kernel
theorem d_GT_scale_8 : decode prog_1_method_7_code 8 = .ok (.invokestatic 164, 3) := by decide +kernel
theorem d_GT_scale_11 : decode prog_1_method_7_code 11 = .ok (.ifCond .eq 14, 3) := by decide +kernel
theorem d_GT_scale_14 : decode prog_1_method_7_code 14 = .ok (.iload_n 3, 1) := by decide +kernel
theorem d_GT_scale_15 : decode prog_1_method_7_code 15 = .ok (.iconst 0, 1) := by decide +kernel
theorem d_GT_scale_16 : decode prog_1_method_7_code 16 = .ok (.sipush 1000, 3) := by decide +kernel
theorem d_GT_scale_19 : decode prog_1_method_7_code 19 = .ok (.invokestatic 65, 3) := by decide +kernel
theorem d_GT_scale_22 : decode prog_1_method_7_code 22 = .ok (.ifCond .ne 6, 3) := by decide +kernel
theorem d_GT_scale_25 : decode prog_1_method_7_code 25 = .ok (.ldc 76, 2) := by decide +kernel
theorem d_GT_scale_27 : decode prog_1_method_7_code 27 = .ok (.ireturn, 1) := by decide +kernel
theorem d_GT_scale_28 : decode prog_1_method_7_code 28 = .ok (.aload_n 0, 1) := by decide +kernel
theorem d_GT_scale_29 : decode prog_1_method_7_code 29 = .ok (.getfield 19, 3) := by decide +kernel
theorem d_GT_scale_32 : decode prog_1_method_7_code 32 = .ok (.aload_n 0, 1) := by decide +kernel
theorem d_GT_scale_33 : decode prog_1_method_7_code 33 = .ok (.getfield 12, 3) := by decide +kernel
theorem d_GT_scale_36 : decode prog_1_method_7_code 36 = .ok (.invokevirtual 93, 3) := by decide +kernel
theorem d_GT_scale_39 : decode prog_1_method_7_code 39 = .ok (.iconst 0, 1) := by decide +kernel
theorem d_GT_scale_40 : decode prog_1_method_7_code 40 = .ok (.istore 4, 2) := by decide +kernel
theorem d_GT_scale_42 : decode prog_1_method_7_code 42 = .ok (.iconst 0, 1) := by decide +kernel
theorem d_GT_scale_43 : decode prog_1_method_7_code 43 = .ok (.istore 5, 2) := by decide +kernel
theorem d_GT_scale_45 : decode prog_1_method_7_code 45 = .ok (.iload 5, 2) := by decide +kernel
theorem d_GT_scale_47 : decode prog_1_method_7_code 47 = .ok (.aload_n 0, 1) := by decide +kernel
theorem d_GT_scale_48 : decode prog_1_method_7_code 48 = .ok (.getfield 12, 3) := by decide +kernel
theorem d_GT_scale_51 : decode prog_1_method_7_code 51 = .ok (.getfield 77, 3) := by decide +kernel
theorem d_GT_scale_54 : decode prog_1_method_7_code 54 = .ok (.getfield 167, 3) := by decide +kernel
theorem d_GT_scale_57 : decode prog_1_method_7_code 57 = .ok (.getfield 116, 3) := by decide +kernel
theorem d_GT_scale_60 : decode prog_1_method_7_code 60 = .ok (.if_icmp .gt 103, 3) := by decide +kernel
theorem d_GT_scale_63 : decode prog_1_method_7_code 63 = .ok (.iconst 0, 1) := by decide +kernel
theorem d_GT_scale_64 : decode prog_1_method_7_code 64 = .ok (.istore 6, 2) := by decide +kernel
theorem d_GT_scale_66 : decode prog_1_method_7_code 66 = .ok (.iload 6, 2) := by decide +kernel
theorem d_GT_scale_68 : decode prog_1_method_7_code 68 = .ok (.aload_n 0, 1) := by decide +kernel
theorem d_GT_scale_69 : decode prog_1_method_7_code 69 = .ok (.getfield 12, 3) := by decide +kernel
theorem d_GT_scale_72 : decode prog_1_method_7_code 72 = .ok (.getfield 77, 3) := by decide +kernel
theorem d_GT_scale_75 : decode prog_1_method_7_code 75 = .ok (.getfield 170, 3) := by decide +kernel
theorem d_GT_scale_78 : decode prog_1_method_7_code 78 = .ok (.getfield 116, 3) := by decide +kernel
theorem d_GT_scale_81 : decode prog_1_method_7_code 81 = .ok (.if_icmp .gt 76, 3) := by decide +kernel
theorem d_GT_scale_84 : decode prog_1_method_7_code 84 = .ok (.iload 5, 2) := by decide +kernel
theorem d_GT_scale_86 : decode prog_1_method_7_code 86 = .ok (.iload 6, 2) := by decide +kernel
theorem d_GT_scale_88 : decode prog_1_method_7_code 88 = .ok (.invokestatic 150, 3) := by decide +kernel
theorem d_GT_scale_91 : decode prog_1_method_7_code 91 = .ok (.istore 7, 2) := by decide +kernel
theorem d_GT_scale_93 : decode prog_1_method_7_code 93 = .ok (.aload_n 0, 1) := by decide +kernel
theorem d_GT_scale_94 : decode prog_1_method_7_code 94 = .ok (.getfield 12, 3) := by decide +kernel
theorem d_GT_scale_97 : decode prog_1_method_7_code 97 = .ok (.getfield 77, 3) := by decide +kernel
theorem d_GT_scale_100 : decode prog_1_method_7_code 100 = .ok (.iload 7, 2) := by decide +kernel
theorem d_GT_scale_102 : decode prog_1_method_7_code 102 = .ok (.iload_n 2, 1) := by decide +kernel
theorem d_GT_scale_103 : decode prog_1_method_7_code 103 = .ok (.invokevirtual 157, 3) := by decide +kernel
theorem d_GT_scale_106 : decode prog_1_method_7_code 106 = .ok (.iload_n 3, 1) := by decide +kernel
theorem d_GT_scale_107 : decode prog_1_method_7_code 107 = .ok (.imul, 1) := by decide +kernel
theorem d_GT_scale_108 : decode prog_1_method_7_code 108 = .ok (.bipush 100, 2) := by decide +kernel
theorem d_GT_scale_110 : decode prog_1_method_7_code 110 = .ok (.idiv, 1) := by decide +kernel
theorem d_GT_scale_111 : decode prog_1_method_7_code 111 = .ok (.sipush 9999, 3) := by decide +kernel
theorem d_GT_scale_114 : decode prog_1_method_7_code 114 = .ok (.invokestatic 173, 3) := by decide +kernel
theorem d_GT_scale_117 : decode prog_1_method_7_code 117 = .ok (.istore 8, 2) := by decide +kernel
theorem d_GT_scale_119 : decode prog_1_method_7_code 119 = .ok (.aload_n 0, 1) := by decide +kernel
theorem d_GT_scale_120 : decode prog_1_method_7_code 120 = .ok (.getfield 12, 3) := by decide +kernel
theorem d_GT_scale_123 : decode prog_1_method_7_code 123 = .ok (.iload_n 1, 1) := by decide +kernel
theorem d_GT_scale_124 : decode prog_1_method_7_code 124 = .ok (.iload 7, 2) := by decide +kernel
theorem d_GT_scale_126 : decode prog_1_method_7_code 126 = .ok (.iload_n 2, 1) := by decide +kernel
theorem d_GT_scale_127 : decode prog_1_method_7_code 127 = .ok (.iload 8, 2) := by decide +kernel
theorem d_GT_scale_129 : decode prog_1_method_7_code 129 = .ok (.invokevirtual 154, 3) := by decide +kernel
theorem d_GT_scale_132 : decode prog_1_method_7_code 132 = .ok (.ifCond .ne 19, 3) := by decide +kernel
theorem d_GT_scale_135 : decode prog_1_method_7_code 135 = .ok (.aload_n 0, 1) := by decide +kernel
theorem d_GT_scale_136 : decode prog_1_method_7_code 136 = .ok (.getfield 12, 3) := by decide +kernel
theorem d_GT_scale_139 : decode prog_1_method_7_code 139 = .ok (.iload_n 1, 1) := by decide +kernel
theorem d_GT_scale_140 : decode prog_1_method_7_code 140 = .ok (.iload 7, 2) := by decide +kernel
theorem d_GT_scale_142 : decode prog_1_method_7_code 142 = .ok (.iload_n 2, 1) := by decide +kernel
theorem d_GT_scale_143 : decode prog_1_method_7_code 143 = .ok (.iload 8, 2) := by decide +kernel
theorem d_GT_scale_145 : decode prog_1_method_7_code 145 = .ok (.invokevirtual 160, 3) := by decide +kernel
theorem d_GT_scale_148 : decode prog_1_method_7_code 148 = .ok (.iinc 4 1, 3) := by decide +kernel
theorem d_GT_scale_151 : decode prog_1_method_7_code 151 = .ok (.iinc 6 1, 3) := by decide +kernel
theorem d_GT_scale_154 : decode prog_1_method_7_code 154 = .ok (.goto (-88), 3) := by decide +kernel
theorem d_GT_scale_157 : decode prog_1_method_7_code 157 = .ok (.iinc 5 1, 3) := by decide +kernel
theorem d_GT_scale_160 : decode prog_1_method_7_code 160 = .ok (.goto (-115), 3) := by decide +kernel
theorem d_GT_scale_163 : decode prog_1_method_7_code 163 = .ok (.iload 4, 2) := by decide +kernel
theorem d_GT_scale_165 : decode prog_1_method_7_code 165 = .ok (.ireturn, 1) := by decide +kernel
theorem d_GT_lock_0 : decode prog_1_method_8_code 0 = .ok (.iload_n 1, 1) := by decide +kernel
theorem d_GT_lock_1 : decode prog_1_method_8_code 1 = .ok (.invokestatic 136, 3) := by decide +kernel
theorem d_GT_lock_4 : decode prog_1_method_8_code 4 = .ok (.ifCond .eq 22, 3) := by decide +kernel
theorem d_GT_lock_7 : decode prog_1_method_8_code 7 = .ok (.aload_n 0, 1) := by decide +kernel
theorem d_GT_lock_8 : decode prog_1_method_8_code 8 = .ok (.iload_n 2, 1) := by decide +kernel
theorem d_GT_lock_9 : decode prog_1_method_8_code 9 = .ok (.iload_n 3, 1) := by decide +kernel
theorem d_GT_lock_10 : decode prog_1_method_8_code 10 = .ok (.invokevirtual 178, 3) := by decide +kernel
theorem d_GT_lock_13 : decode prog_1_method_8_code 13 = .ok (.ifCond .eq 13, 3) := by decide +kernel
theorem d_GT_lock_16 : decode prog_1_method_8_code 16 = .ok (.iload 4, 2) := by decide +kernel
theorem d_GT_lock_18 : decode prog_1_method_8_code 18 = .ok (.iconst 0, 1) := by decide +kernel
theorem d_GT_lock_19 : decode prog_1_method_8_code 19 = .ok (.iconst 1, 1) := by decide +kernel
theorem d_GT_lock_20 : decode prog_1_method_8_code 20 = .ok (.invokestatic 65, 3) := by decide +kernel
theorem d_GT_lock_23 : decode prog_1_method_8_code 23 = .ok (.ifCond .ne 6, 3) := by decide +kernel
theorem d_GT_lock_26 : decode prog_1_method_8_code 26 = .ok (.ldc 76, 2) := by decide +kernel
theorem d_GT_lock_28 : decode prog_1_method_8_code 28 = .ok (.ireturn, 1) := by decide +kernel
theorem d_GT_lock_29 : decode prog_1_method_8_code 29 = .ok (.iload_n 2, 1) := by decide +kernel
theorem d_GT_lock_30 : decode prog_1_method_8_code 30 = .ok (.iload_n 3, 1) := by decide +kernel
theorem d_GT_lock_31 : decode prog_1_method_8_code 31 = .ok (.invokestatic 150, 3) := by decide +kernel
theorem d_GT_lock_34 : decode prog_1_method_8_code 34 = .ok (.istore 5, 2) := by decide +kernel
theorem d_GT_lock_36 : decode prog_1_method_8_code 36 = .ok (.iload 4, 2) := by decide +kernel
theorem d_GT_lock_38 : decode prog_1_method_8_code 38 = .ok (.iconst 1, 1) := by decide +kernel
theorem d_GT_lock_39 : decode prog_1_method_8_code 39 = .ok (.if_icmp .ne 8, 3) := by decide +kernel
theorem d_GT_lock_42 : decode prog_1_method_8_code 42 = .ok (.ldc 181, 2) := by decide +kernel
theorem d_GT_lock_44 : decode prog_1_method_8_code 44 = .ok (.goto 4, 3) := by decide +kernel
theorem d_GT_lock_47 : decode prog_1_method_8_code 47 = .ok (.iload_n 1, 1) := by decide +kernel
theorem d_GT_lock_48 : decode prog_1_method_8_code 48 = .ok (.istore 6, 2) := by decide +kernel
theorem d_GT_lock_50 : decode prog_1_method_8_code 50 = .ok (.aload_n 0, 1) := by decide +kernel
theorem d_GT_lock_51 : decode prog_1_method_8_code 51 = .ok (.getfield 12, 3) := by decide +kernel
theorem d_GT_lock_54 : decode prog_1_method_8_code 54 = .ok (.getfield 77, 3) := by decide +kernel
theorem d_GT_lock_57 : decode prog_1_method_8_code 57 = .ok (.iload 5, 2) := by decide +kernel
theorem d_GT_lock_59 : decode prog_1_method_8_code 59 = .ok (.invokevirtual 182, 3) := by decide +kernel
theorem d_GT_lock_62 : decode prog_1_method_8_code 62 = .ok (.iload 6, 2) := by decide +kernel
theorem d_GT_lock_64 : decode prog_1_method_8_code 64 = .ok (.if_icmp .eq 6, 3) := by decide +kernel
theorem d_GT_lock_67 : decode prog_1_method_8_code 67 = .ok (.ldc 87, 2) := by decide +kernel
theorem d_GT_lock_69 : decode prog_1_method_8_code 69 = .ok (.ireturn, 1) := by decide +kernel
theorem d_GT_lock_70 : decode prog_1_method_8_code 70 = .ok (.aload_n 0, 1) := by decide +kernel
theorem d_GT_lock_71 : decode prog_1_method_8_code 71 = .ok (.getfield 19, 3) := by decide +kernel
theorem d_GT_lock_74 : decode prog_1_method_8_code 74 = .ok (.aload_n 0, 1) := by decide +kernel
theorem d_GT_lock_75 : decode prog_1_method_8_code 75 = .ok (.getfield 12, 3) := by decide +kernel
theorem d_GT_lock_78 : decode prog_1_method_8_code 78 = .ok (.invokevirtual 93, 3) := by decide +kernel
theorem d_GT_lock_81 : decode prog_1_method_8_code 81 = .ok (.aload_n 0, 1) := by decide +kernel
theorem d_GT_lock_82 : decode prog_1_method_8_code 82 = .ok (.getfield 12, 3) := by decide +kernel
theorem d_GT_lock_85 : decode prog_1_method_8_code 85 = .ok (.getfield 77, 3) := by decide +kernel
theorem d_GT_lock_88 : decode prog_1_method_8_code 88 = .ok (.iload 5, 2) := by decide +kernel
theorem d_GT_lock_90 : decode prog_1_method_8_code 90 = .ok (.iload 4, 2) := by decide +kernel
theorem d_GT_lock_92 : decode prog_1_method_8_code 92 = .ok (.iconst 1, 1) := by decide +kernel
theorem d_GT_lock_93 : decode prog_1_method_8_code 93 = .ok (.if_icmp .ne 7, 3) := by decide +kernel
theorem d_GT_lock_96 : decode prog_1_method_8_code 96 = .ok (.iload_n 1, 1) := by decide +kernel
theorem d_GT_lock_97 : decode prog_1_method_8_code 97 = .ok (.goto 5, 3) := by decide +kernel
theorem d_GT_lock_100 : decode prog_1_method_8_code 100 = .ok (.ldc 181, 2) := by decide +kernel
theorem d_GT_lock_102 : decode prog_1_method_8_code 102 = .ok (.invokevirtual 185, 3) := by decide +kernel
theorem d_GT_lock_105 : decode prog_1_method_8_code 105 = .ok (.aload_n 0, 1) := by decide +kernel
theorem d_GT_lock_106 : decode prog_1_method_8_code 106 = .ok (.getfield 12, 3) := by decide +kernel
theorem d_GT_lock_109 : decode prog_1_method_8_code 109 = .ok (.getfield 77, 3) := by decide +kernel
theorem d_GT_lock_112 : decode prog_1_method_8_code 112 = .ok (.iload_n 1, 1) := by decide +kernel
theorem d_GT_lock_113 : decode prog_1_method_8_code 113 = .ok (.invokevirtual 188, 3) := by decide +kernel
theorem d_GT_lock_116 : decode prog_1_method_8_code 116 = .ok (.ireturn, 1) := by decide +kernel
theorem d_GT_take_0 : decode prog_1_method_12_code 0 = .ok (.iload_n 1, 1) := by decide +kernel
theorem d_GT_take_1 : decode prog_1_method_12_code 1 = .ok (.invokestatic 210, 3) := by decide +kernel
theorem d_GT_take_4 : decode prog_1_method_12_code 4 = .ok (.ifCond .ne 6, 3) := by decide +kernel
theorem d_GT_take_7 : decode prog_1_method_12_code 7 = .ok (.ldc 76, 2) := by decide +kernel
theorem d_GT_take_9 : decode prog_1_method_12_code 9 = .ok (.ireturn, 1) := by decide +kernel
theorem d_GT_take_10 : decode prog_1_method_12_code 10 = .ok (.aload_n 0, 1) := by decide +kernel
theorem d_GT_take_11 : decode prog_1_method_12_code 11 = .ok (.getfield 19, 3) := by decide +kernel
theorem d_GT_take_14 : decode prog_1_method_12_code 14 = .ok (.aload_n 0, 1) := by decide +kernel
theorem d_GT_take_15 : decode prog_1_method_12_code 15 = .ok (.getfield 12, 3) := by decide +kernel
theorem d_GT_take_18 : decode prog_1_method_12_code 18 = .ok (.invokevirtual 93, 3) := by decide +kernel
theorem d_GT_take_21 : decode prog_1_method_12_code 21 = .ok (.aload_n 0, 1) := by decide +kernel
theorem d_GT_take_22 : decode prog_1_method_12_code 22 = .ok (.getfield 12, 3) := by decide +kernel
theorem d_GT_take_25 : decode prog_1_method_12_code 25 = .ok (.iload_n 1, 1) := by decide +kernel
theorem d_GT_take_26 : decode prog_1_method_12_code 26 = .ok (.invokevirtual 213, 3) := by decide +kernel
theorem d_GT_take_29 : decode prog_1_method_12_code 29 = .ok (.aload_n 0, 1) := by decide +kernel
theorem d_GT_take_30 : decode prog_1_method_12_code 30 = .ok (.getfield 12, 3) := by decide +kernel
theorem d_GT_take_33 : decode prog_1_method_12_code 33 = .ok (.getfield 77, 3) := by decide +kernel
theorem d_GT_take_36 : decode prog_1_method_12_code 36 = .ok (.invokevirtual 217, 3) := by decide +kernel
theorem d_GT_take_39 : decode prog_1_method_12_code 39 = .ok (.aload_n 0, 1) := by decide +kernel
theorem d_GT_take_40 : decode prog_1_method_12_code 40 = .ok (.getfield 12, 3) := by decide +kernel
theorem d_GT_take_43 : decode prog_1_method_12_code 43 = .ok (.getfield 221, 3) := by decide +kernel
theorem d_GT_take_46 : decode prog_1_method_12_code 46 = .ok (.iload_n 1, 1) := by decide +kernel
theorem d_GT_take_47 : decode prog_1_method_12_code 47 = .ok (.iconst 1, 1) := by decide +kernel
theorem d_GT_take_48 : decode prog_1_method_12_code 48 = .ok (.bastore, 1) := by decide +kernel
theorem d_GT_take_49 : decode prog_1_method_12_code 49 = .ok (.aload_n 0, 1) := by decide +kernel
theorem d_GT_take_50 : decode prog_1_method_12_code 50 = .ok (.getfield 12, 3) := by decide +kernel
theorem d_GT_take_53 : decode prog_1_method_12_code 53 = .ok (.getfield 77, 3) := by decide +kernel
theorem d_GT_take_56 : decode prog_1_method_12_code 56 = .ok (.invokevirtual 225, 3) := by decide +kernel
theorem d_GT_take_59 : decode prog_1_method_12_code 59 = .ok (.ireturn, 1) := by decide +kernel
theorem d_GT_isPlace_0 : decode prog_1_method_37_code 0 = .ok (.iload_n 0, 1) := by decide +kernel
theorem d_GT_isPlace_1 : decode prog_1_method_37_code 1 = .ok (.iconst 0, 1) := by decide +kernel
theorem d_GT_isPlace_2 : decode prog_1_method_37_code 2 = .ok (.iconst 2, 1) := by decide +kernel
theorem d_GT_isPlace_3 : decode prog_1_method_37_code 3 = .ok (.invokestatic 65, 3) := by decide +kernel
theorem d_GT_isPlace_6 : decode prog_1_method_37_code 6 = .ok (.ireturn, 1) := by decide +kernel
theorem d_State_snapshotAt_0 : decode prog_6_method_3_code 0 = .ok (.iload_n 1, 1) := by decide +kernel
theorem d_State_snapshotAt_1 : decode prog_6_method_3_code 1 = .ok (.ifCond .ne 8, 3) := by decide +kernel
theorem d_State_snapshotAt_4 : decode prog_6_method_3_code 4 = .ok (.aload_n 0, 1) := by decide +kernel
theorem d_State_snapshotAt_5 : decode prog_6_method_3_code 5 = .ok (.getfield 18, 3) := by decide +kernel
theorem d_State_snapshotAt_8 : decode prog_6_method_3_code 8 = .ok (.areturn, 1) := by decide +kernel
theorem d_State_snapshotAt_9 : decode prog_6_method_3_code 9 = .ok (.iload_n 1, 1) := by decide +kernel
theorem d_State_snapshotAt_10 : decode prog_6_method_3_code 10 = .ok (.iconst 1, 1) := by decide +kernel
theorem d_State_snapshotAt_11 : decode prog_6_method_3_code 11 = .ok (.if_icmp .ne 10, 3) := by decide +kernel
theorem d_State_snapshotAt_14 : decode prog_6_method_3_code 14 = .ok (.aload_n 0, 1) := by decide +kernel
theorem d_State_snapshotAt_15 : decode prog_6_method_3_code 15 = .ok (.getfield 21, 3) := by decide +kernel
theorem d_State_snapshotAt_18 : decode prog_6_method_3_code 18 = .ok (.goto 7, 3) := by decide +kernel
theorem d_State_snapshotAt_21 : decode prog_6_method_3_code 21 = .ok (.aload_n 0, 1) := by decide +kernel
theorem d_State_snapshotAt_22 : decode prog_6_method_3_code 22 = .ok (.getfield 24, 3) := by decide +kernel
theorem d_State_snapshotAt_25 : decode prog_6_method_3_code 25 = .ok (.areturn, 1) := by decide +kernel
theorem d_GT_restore_0 : decode prog_1_method_13_code 0 = .ok (.iload_n 1, 1) := by decide +kernel
theorem d_GT_restore_1 : decode prog_1_method_13_code 1 = .ok (.invokestatic 210, 3) := by decide +kernel
theorem d_GT_restore_4 : decode prog_1_method_13_code 4 = .ok (.ifCond .ne 6, 3) := by decide +kernel
theorem d_GT_restore_7 : decode prog_1_method_13_code 7 = .ok (.ldc 76, 2) := by decide +kernel
theorem d_GT_restore_9 : decode prog_1_method_13_code 9 = .ok (.ireturn, 1) := by decide +kernel
theorem d_GT_restore_10 : decode prog_1_method_13_code 10 = .ok (.aload_n 0, 1) := by decide +kernel
theorem d_GT_restore_11 : decode prog_1_method_13_code 11 = .ok (.getfield 12, 3) := by decide +kernel
theorem d_GT_restore_14 : decode prog_1_method_13_code 14 = .ok (.getfield 221, 3) := by decide +kernel
theorem d_GT_restore_17 : decode prog_1_method_13_code 17 = .ok (.iload_n 1, 1) := by decide +kernel
theorem d_GT_restore_18 : decode prog_1_method_13_code 18 = .ok (.baload, 1) := by decide +kernel
theorem d_GT_restore_19 : decode prog_1_method_13_code 19 = .ok (.ifCond .ne 6, 3) := by decide +kernel
theorem d_GT_restore_22 : decode prog_1_method_13_code 22 = .ok (.ldc 87, 2) := by decide +kernel
theorem d_GT_restore_24 : decode prog_1_method_13_code 24 = .ok (.ireturn, 1) := by decide +kernel
theorem d_GT_restore_25 : decode prog_1_method_13_code 25 = .ok (.aload_n 0, 1) := by decide +kernel
theorem d_GT_restore_26 : decode prog_1_method_13_code 26 = .ok (.getfield 19, 3) := by decide +kernel
theorem d_GT_restore_29 : decode prog_1_method_13_code 29 = .ok (.aload_n 0, 1) := by decide +kernel
theorem d_GT_restore_30 : decode prog_1_method_13_code 30 = .ok (.getfield 12, 3) := by decide +kernel
theorem d_GT_restore_33 : decode prog_1_method_13_code 33 = .ok (.invokevirtual 93, 3) := by decide +kernel
theorem d_GT_restore_36 : decode prog_1_method_13_code 36 = .ok (.aload_n 0, 1) := by decide +kernel
theorem d_GT_restore_37 : decode prog_1_method_13_code 37 = .ok (.getfield 12, 3) := by decide +kernel
theorem d_GT_restore_40 : decode prog_1_method_13_code 40 = .ok (.aload_n 0, 1) := by decide +kernel
theorem d_GT_restore_41 : decode prog_1_method_13_code 41 = .ok (.getfield 12, 3) := by decide +kernel
theorem d_GT_restore_44 : decode prog_1_method_13_code 44 = .ok (.iload_n 1, 1) := by decide +kernel
theorem d_GT_restore_45 : decode prog_1_method_13_code 45 = .ok (.invokevirtual 213, 3) := by decide +kernel
theorem d_GT_restore_48 : decode prog_1_method_13_code 48 = .ok (.invokevirtual 228, 3) := by decide +kernel
theorem d_GT_restore_51 : decode prog_1_method_13_code 51 = .ok (.aload_n 0, 1) := by decide +kernel
theorem d_GT_restore_52 : decode prog_1_method_13_code 52 = .ok (.getfield 12, 3) := by decide +kernel
theorem d_GT_restore_55 : decode prog_1_method_13_code 55 = .ok (.getfield 77, 3) := by decide +kernel
theorem d_GT_restore_58 : decode prog_1_method_13_code 58 = .ok (.invokevirtual 225, 3) := by decide +kernel
theorem d_GT_restore_61 : decode prog_1_method_13_code 61 = .ok (.ireturn, 1) := by decide +kernel
theorem d_State_replaceTable_0 : decode prog_6_method_8_code 0 = .ok (.aload_n 0, 1) := by decide +kernel
theorem d_State_replaceTable_1 : decode prog_6_method_8_code 1 = .ok (.getfield 12, 3) := by decide +kernel
theorem d_State_replaceTable_4 : decode prog_6_method_8_code 4 = .ok (.invokevirtual 99, 3) := by decide +kernel
theorem d_State_replaceTable_7 : decode prog_6_method_8_code 7 = .ok (.istore_n 2, 1) := by decide +kernel
theorem d_State_replaceTable_8 : decode prog_6_method_8_code 8 = .ok (.aload_n 0, 1) := by decide +kernel
theorem d_State_replaceTable_9 : decode prog_6_method_8_code 9 = .ok (.getfield 12, 3) := by decide +kernel
theorem d_State_replaceTable_12 : decode prog_6_method_8_code 12 = .ok (.aload_n 1, 1) := by decide +kernel
theorem d_State_replaceTable_13 : decode prog_6_method_8_code 13 = .ok (.invokevirtual 63, 3) := by decide +kernel
theorem d_State_replaceTable_16 : decode prog_6_method_8_code 16 = .ok (.aload_n 0, 1) := by decide +kernel
theorem d_State_replaceTable_17 : decode prog_6_method_8_code 17 = .ok (.iload_n 2, 1) := by decide +kernel
theorem d_State_replaceTable_18 : decode prog_6_method_8_code 18 = .ok (.invokevirtual 106, 3) := by decide +kernel
theorem d_State_replaceTable_21 : decode prog_6_method_8_code 21 = .ok (.return_, 1) := by decide +kernel
