section
-- what the bytes say, instruction by instruction
theorem d_GT_addBorder_0 : decode prog_1_method_2_code 0 = .ok (.iload_n 1, 1) := by decide +kernel
theorem d_GT_addBorder_1 : decode prog_1_method_2_code 1 = .ok (.invokestatic 61, 3) := by decide +kernel
theorem d_GT_addBorder_4 : decode prog_1_method_2_code 4 = .ok (.ifCond .eq 41, 3) := by decide +kernel
theorem d_GT_addBorder_7 : decode prog_1_method_2_code 7 = .ok (.iload_n 2, 1) := by decide +kernel
theorem d_GT_addBorder_8 : decode prog_1_method_2_code 8 = .ok (.iconst 1, 1) := by decide +kernel
theorem d_GT_addBorder_9 : decode prog_1_method_2_code 9 = .ok (.sipush 999, 3) := by decide +kernel
theorem d_GT_addBorder_12 : decode prog_1_method_2_code 12 = .ok (.invokestatic 65, 3) := by decide +kernel
theorem d_GT_addBorder_15 : decode prog_1_method_2_code 15 = .ok (.ifCond .eq 30, 3) := by decide +kernel
theorem d_GT_addBorder_18 : decode prog_1_method_2_code 18 = .ok (.iload_n 3, 1) := by decide +kernel
theorem d_GT_addBorder_19 : decode prog_1_method_2_code 19 = .ok (.iconst 0, 1) := by decide +kernel
theorem d_GT_addBorder_20 : decode prog_1_method_2_code 20 = .ok (.iconst 1, 1) := by decide +kernel
theorem d_GT_addBorder_21 : decode prog_1_method_2_code 21 = .ok (.invokestatic 65, 3) := by decide +kernel
theorem d_GT_addBorder_24 : decode prog_1_method_2_code 24 = .ok (.ifCond .eq 21, 3) := by decide +kernel
theorem d_GT_addBorder_27 : decode prog_1_method_2_code 27 = .ok (.iload_n 3, 1) := by decide +kernel
theorem d_GT_addBorder_28 : decode prog_1_method_2_code 28 = .ok (.iload 4, 2) := by decide +kernel
theorem d_GT_addBorder_30 : decode prog_1_method_2_code 30 = .ok (.invokestatic 69, 3) := by decide +kernel
theorem d_GT_addBorder_33 : decode prog_1_method_2_code 33 = .ok (.ifCond .eq 12, 3) := by decide +kernel
theorem d_GT_addBorder_36 : decode prog_1_method_2_code 36 = .ok (.iload_n 2, 1) := by decide +kernel
theorem d_GT_addBorder_37 : decode prog_1_method_2_code 37 = .ok (.iload 4, 2) := by decide +kernel
theorem d_GT_addBorder_39 : decode prog_1_method_2_code 39 = .ok (.invokestatic 73, 3) := by decide +kernel
theorem d_GT_addBorder_42 : decode prog_1_method_2_code 42 = .ok (.ifCond .ne 6, 3) := by decide +kernel
theorem d_GT_addBorder_45 : decode prog_1_method_2_code 45 = .ok (.ldc 76, 2) := by decide +kernel
theorem d_GT_addBorder_47 : decode prog_1_method_2_code 47 = .ok (.ireturn, 1) := by decide +kernel
theorem d_GT_addBorder_48 : decode prog_1_method_2_code 48 = .ok (.aload_n 0, 1) := by decide +kernel
theorem d_GT_addBorder_49 : decode prog_1_method_2_code 49 = .ok (.getfield 12, 3) := by decide +kernel
theorem d_GT_addBorder_52 : decode prog_1_method_2_code 52 = .ok (.getfield 77, 3) := by decide +kernel
theorem d_GT_addBorder_55 : decode prog_1_method_2_code 55 = .ok (.iload_n 1, 1) := by decide +kernel
theorem d_GT_addBorder_56 : decode prog_1_method_2_code 56 = .ok (.invokevirtual 80, 3) := by decide +kernel
theorem d_GT_addBorder_59 : decode prog_1_method_2_code 59 = .ok (.astore 5, 2) := by decide +kernel
theorem d_GT_addBorder_61 : decode prog_1_method_2_code 61 = .ok (.aload 5, 2) := by decide +kernel
theorem d_GT_addBorder_63 : decode prog_1_method_2_code 63 = .ok (.iload_n 2, 1) := by decide +kernel
theorem d_GT_addBorder_64 : decode prog_1_method_2_code 64 = .ok (.iload 4, 2) := by decide +kernel
theorem d_GT_addBorder_66 : decode prog_1_method_2_code 66 = .ok (.iconst (-1), 1) := by decide +kernel
theorem d_GT_addBorder_67 : decode prog_1_method_2_code 67 = .ok (.invokevirtual 84, 3) := by decide +kernel
theorem d_GT_addBorder_70 : decode prog_1_method_2_code 70 = .ok (.ifCond .ne 6, 3) := by decide +kernel
theorem d_GT_addBorder_73 : decode prog_1_method_2_code 73 = .ok (.ldc 87, 2) := by decide +kernel
theorem d_GT_addBorder_75 : decode prog_1_method_2_code 75 = .ok (.ireturn, 1) := by decide +kernel
theorem d_GT_addBorder_76 : decode prog_1_method_2_code 76 = .ok (.aload 5, 2) := by decide +kernel
theorem d_GT_addBorder_78 : decode prog_1_method_2_code 78 = .ok (.invokevirtual 88, 3) := by decide +kernel
theorem d_GT_addBorder_81 : decode prog_1_method_2_code 81 = .ok (.ifCond .eq 6, 3) := by decide +kernel
theorem d_GT_addBorder_84 : decode prog_1_method_2_code 84 = .ok (.ldc 92, 2) := by decide +kernel
theorem d_GT_addBorder_86 : decode prog_1_method_2_code 86 = .ok (.ireturn, 1) := by decide +kernel
theorem d_GT_addBorder_87 : decode prog_1_method_2_code 87 = .ok (.aload_n 0, 1) := by decide +kernel
theorem d_GT_addBorder_88 : decode prog_1_method_2_code 88 = .ok (.getfield 19, 3) := by decide +kernel
theorem d_GT_addBorder_91 : decode prog_1_method_2_code 91 = .ok (.aload_n 0, 1) := by decide +kernel
theorem d_GT_addBorder_92 : decode prog_1_method_2_code 92 = .ok (.getfield 12, 3) := by decide +kernel
theorem d_GT_addBorder_95 : decode prog_1_method_2_code 95 = .ok (.invokevirtual 93, 3) := by decide +kernel
theorem d_GT_addBorder_98 : decode prog_1_method_2_code 98 = .ok (.aload_n 0, 1) := by decide +kernel
theorem d_GT_addBorder_99 : decode prog_1_method_2_code 99 = .ok (.getfield 12, 3) := by decide +kernel
theorem d_GT_addBorder_102 : decode prog_1_method_2_code 102 = .ok (.getfield 77, 3) := by decide +kernel
theorem d_GT_addBorder_105 : decode prog_1_method_2_code 105 = .ok (.invokevirtual 97, 3) := by decide +kernel
theorem d_GT_addBorder_108 : decode prog_1_method_2_code 108 = .ok (.istore 6, 2) := by decide +kernel
theorem d_GT_addBorder_110 : decode prog_1_method_2_code 110 = .ok (.aload_n 0, 1) := by decide +kernel
theorem d_GT_addBorder_111 : decode prog_1_method_2_code 111 = .ok (.getfield 12, 3) := by decide +kernel
theorem d_GT_addBorder_114 : decode prog_1_method_2_code 114 = .ok (.getfield 77, 3) := by decide +kernel
theorem d_GT_addBorder_117 : decode prog_1_method_2_code 117 = .ok (.iload_n 1, 1) := by decide +kernel
theorem d_GT_addBorder_118 : decode prog_1_method_2_code 118 = .ok (.iload_n 2, 1) := by decide +kernel
theorem d_GT_addBorder_119 : decode prog_1_method_2_code 119 = .ok (.iload_n 3, 1) := by decide +kernel
theorem d_GT_addBorder_120 : decode prog_1_method_2_code 120 = .ok (.iload 4, 2) := by decide +kernel
theorem d_GT_addBorder_122 : decode prog_1_method_2_code 122 = .ok (.invokevirtual 101, 3) := by decide +kernel
theorem d_GT_addBorder_125 : decode prog_1_method_2_code 125 = .ok (.istore 7, 2) := by decide +kernel
theorem d_GT_addBorder_127 : decode prog_1_method_2_code 127 = .ok (.aload_n 0, 1) := by decide +kernel
theorem d_GT_addBorder_128 : decode prog_1_method_2_code 128 = .ok (.getfield 12, 3) := by decide +kernel
theorem d_GT_addBorder_131 : decode prog_1_method_2_code 131 = .ok (.iload 6, 2) := by decide +kernel
theorem d_GT_addBorder_133 : decode prog_1_method_2_code 133 = .ok (.invokevirtual 105, 3) := by decide +kernel
theorem d_GT_addBorder_136 : decode prog_1_method_2_code 136 = .ok (.iload 7, 2) := by decide +kernel
theorem d_GT_addBorder_138 : decode prog_1_method_2_code 138 = .ok (.ireturn, 1) := by decide +kernel
theorem d_GT_isAxis_0 : decode prog_1_method_33_code 0 = .ok (.iload_n 0, 1) := by decide +kernel
theorem d_GT_isAxis_1 : decode prog_1_method_33_code 1 = .ok (.iconst 0, 1) := by decide +kernel
theorem d_GT_isAxis_2 : decode prog_1_method_33_code 2 = .ok (.iconst 1, 1) := by decide +kernel
theorem d_GT_isAxis_3 : decode prog_1_method_33_code 3 = .ok (.invokestatic 65, 3) := by decide +kernel
theorem d_GT_isAxis_6 : decode prog_1_method_33_code 6 = .ok (.ireturn, 1) := by decide +kernel
theorem d_GT_isIn_0 : decode prog_1_method_32_code 0 = .ok (.iload_n 0, 1) := by decide +kernel
theorem d_GT_isIn_1 : decode prog_1_method_32_code 1 = .ok (.iload_n 1, 1) := by decide +kernel
theorem d_GT_isIn_2 : decode prog_1_method_32_code 2 = .ok (.if_icmp .lt 12, 3) := by decide +kernel
theorem d_GT_isIn_5 : decode prog_1_method_32_code 5 = .ok (.iload_n 0, 1) := by decide +kernel
theorem d_GT_isIn_6 : decode prog_1_method_32_code 6 = .ok (.iload_n 2, 1) := by decide +kernel
theorem d_GT_isIn_7 : decode prog_1_method_32_code 7 = .ok (.if_icmp .gt 7, 3) := by decide +kernel
theorem d_GT_isIn_10 : decode prog_1_method_32_code 10 = .ok (.iconst 1, 1) := by decide +kernel
theorem d_GT_isIn_11 : decode prog_1_method_32_code 11 = .ok (.goto 4, 3) := by decide +kernel
theorem d_GT_isIn_14 : decode prog_1_method_32_code 14 = .ok (.iconst 0, 1) := by decide +kernel
theorem d_GT_isIn_15 : decode prog_1_method_32_code 15 = .ok (.ireturn, 1) := by decide +kernel
theorem d_GT_isReach_0 : decode prog_1_method_38_code 0 = .ok (.iload_n 1, 1) := by decide +kernel
theorem d_GT_isReach_1 : decode prog_1_method_38_code 1 = .ok (.iload_n 0, 1) := by decide +kernel
theorem d_GT_isReach_2 : decode prog_1_method_38_code 2 = .ok (.iconst 1, 1) := by decide +kernel
theorem d_GT_isReach_3 : decode prog_1_method_38_code 3 = .ok (.if_icmp .ne 7, 3) := by decide +kernel
theorem d_GT_isReach_6 : decode prog_1_method_38_code 6 = .ok (.iconst 1, 1) := by decide +kernel
theorem d_GT_isReach_7 : decode prog_1_method_38_code 7 = .ok (.goto 4, 3) := by decide +kernel
theorem d_GT_isReach_10 : decode prog_1_method_38_code 10 = .ok (.iconst 0, 1) := by decide +kernel
theorem d_GT_isReach_11 : decode prog_1_method_38_code 11 = .ok (.bipush 100, 2) := by decide +kernel
theorem d_GT_isReach_13 : decode prog_1_method_38_code 13 = .ok (.invokestatic 65, 3) := by decide +kernel
theorem d_GT_isReach_16 : decode prog_1_method_38_code 16 = .ok (.ireturn, 1) := by decide +kernel
theorem d_Borders_isInside_0 : decode prog_3_method_9_code 0 = .ok (.iload_n 0, 1) := by decide +kernel
theorem d_Borders_isInside_1 : decode prog_3_method_9_code 1 = .ok (.iload_n 1, 1) := by decide +kernel
theorem d_Borders_isInside_2 : decode prog_3_method_9_code 2 = .ok (.isub, 1) := by decide +kernel
theorem d_Borders_isInside_3 : decode prog_3_method_9_code 3 = .ok (.ifCond .lt 16, 3) := by decide +kernel
theorem d_Borders_isInside_6 : decode prog_3_method_9_code 6 = .ok (.iload_n 0, 1) := by decide +kernel
theorem d_Borders_isInside_7 : decode prog_3_method_9_code 7 = .ok (.iload_n 1, 1) := by decide +kernel
theorem d_Borders_isInside_8 : decode prog_3_method_9_code 8 = .ok (.iadd, 1) := by decide +kernel
theorem d_Borders_isInside_9 : decode prog_3_method_9_code 9 = .ok (.sipush 1000, 3) := by decide +kernel
theorem d_Borders_isInside_12 : decode prog_3_method_9_code 12 = .ok (.if_icmp .gt 7, 3) := by decide +kernel
theorem d_Borders_isInside_15 : decode prog_3_method_9_code 15 = .ok (.iconst 1, 1) := by decide +kernel
theorem d_Borders_isInside_16 : decode prog_3_method_9_code 16 = .ok (.goto 4, 3) := by decide +kernel
theorem d_Borders_isInside_19 : decode prog_3_method_9_code 19 = .ok (.iconst 0, 1) := by decide +kernel
theorem d_Borders_isInside_20 : decode prog_3_method_9_code 20 = .ok (.ireturn, 1) := by decide +kernel
theorem d_Table_bordersOf_0 : decode prog_7_method_4_code 0 = .ok (.iload_n 1, 1) := by decide +kernel
theorem d_Table_bordersOf_1 : decode prog_7_method_4_code 1 = .ok (.ifCond .ne 10, 3) := by decide +kernel
theorem d_Table_bordersOf_4 : decode prog_7_method_4_code 4 = .ok (.aload_n 0, 1) := by decide +kernel
theorem d_Table_bordersOf_5 : decode prog_7_method_4_code 5 = .ok (.getfield 12, 3) := by decide +kernel
theorem d_Table_bordersOf_8 : decode prog_7_method_4_code 8 = .ok (.goto 7, 3) := by decide +kernel
theorem d_Table_bordersOf_11 : decode prog_7_method_4_code 11 = .ok (.aload_n 0, 1) := by decide +kernel
theorem d_Table_bordersOf_12 : decode prog_7_method_4_code 12 = .ok (.getfield 18, 3) := by decide +kernel
theorem d_Table_bordersOf_15 : decode prog_7_method_4_code 15 = .ok (.areturn, 1) := by decide +kernel
theorem d_Borders_isFree_0 : decode prog_3_method_10_code 0 = .ok (.iconst 0, 1) := by decide +kernel
theorem d_Borders_isFree_1 : decode prog_3_method_10_code 1 = .ok (.istore 4, 2) := by decide +kernel
theorem d_Borders_isFree_3 : decode prog_3_method_10_code 3 = .ok (.iload 4, 2) := by decide +kernel
theorem d_Borders_isFree_5 : decode prog_3_method_10_code 5 = .ok (.aload_n 0, 1) := by decide +kernel
theorem d_Borders_isFree_6 : decode prog_3_method_10_code 6 = .ok (.getfield 21, 3) := by decide +kernel
theorem d_Borders_isFree_9 : decode prog_3_method_10_code 9 = .ok (.if_icmp .ge 59, 3) := by decide +kernel
theorem d_Borders_isFree_12 : decode prog_3_method_10_code 12 = .ok (.iload 4, 2) := by decide +kernel
theorem d_Borders_isFree_14 : decode prog_3_method_10_code 14 = .ok (.iload_n 3, 1) := by decide +kernel
theorem d_Borders_isFree_15 : decode prog_3_method_10_code 15 = .ok (.if_icmp .eq 47, 3) := by decide +kernel
theorem d_Borders_isFree_18 : decode prog_3_method_10_code 18 = .ok (.iload_n 1, 1) := by decide +kernel
theorem d_Borders_isFree_19 : decode prog_3_method_10_code 19 = .ok (.iload_n 2, 1) := by decide +kernel
theorem d_Borders_isFree_20 : decode prog_3_method_10_code 20 = .ok (.isub, 1) := by decide +kernel
theorem d_Borders_isFree_21 : decode prog_3_method_10_code 21 = .ok (.aload_n 0, 1) := by decide +kernel
theorem d_Borders_isFree_22 : decode prog_3_method_10_code 22 = .ok (.getfield 9, 3) := by decide +kernel
theorem d_Borders_isFree_25 : decode prog_3_method_10_code 25 = .ok (.iload 4, 2) := by decide +kernel
theorem d_Borders_isFree_27 : decode prog_3_method_10_code 27 = .ok (.iaload, 1) := by decide +kernel
theorem d_Borders_isFree_28 : decode prog_3_method_10_code 28 = .ok (.aload_n 0, 1) := by decide +kernel
theorem d_Borders_isFree_29 : decode prog_3_method_10_code 29 = .ok (.getfield 18, 3) := by decide +kernel
theorem d_Borders_isFree_32 : decode prog_3_method_10_code 32 = .ok (.iload 4, 2) := by decide +kernel
theorem d_Borders_isFree_34 : decode prog_3_method_10_code 34 = .ok (.iaload, 1) := by decide +kernel
theorem d_Borders_isFree_35 : decode prog_3_method_10_code 35 = .ok (.iadd, 1) := by decide +kernel
theorem d_Borders_isFree_36 : decode prog_3_method_10_code 36 = .ok (.if_icmp .gt 26, 3) := by decide +kernel
theorem d_Borders_isFree_39 : decode prog_3_method_10_code 39 = .ok (.iload_n 1, 1) := by decide +kernel
theorem d_Borders_isFree_40 : decode prog_3_method_10_code 40 = .ok (.iload_n 2, 1) := by decide +kernel
theorem d_Borders_isFree_41 : decode prog_3_method_10_code 41 = .ok (.iadd, 1) := by decide +kernel
theorem d_Borders_isFree_42 : decode prog_3_method_10_code 42 = .ok (.aload_n 0, 1) := by decide +kernel
theorem d_Borders_isFree_43 : decode prog_3_method_10_code 43 = .ok (.getfield 9, 3) := by decide +kernel
theorem d_Borders_isFree_46 : decode prog_3_method_10_code 46 = .ok (.iload 4, 2) := by decide +kernel
theorem d_Borders_isFree_48 : decode prog_3_method_10_code 48 = .ok (.iaload, 1) := by decide +kernel
theorem d_Borders_isFree_49 : decode prog_3_method_10_code 49 = .ok (.aload_n 0, 1) := by decide +kernel
theorem d_Borders_isFree_50 : decode prog_3_method_10_code 50 = .ok (.getfield 18, 3) := by decide +kernel
theorem d_Borders_isFree_53 : decode prog_3_method_10_code 53 = .ok (.iload 4, 2) := by decide +kernel
theorem d_Borders_isFree_55 : decode prog_3_method_10_code 55 = .ok (.iaload, 1) := by decide +kernel
theorem d_Borders_isFree_56 : decode prog_3_method_10_code 56 = .ok (.isub, 1) := by decide +kernel
theorem d_Borders_isFree_57 : decode prog_3_method_10_code 57 = .ok (.if_icmp .lt 5, 3) := by decide +kernel
theorem d_Borders_isFree_60 : decode prog_3_method_10_code 60 = .ok (.iconst 0, 1) := by decide +kernel
theorem d_Borders_isFree_61 : decode prog_3_method_10_code 61 = .ok (.ireturn, 1) := by decide +kernel
theorem d_Borders_isFree_62 : decode prog_3_method_10_code 62 = .ok (.iinc 4 1, 3) := by decide +kernel
theorem d_Borders_isFree_65 : decode prog_3_method_10_code 65 = .ok (.goto (-62), 3) := by decide +kernel
theorem d_Borders_isFree_68 : decode prog_3_method_10_code 68 = .ok (.iconst 1, 1) := by decide +kernel
theorem d_Borders_isFree_69 : decode prog_3_method_10_code 69 = .ok (.ireturn, 1) := by decide +kernel
theorem d_Borders_isFull_0 : decode prog_3_method_4_code 0 = .ok (.aload_n 0, 1) := by decide +kernel
theorem d_Borders_isFull_1 : decode prog_3_method_4_code 1 = .ok (.getfield 21, 3) := by decide +kernel
theorem d_Borders_isFull_4 : decode prog_3_method_4_code 4 = .ok (.bipush 6, 2) := by decide +kernel
theorem d_Borders_isFull_6 : decode prog_3_method_4_code 6 = .ok (.if_icmp .lt 7, 3) := by decide +kernel
theorem d_Borders_isFull_9 : decode prog_3_method_4_code 9 = .ok (.iconst 1, 1) := by decide +kernel
theorem d_Borders_isFull_10 : decode prog_3_method_4_code 10 = .ok (.goto 4, 3) := by decide +kernel
theorem d_Borders_isFull_13 : decode prog_3_method_4_code 13 = .ok (.iconst 0, 1) := by decide +kernel
theorem d_Borders_isFull_14 : decode prog_3_method_4_code 14 = .ok (.ireturn, 1) := by decide +kernel
theorem d_History_keep_0 : decode prog_4_method_2_code 0 = .ok (.aload_n 0, 1) := by decide +kernel
theorem d_History_keep_1 : decode prog_4_method_2_code 1 = .ok (.getfield 18, 3) := by decide +kernel
theorem d_History_keep_4 : decode prog_4_method_2_code 4 = .ok (.iconst 5, 1) := by decide +kernel
theorem d_History_keep_5 : decode prog_4_method_2_code 5 = .ok (.if_icmp .lt 25, 3) := by decide +kernel
theorem d_History_keep_8 : decode prog_4_method_2_code 8 = .ok (.aload_n 0, 1) := by decide +kernel
theorem d_History_keep_9 : decode prog_4_method_2_code 9 = .ok (.aload_n 0, 1) := by decide +kernel
theorem d_History_keep_10 : decode prog_4_method_2_code 10 = .ok (.getfield 22, 3) := by decide +kernel
theorem d_History_keep_13 : decode prog_4_method_2_code 13 = .ok (.iconst 1, 1) := by decide +kernel
theorem d_History_keep_14 : decode prog_4_method_2_code 14 = .ok (.iadd, 1) := by decide +kernel
theorem d_History_keep_15 : decode prog_4_method_2_code 15 = .ok (.iconst 5, 1) := by decide +kernel
theorem d_History_keep_16 : decode prog_4_method_2_code 16 = .ok (.irem, 1) := by decide +kernel
theorem d_History_keep_17 : decode prog_4_method_2_code 17 = .ok (.putfield 22, 3) := by decide +kernel
theorem d_History_keep_20 : decode prog_4_method_2_code 20 = .ok (.aload_n 0, 1) := by decide +kernel
theorem d_History_keep_21 : decode prog_4_method_2_code 21 = .ok (.dup, 1) := by decide +kernel
theorem d_History_keep_22 : decode prog_4_method_2_code 22 = .ok (.getfield 18, 3) := by decide +kernel
theorem d_History_keep_25 : decode prog_4_method_2_code 25 = .ok (.iconst 1, 1) := by decide +kernel
theorem d_History_keep_26 : decode prog_4_method_2_code 26 = .ok (.isub, 1) := by decide +kernel
theorem d_History_keep_27 : decode prog_4_method_2_code 27 = .ok (.putfield 18, 3) := by decide +kernel
theorem d_History_keep_30 : decode prog_4_method_2_code 30 = .ok (.aload_n 0, 1) := by decide +kernel
theorem d_History_keep_31 : decode prog_4_method_2_code 31 = .ok (.getfield 11, 3) := by decide +kernel
theorem d_History_keep_34 : decode prog_4_method_2_code 34 = .ok (.aload_n 0, 1) := by decide +kernel
theorem d_History_keep_35 : decode prog_4_method_2_code 35 = .ok (.getfield 22, 3) := by decide +kernel
theorem d_History_keep_38 : decode prog_4_method_2_code 38 = .ok (.aload_n 0, 1) := by decide +kernel
theorem d_History_keep_39 : decode prog_4_method_2_code 39 = .ok (.getfield 18, 3) := by decide +kernel
theorem d_History_keep_42 : decode prog_4_method_2_code 42 = .ok (.iadd, 1) := by decide +kernel
theorem d_History_keep_43 : decode prog_4_method_2_code 43 = .ok (.iconst 5, 1) := by decide +kernel
theorem d_History_keep_44 : decode prog_4_method_2_code 44 = .ok (.irem, 1) := by decide +kernel
theorem d_History_keep_45 : decode prog_4_method_2_code 45 = .ok (.aaload, 1) := by decide +kernel
theorem d_History_keep_46 : decode prog_4_method_2_code 46 = .ok (.astore_n 2, 1) := by decide +kernel
theorem d_History_keep_47 : decode prog_4_method_2_code 47 = .ok (.aload_n 2, 1) := by decide +kernel
theorem d_History_keep_48 : decode prog_4_method_2_code 48 = .ok (.ifnull 18, 3) := by decide +kernel
theorem d_History_keep_51 : decode prog_4_method_2_code 51 = .ok (.aload_n 2, 1) := by decide +kernel
theorem d_History_keep_52 : decode prog_4_method_2_code 52 = .ok (.aload_n 1, 1) := by decide +kernel
theorem d_History_keep_53 : decode prog_4_method_2_code 53 = .ok (.invokevirtual 25, 3) := by decide +kernel
theorem d_History_keep_56 : decode prog_4_method_2_code 56 = .ok (.aload_n 0, 1) := by decide +kernel
theorem d_History_keep_57 : decode prog_4_method_2_code 57 = .ok (.dup, 1) := by decide +kernel
theorem d_History_keep_58 : decode prog_4_method_2_code 58 = .ok (.getfield 18, 3) := by decide +kernel
theorem d_History_keep_61 : decode prog_4_method_2_code 61 = .ok (.iconst 1, 1) := by decide +kernel
theorem d_History_keep_62 : decode prog_4_method_2_code 62 = .ok (.iadd, 1) := by decide +kernel
theorem d_History_keep_63 : decode prog_4_method_2_code 63 = .ok (.putfield 18, 3) := by decide +kernel
theorem d_History_keep_66 : decode prog_4_method_2_code 66 = .ok (.return_, 1) := by decide +kernel
theorem d_State_copyFrom_0 : decode prog_6_method_2_code 0 = .ok (.aload_n 0, 1) := by decide +kernel
theorem d_State_copyFrom_1 : decode prog_6_method_2_code 1 = .ok (.getfield 12, 3) := by decide +kernel
theorem d_State_copyFrom_4 : decode prog_6_method_2_code 4 = .ok (.aload_n 1, 1) := by decide +kernel
theorem d_State_copyFrom_5 : decode prog_6_method_2_code 5 = .ok (.getfield 12, 3) := by decide +kernel
theorem d_State_copyFrom_8 : decode prog_6_method_2_code 8 = .ok (.invokevirtual 63, 3) := by decide +kernel
theorem d_State_copyFrom_11 : decode prog_6_method_2_code 11 = .ok (.aload_n 0, 1) := by decide +kernel
theorem d_State_copyFrom_12 : decode prog_6_method_2_code 12 = .ok (.getfield 18, 3) := by decide +kernel
theorem d_State_copyFrom_15 : decode prog_6_method_2_code 15 = .ok (.aload_n 1, 1) := by decide +kernel
theorem d_State_copyFrom_16 : decode prog_6_method_2_code 16 = .ok (.getfield 18, 3) := by decide +kernel
theorem d_State_copyFrom_19 : decode prog_6_method_2_code 19 = .ok (.invokevirtual 63, 3) := by decide +kernel
theorem d_State_copyFrom_22 : decode prog_6_method_2_code 22 = .ok (.aload_n 0, 1) := by decide +kernel
theorem d_State_copyFrom_23 : decode prog_6_method_2_code 23 = .ok (.getfield 21, 3) := by decide +kernel
theorem d_State_copyFrom_26 : decode prog_6_method_2_code 26 = .ok (.aload_n 1, 1) := by decide +kernel
theorem d_State_copyFrom_27 : decode prog_6_method_2_code 27 = .ok (.getfield 21, 3) := by decide +kernel
theorem d_State_copyFrom_30 : decode prog_6_method_2_code 30 = .ok (.invokevirtual 63, 3) := by decide +kernel
theorem d_State_copyFrom_33 : decode prog_6_method_2_code 33 = .ok (.aload_n 0, 1) := by decide +kernel
theorem d_State_copyFrom_34 : decode prog_6_method_2_code 34 = .ok (.getfield 24, 3) := by decide +kernel
theorem d_State_copyFrom_37 : decode prog_6_method_2_code 37 = .ok (.aload_n 1, 1) := by decide +kernel
theorem d_State_copyFrom_38 : decode prog_6_method_2_code 38 = .ok (.getfield 24, 3) := by decide +kernel
theorem d_State_copyFrom_41 : decode prog_6_method_2_code 41 = .ok (.invokevirtual 63, 3) := by decide +kernel
theorem d_State_copyFrom_44 : decode prog_6_method_2_code 44 = .ok (.iconst 0, 1) := by decide +kernel
theorem d_State_copyFrom_45 : decode prog_6_method_2_code 45 = .ok (.istore_n 2, 1) := by decide +kernel
theorem d_State_copyFrom_46 : decode prog_6_method_2_code 46 = .ok (.iload_n 2, 1) := by decide +kernel
theorem d_State_copyFrom_47 : decode prog_6_method_2_code 47 = .ok (.iconst 3, 1) := by decide +kernel
theorem d_State_copyFrom_48 : decode prog_6_method_2_code 48 = .ok (.if_icmp .ge 21, 3) := by decide +kernel
theorem d_State_copyFrom_51 : decode prog_6_method_2_code 51 = .ok (.aload_n 0, 1) := by decide +kernel
theorem d_State_copyFrom_52 : decode prog_6_method_2_code 52 = .ok (.getfield 27, 3) := by decide +kernel
theorem d_State_copyFrom_55 : decode prog_6_method_2_code 55 = .ok (.iload_n 2, 1) := by decide +kernel
theorem d_State_copyFrom_56 : decode prog_6_method_2_code 56 = .ok (.aload_n 1, 1) := by decide +kernel
theorem d_State_copyFrom_57 : decode prog_6_method_2_code 57 = .ok (.getfield 27, 3) := by decide +kernel
theorem d_State_copyFrom_60 : decode prog_6_method_2_code 60 = .ok (.iload_n 2, 1) := by decide +kernel
theorem d_State_copyFrom_61 : decode prog_6_method_2_code 61 = .ok (.baload, 1) := by decide +kernel
theorem d_State_copyFrom_62 : decode prog_6_method_2_code 62 = .ok (.bastore, 1) := by decide +kernel
theorem d_State_copyFrom_63 : decode prog_6_method_2_code 63 = .ok (.iinc 2 1, 3) := by decide +kernel
theorem d_State_copyFrom_66 : decode prog_6_method_2_code 66 = .ok (.goto (-20), 3) := by decide +kernel
theorem d_State_copyFrom_69 : decode prog_6_method_2_code 69 = .ok (.aload_n 1, 1) := by decide +kernel
theorem d_State_copyFrom_70 : decode prog_6_method_2_code 70 = .ok (.getfield 31, 3) := by decide +kernel
theorem d_State_copyFrom_73 : decode prog_6_method_2_code 73 = .ok (.iconst 0, 1) := by decide +kernel
theorem d_State_copyFrom_74 : decode prog_6_method_2_code 74 = .ok (.aload_n 0, 1) := by decide +kernel
theorem d_State_copyFrom_75 : decode prog_6_method_2_code 75 = .ok (.getfield 31, 3) := by decide +kernel
theorem d_State_copyFrom_78 : decode prog_6_method_2_code 78 = .ok (.iconst 0, 1) := by decide +kernel
theorem d_State_copyFrom_79 : decode prog_6_method_2_code 79 = .ok (.aload_n 0, 1) := by decide +kernel
theorem d_State_copyFrom_80 : decode prog_6_method_2_code 80 = .ok (.getfield 31, 3) := by decide +kernel
theorem d_State_copyFrom_83 : decode prog_6_method_2_code 83 = .ok (.arraylength, 1) := by decide +kernel
theorem d_State_copyFrom_84 : decode prog_6_method_2_code 84 = .ok (.invokestatic 67, 3) := by decide +kernel
theorem d_State_copyFrom_87 : decode prog_6_method_2_code 87 = .ok (.aload_n 1, 1) := by decide +kernel
theorem d_State_copyFrom_88 : decode prog_6_method_2_code 88 = .ok (.getfield 35, 3) := by decide +kernel
theorem d_State_copyFrom_91 : decode prog_6_method_2_code 91 = .ok (.iconst 0, 1) := by decide +kernel
theorem d_State_copyFrom_92 : decode prog_6_method_2_code 92 = .ok (.aload_n 0, 1) := by decide +kernel
theorem d_State_copyFrom_93 : decode prog_6_method_2_code 93 = .ok (.getfield 35, 3) := by decide +kernel
theorem d_State_copyFrom_96 : decode prog_6_method_2_code 96 = .ok (.iconst 0, 1) := by decide +kernel
theorem d_State_copyFrom_97 : decode prog_6_method_2_code 97 = .ok (.aload_n 0, 1) := by decide +kernel
theorem d_State_copyFrom_98 : decode prog_6_method_2_code 98 = .ok (.getfield 35, 3) := by decide +kernel
theorem d_State_copyFrom_101 : decode prog_6_method_2_code 101 = .ok (.arraylength, 1) := by decide +kernel
theorem d_State_copyFrom_102 : decode prog_6_method_2_code 102 = .ok (.invokestatic 67, 3) := by decide +kernel
theorem d_State_copyFrom_105 : decode prog_6_method_2_code 105 = .ok (.aload_n 0, 1) := by decide +kernel
theorem d_State_copyFrom_106 : decode prog_6_method_2_code 106 = .ok (.aload_n 1, 1) := by decide +kernel
theorem d_State_copyFrom_107 : decode prog_6_method_2_code 107 = .ok (.getfield 73, 3) := by decide +kernel
theorem d_State_copyFrom_110 : decode prog_6_method_2_code 110 = .ok (.putfield 73, 3) := by decide +kernel
theorem d_State_copyFrom_113 : decode prog_6_method_2_code 113 = .ok (.aload_n 0, 1) := by decide +kernel
theorem d_State_copyFrom_114 : decode prog_6_method_2_code 114 = .ok (.getfield 41, 3) := by decide +kernel
theorem d_State_copyFrom_117 : decode prog_6_method_2_code 117 = .ok (.aload_n 1, 1) := by decide +kernel
theorem d_State_copyFrom_118 : decode prog_6_method_2_code 118 = .ok (.getfield 41, 3) := by decide +kernel
theorem d_State_copyFrom_121 : decode prog_6_method_2_code 121 = .ok (.invokevirtual 77, 3) := by decide +kernel
theorem d_State_copyFrom_124 : decode prog_6_method_2_code 124 = .ok (.aload_n 0, 1) := by decide +kernel
theorem d_State_copyFrom_125 : decode prog_6_method_2_code 125 = .ok (.aload_n 1, 1) := by decide +kernel
theorem d_State_copyFrom_126 : decode prog_6_method_2_code 126 = .ok (.getfield 80, 3) := by decide +kernel
theorem d_State_copyFrom_129 : decode prog_6_method_2_code 129 = .ok (.putfield 80, 3) := by decide +kernel
theorem d_State_copyFrom_132 : decode prog_6_method_2_code 132 = .ok (.aload_n 0, 1) := by decide +kernel
theorem d_State_copyFrom_133 : decode prog_6_method_2_code 133 = .ok (.aload_n 1, 1) := by decide +kernel
theorem d_State_copyFrom_134 : decode prog_6_method_2_code 134 = .ok (.getfield 83, 3) := by decide +kernel
theorem d_State_copyFrom_137 : decode prog_6_method_2_code 137 = .ok (.putfield 83, 3) := by decide +kernel
theorem d_State_copyFrom_140 : decode prog_6_method_2_code 140 = .ok (.aload_n 1, 1) := by decide +kernel
theorem d_State_copyFrom_141 : decode prog_6_method_2_code 141 = .ok (.getfield 45, 3) := by decide +kernel
theorem d_State_copyFrom_144 : decode prog_6_method_2_code 144 = .ok (.iconst 0, 1) := by decide +kernel
theorem d_State_copyFrom_145 : decode prog_6_method_2_code 145 = .ok (.aload_n 0, 1) := by decide +kernel
theorem d_State_copyFrom_146 : decode prog_6_method_2_code 146 = .ok (.getfield 45, 3) := by decide +kernel
theorem d_State_copyFrom_149 : decode prog_6_method_2_code 149 = .ok (.iconst 0, 1) := by decide +kernel
theorem d_State_copyFrom_150 : decode prog_6_method_2_code 150 = .ok (.iconst 3, 1) := by decide +kernel
theorem d_State_copyFrom_151 : decode prog_6_method_2_code 151 = .ok (.invokestatic 67, 3) := by decide +kernel
theorem d_State_copyFrom_154 : decode prog_6_method_2_code 154 = .ok (.aload_n 1, 1) := by decide +kernel
theorem d_State_copyFrom_155 : decode prog_6_method_2_code 155 = .ok (.getfield 48, 3) := by decide +kernel
theorem d_State_copyFrom_158 : decode prog_6_method_2_code 158 = .ok (.iconst 0, 1) := by decide +kernel
theorem d_State_copyFrom_159 : decode prog_6_method_2_code 159 = .ok (.aload_n 0, 1) := by decide +kernel
theorem d_State_copyFrom_160 : decode prog_6_method_2_code 160 = .ok (.getfield 48, 3) := by decide +kernel
theorem d_State_copyFrom_163 : decode prog_6_method_2_code 163 = .ok (.iconst 0, 1) := by decide +kernel
theorem d_State_copyFrom_164 : decode prog_6_method_2_code 164 = .ok (.iconst 3, 1) := by decide +kernel
theorem d_State_copyFrom_165 : decode prog_6_method_2_code 165 = .ok (.invokestatic 67, 3) := by decide +kernel
theorem d_State_copyFrom_168 : decode prog_6_method_2_code 168 = .ok (.aload_n 1, 1) := by decide +kernel
theorem d_State_copyFrom_169 : decode prog_6_method_2_code 169 = .ok (.getfield 51, 3) := by decide +kernel
theorem d_State_copyFrom_172 : decode prog_6_method_2_code 172 = .ok (.iconst 0, 1) := by decide +kernel
theorem d_State_copyFrom_173 : decode prog_6_method_2_code 173 = .ok (.aload_n 0, 1) := by decide +kernel
theorem d_State_copyFrom_174 : decode prog_6_method_2_code 174 = .ok (.getfield 51, 3) := by decide +kernel
theorem d_State_copyFrom_177 : decode prog_6_method_2_code 177 = .ok (.iconst 0, 1) := by decide +kernel
theorem d_State_copyFrom_178 : decode prog_6_method_2_code 178 = .ok (.iconst 3, 1) := by decide +kernel
theorem d_State_copyFrom_179 : decode prog_6_method_2_code 179 = .ok (.invokestatic 67, 3) := by decide +kernel
theorem d_State_copyFrom_182 : decode prog_6_method_2_code 182 = .ok (.aload_n 1, 1) := by decide +kernel
theorem d_State_copyFrom_183 : decode prog_6_method_2_code 183 = .ok (.getfield 54, 3) := by decide +kernel
theorem d_State_copyFrom_186 : decode prog_6_method_2_code 186 = .ok (.iconst 0, 1) := by decide +kernel
theorem d_State_copyFrom_187 : decode prog_6_method_2_code 187 = .ok (.aload_n 0, 1) := by decide +kernel
theorem d_State_copyFrom_188 : decode prog_6_method_2_code 188 = .ok (.getfield 54, 3) := by decide +kernel
theorem d_State_copyFrom_191 : decode prog_6_method_2_code 191 = .ok (.iconst 0, 1) := by decide +kernel
theorem d_State_copyFrom_192 : decode prog_6_method_2_code 192 = .ok (.aload_n 0, 1) := by decide +kernel
theorem d_State_copyFrom_193 : decode prog_6_method_2_code 193 = .ok (.getfield 54, 3) := by decide +kernel
theorem d_State_copyFrom_196 : decode prog_6_method_2_code 196 = .ok (.arraylength, 1) := by decide +kernel
theorem d_State_copyFrom_197 : decode prog_6_method_2_code 197 = .ok (.invokestatic 67, 3) := by decide +kernel
theorem d_State_copyFrom_200 : decode prog_6_method_2_code 200 = .ok (.return_, 1) := by decide +kernel
theorem d_Table_copyFrom_0 : decode prog_7_method_3_code 0 = .ok (.aload_n 0, 1) := by decide +kernel
theorem d_Table_copyFrom_1 : decode prog_7_method_3_code 1 = .ok (.getfield 12, 3) := by decide +kernel
theorem d_Table_copyFrom_4 : decode prog_7_method_3_code 4 = .ok (.aload_n 1, 1) := by decide +kernel
theorem d_Table_copyFrom_5 : decode prog_7_method_3_code 5 = .ok (.getfield 12, 3) := by decide +kernel
theorem d_Table_copyFrom_8 : decode prog_7_method_3_code 8 = .ok (.invokevirtual 39, 3) := by decide +kernel
theorem d_Table_copyFrom_11 : decode prog_7_method_3_code 11 = .ok (.aload_n 0, 1) := by decide +kernel
theorem d_Table_copyFrom_12 : decode prog_7_method_3_code 12 = .ok (.getfield 18, 3) := by decide +kernel
theorem d_Table_copyFrom_15 : decode prog_7_method_3_code 15 = .ok (.aload_n 1, 1) := by decide +kernel
theorem d_Table_copyFrom_16 : decode prog_7_method_3_code 16 = .ok (.getfield 18, 3) := by decide +kernel
theorem d_Table_copyFrom_19 : decode prog_7_method_3_code 19 = .ok (.invokevirtual 39, 3) := by decide +kernel
theorem d_Table_copyFrom_22 : decode prog_7_method_3_code 22 = .ok (.aload_n 1, 1) := by decide +kernel
theorem d_Table_copyFrom_23 : decode prog_7_method_3_code 23 = .ok (.getfield 21, 3) := by decide +kernel
theorem d_Table_copyFrom_26 : decode prog_7_method_3_code 26 = .ok (.iconst 0, 1) := by decide +kernel
theorem d_Table_copyFrom_27 : decode prog_7_method_3_code 27 = .ok (.aload_n 0, 1) := by decide +kernel
theorem d_Table_copyFrom_28 : decode prog_7_method_3_code 28 = .ok (.getfield 21, 3) := by decide +kernel
theorem d_Table_copyFrom_31 : decode prog_7_method_3_code 31 = .ok (.iconst 0, 1) := by decide +kernel
theorem d_Table_copyFrom_32 : decode prog_7_method_3_code 32 = .ok (.aload_n 0, 1) := by decide +kernel
theorem d_Table_copyFrom_33 : decode prog_7_method_3_code 33 = .ok (.getfield 21, 3) := by decide +kernel
theorem d_Table_copyFrom_36 : decode prog_7_method_3_code 36 = .ok (.arraylength, 1) := by decide +kernel
theorem d_Table_copyFrom_37 : decode prog_7_method_3_code 37 = .ok (.invokestatic 43, 3) := by decide +kernel
theorem d_Table_copyFrom_40 : decode prog_7_method_3_code 40 = .ok (.aload_n 1, 1) := by decide +kernel
theorem d_Table_copyFrom_41 : decode prog_7_method_3_code 41 = .ok (.getfield 25, 3) := by decide +kernel
theorem d_Table_copyFrom_44 : decode prog_7_method_3_code 44 = .ok (.iconst 0, 1) := by decide +kernel
theorem d_Table_copyFrom_45 : decode prog_7_method_3_code 45 = .ok (.aload_n 0, 1) := by decide +kernel
theorem d_Table_copyFrom_46 : decode prog_7_method_3_code 46 = .ok (.getfield 25, 3) := by decide +kernel
theorem d_Table_copyFrom_49 : decode prog_7_method_3_code 49 = .ok (.iconst 0, 1) := by decide +kernel
theorem d_Table_copyFrom_50 : decode prog_7_method_3_code 50 = .ok (.aload_n 0, 1) := by decide +kernel
theorem d_Table_copyFrom_51 : decode prog_7_method_3_code 51 = .ok (.getfield 25, 3) := by decide +kernel
theorem d_Table_copyFrom_54 : decode prog_7_method_3_code 54 = .ok (.arraylength, 1) := by decide +kernel
theorem d_Table_copyFrom_55 : decode prog_7_method_3_code 55 = .ok (.invokestatic 43, 3) := by decide +kernel
theorem d_Table_copyFrom_58 : decode prog_7_method_3_code 58 = .ok (.return_, 1) := by decide +kernel
theorem d_Borders_copyFrom_0 : decode prog_3_method_2_code 0 = .ok (.aload_n 0, 1) := by decide +kernel
theorem d_Borders_copyFrom_1 : decode prog_3_method_2_code 1 = .ok (.aload_n 1, 1) := by decide +kernel
theorem d_Borders_copyFrom_2 : decode prog_3_method_2_code 2 = .ok (.getfield 21, 3) := by decide +kernel
theorem d_Borders_copyFrom_5 : decode prog_3_method_2_code 5 = .ok (.putfield 21, 3) := by decide +kernel
theorem d_Borders_copyFrom_8 : decode prog_3_method_2_code 8 = .ok (.aload_n 1, 1) := by decide +kernel
theorem d_Borders_copyFrom_9 : decode prog_3_method_2_code 9 = .ok (.getfield 9, 3) := by decide +kernel
theorem d_Borders_copyFrom_12 : decode prog_3_method_2_code 12 = .ok (.iconst 0, 1) := by decide +kernel
theorem d_Borders_copyFrom_13 : decode prog_3_method_2_code 13 = .ok (.aload_n 0, 1) := by decide +kernel
theorem d_Borders_copyFrom_14 : decode prog_3_method_2_code 14 = .ok (.getfield 9, 3) := by decide +kernel
theorem d_Borders_copyFrom_17 : decode prog_3_method_2_code 17 = .ok (.iconst 0, 1) := by decide +kernel
theorem d_Borders_copyFrom_18 : decode prog_3_method_2_code 18 = .ok (.bipush 6, 2) := by decide +kernel
theorem d_Borders_copyFrom_20 : decode prog_3_method_2_code 20 = .ok (.invokestatic 25, 3) := by decide +kernel
theorem d_Borders_copyFrom_23 : decode prog_3_method_2_code 23 = .ok (.aload_n 1, 1) := by decide +kernel
theorem d_Borders_copyFrom_24 : decode prog_3_method_2_code 24 = .ok (.getfield 15, 3) := by decide +kernel
theorem d_Borders_copyFrom_27 : decode prog_3_method_2_code 27 = .ok (.iconst 0, 1) := by decide +kernel
theorem d_Borders_copyFrom_28 : decode prog_3_method_2_code 28 = .ok (.aload_n 0, 1) := by decide +kernel
theorem d_Borders_copyFrom_29 : decode prog_3_method_2_code 29 = .ok (.getfield 15, 3) := by decide +kernel
theorem d_Borders_copyFrom_32 : decode prog_3_method_2_code 32 = .ok (.iconst 0, 1) := by decide +kernel
theorem d_Borders_copyFrom_33 : decode prog_3_method_2_code 33 = .ok (.bipush 6, 2) := by decide +kernel
theorem d_Borders_copyFrom_35 : decode prog_3_method_2_code 35 = .ok (.invokestatic 25, 3) := by decide +kernel
theorem d_Borders_copyFrom_38 : decode prog_3_method_2_code 38 = .ok (.aload_n 1, 1) := by decide +kernel
theorem d_Borders_copyFrom_39 : decode prog_3_method_2_code 39 = .ok (.getfield 18, 3) := by decide +kernel
theorem d_Borders_copyFrom_42 : decode prog_3_method_2_code 42 = .ok (.iconst 0, 1) := by decide +kernel
theorem d_Borders_copyFrom_43 : decode prog_3_method_2_code 43 = .ok (.aload_n 0, 1) := by decide +kernel
theorem d_Borders_copyFrom_44 : decode prog_3_method_2_code 44 = .ok (.getfield 18, 3) := by decide +kernel
theorem d_Borders_copyFrom_47 : decode prog_3_method_2_code 47 = .ok (.iconst 0, 1) := by decide +kernel
theorem d_Borders_copyFrom_48 : decode prog_3_method_2_code 48 = .ok (.bipush 6, 2) := by decide +kernel
theorem d_Borders_copyFrom_50 : decode prog_3_method_2_code 50 = .ok (.invokestatic 25, 3) := by decide +kernel
theorem d_Borders_copyFrom_53 : decode prog_3_method_2_code 53 = .ok (.return_, 1) := by decide +kernel
theorem d_Path_copyFrom_0 : decode prog_5_method_2_code 0 = .ok (.aload_n 0, 1) := by decide +kernel
theorem d_Path_copyFrom_1 : decode prog_5_method_2_code 1 = .ok (.aload_n 1, 1) := by decide +kernel
theorem d_Path_copyFrom_2 : decode prog_5_method_2_code 2 = .ok (.getfield 15, 3) := by decide +kernel
theorem d_Path_copyFrom_5 : decode prog_5_method_2_code 5 = .ok (.putfield 15, 3) := by decide +kernel
theorem d_Path_copyFrom_8 : decode prog_5_method_2_code 8 = .ok (.aload_n 0, 1) := by decide +kernel
theorem d_Path_copyFrom_9 : decode prog_5_method_2_code 9 = .ok (.aload_n 1, 1) := by decide +kernel
theorem d_Path_copyFrom_10 : decode prog_5_method_2_code 10 = .ok (.getfield 19, 3) := by decide +kernel
theorem d_Path_copyFrom_13 : decode prog_5_method_2_code 13 = .ok (.putfield 19, 3) := by decide +kernel
theorem d_Path_copyFrom_16 : decode prog_5_method_2_code 16 = .ok (.aload_n 1, 1) := by decide +kernel
theorem d_Path_copyFrom_17 : decode prog_5_method_2_code 17 = .ok (.getfield 9, 3) := by decide +kernel
theorem d_Path_copyFrom_20 : decode prog_5_method_2_code 20 = .ok (.iconst 0, 1) := by decide +kernel
theorem d_Path_copyFrom_21 : decode prog_5_method_2_code 21 = .ok (.aload_n 0, 1) := by decide +kernel
theorem d_Path_copyFrom_22 : decode prog_5_method_2_code 22 = .ok (.getfield 9, 3) := by decide +kernel
theorem d_Path_copyFrom_25 : decode prog_5_method_2_code 25 = .ok (.iconst 0, 1) := by decide +kernel
theorem d_Path_copyFrom_26 : decode prog_5_method_2_code 26 = .ok (.aload_n 0, 1) := by decide +kernel
theorem d_Path_copyFrom_27 : decode prog_5_method_2_code 27 = .ok (.getfield 9, 3) := by decide +kernel
theorem d_Path_copyFrom_30 : decode prog_5_method_2_code 30 = .ok (.arraylength, 1) := by decide +kernel
theorem d_Path_copyFrom_31 : decode prog_5_method_2_code 31 = .ok (.invokestatic 22, 3) := by decide +kernel
theorem d_Path_copyFrom_34 : decode prog_5_method_2_code 34 = .ok (.return_, 1) := by decide +kernel
theorem d_Table_sumOfGains_0 : decode prog_7_method_12_code 0 = .ok (.iconst 0, 1) := by decide +kernel
theorem d_Table_sumOfGains_1 : decode prog_7_method_12_code 1 = .ok (.istore_n 1, 1) := by decide +kernel
theorem d_Table_sumOfGains_2 : decode prog_7_method_12_code 2 = .ok (.iconst 0, 1) := by decide +kernel
theorem d_Table_sumOfGains_3 : decode prog_7_method_12_code 3 = .ok (.istore_n 2, 1) := by decide +kernel
theorem d_Table_sumOfGains_4 : decode prog_7_method_12_code 4 = .ok (.iload_n 2, 1) := by decide +kernel
theorem d_Table_sumOfGains_5 : decode prog_7_method_12_code 5 = .ok (.aload_n 0, 1) := by decide +kernel
theorem d_Table_sumOfGains_6 : decode prog_7_method_12_code 6 = .ok (.getfield 12, 3) := by decide +kernel
theorem d_Table_sumOfGains_9 : decode prog_7_method_12_code 9 = .ok (.getfield 35, 3) := by decide +kernel
theorem d_Table_sumOfGains_12 : decode prog_7_method_12_code 12 = .ok (.if_icmp .gt 57, 3) := by decide +kernel
theorem d_Table_sumOfGains_15 : decode prog_7_method_12_code 15 = .ok (.iconst 0, 1) := by decide +kernel
theorem d_Table_sumOfGains_16 : decode prog_7_method_12_code 16 = .ok (.istore_n 3, 1) := by decide +kernel
theorem d_Table_sumOfGains_17 : decode prog_7_method_12_code 17 = .ok (.iload_n 3, 1) := by decide +kernel
theorem d_Table_sumOfGains_18 : decode prog_7_method_12_code 18 = .ok (.aload_n 0, 1) := by decide +kernel
theorem d_Table_sumOfGains_19 : decode prog_7_method_12_code 19 = .ok (.getfield 18, 3) := by decide +kernel
theorem d_Table_sumOfGains_22 : decode prog_7_method_12_code 22 = .ok (.getfield 35, 3) := by decide +kernel
theorem d_Table_sumOfGains_25 : decode prog_7_method_12_code 25 = .ok (.if_icmp .gt 38, 3) := by decide +kernel
theorem d_Table_sumOfGains_28 : decode prog_7_method_12_code 28 = .ok (.iconst 0, 1) := by decide +kernel
theorem d_Table_sumOfGains_29 : decode prog_7_method_12_code 29 = .ok (.istore 4, 2) := by decide +kernel
theorem d_Table_sumOfGains_31 : decode prog_7_method_12_code 31 = .ok (.iload 4, 2) := by decide +kernel
theorem d_Table_sumOfGains_33 : decode prog_7_method_12_code 33 = .ok (.iconst 3, 1) := by decide +kernel
theorem d_Table_sumOfGains_34 : decode prog_7_method_12_code 34 = .ok (.if_icmp .ge 23, 3) := by decide +kernel
theorem d_Table_sumOfGains_37 : decode prog_7_method_12_code 37 = .ok (.iload_n 1, 1) := by decide +kernel
theorem d_Table_sumOfGains_38 : decode prog_7_method_12_code 38 = .ok (.aload_n 0, 1) := by decide +kernel
theorem d_Table_sumOfGains_39 : decode prog_7_method_12_code 39 = .ok (.iload_n 2, 1) := by decide +kernel
theorem d_Table_sumOfGains_40 : decode prog_7_method_12_code 40 = .ok (.iload_n 3, 1) := by decide +kernel
theorem d_Table_sumOfGains_41 : decode prog_7_method_12_code 41 = .ok (.invokestatic 49, 3) := by decide +kernel
theorem d_Table_sumOfGains_44 : decode prog_7_method_12_code 44 = .ok (.iload 4, 2) := by decide +kernel
theorem d_Table_sumOfGains_46 : decode prog_7_method_12_code 46 = .ok (.invokevirtual 57, 3) := by decide +kernel
theorem d_Table_sumOfGains_49 : decode prog_7_method_12_code 49 = .ok (.iadd, 1) := by decide +kernel
theorem d_Table_sumOfGains_50 : decode prog_7_method_12_code 50 = .ok (.istore_n 1, 1) := by decide +kernel
theorem d_Table_sumOfGains_51 : decode prog_7_method_12_code 51 = .ok (.iinc 4 1, 3) := by decide +kernel
theorem d_Table_sumOfGains_54 : decode prog_7_method_12_code 54 = .ok (.goto (-23), 3) := by decide +kernel
theorem d_Table_sumOfGains_57 : decode prog_7_method_12_code 57 = .ok (.iinc 3 1, 3) := by decide +kernel
theorem d_Table_sumOfGains_60 : decode prog_7_method_12_code 60 = .ok (.goto (-43), 3) := by decide +kernel
theorem d_Table_sumOfGains_63 : decode prog_7_method_12_code 63 = .ok (.iinc 2 1, 3) := by decide +kernel
theorem d_Table_sumOfGains_66 : decode prog_7_method_12_code 66 = .ok (.goto (-62), 3) := by decide +kernel
theorem d_Table_sumOfGains_69 : decode prog_7_method_12_code 69 = .ok (.iload_n 1, 1) := by decide +kernel
theorem d_Table_sumOfGains_70 : decode prog_7_method_12_code 70 = .ok (.ireturn, 1) := by decide +kernel
theorem d_Table_regionAt_0 : decode prog_7_method_6_code 0 = .ok (.iload_n 0, 1) := by decide +kernel
theorem d_Table_regionAt_1 : decode prog_7_method_6_code 1 = .ok (.bipush 7, 2) := by decide +kernel
theorem d_Table_regionAt_3 : decode prog_7_method_6_code 3 = .ok (.imul, 1) := by decide +kernel
theorem d_Table_regionAt_4 : decode prog_7_method_6_code 4 = .ok (.iload_n 1, 1) := by decide +kernel
theorem d_Table_regionAt_5 : decode prog_7_method_6_code 5 = .ok (.iadd, 1) := by decide +kernel
theorem d_Table_regionAt_6 : decode prog_7_method_6_code 6 = .ok (.ireturn, 1) := by decide +kernel
theorem d_Table_gainAt_0 : decode prog_7_method_7_code 0 = .ok (.iload_n 1, 1) := by decide +kernel
theorem d_Table_gainAt_1 : decode prog_7_method_7_code 1 = .ok (.iconst 3, 1) := by decide +kernel
theorem d_Table_gainAt_2 : decode prog_7_method_7_code 2 = .ok (.imul, 1) := by decide +kernel
theorem d_Table_gainAt_3 : decode prog_7_method_7_code 3 = .ok (.iload_n 2, 1) := by decide +kernel
theorem d_Table_gainAt_4 : decode prog_7_method_7_code 4 = .ok (.iadd, 1) := by decide +kernel
theorem d_Table_gainAt_5 : decode prog_7_method_7_code 5 = .ok (.istore_n 3, 1) := by decide +kernel
theorem d_Table_gainAt_6 : decode prog_7_method_7_code 6 = .ok (.iload_n 3, 1) := by decide +kernel
theorem d_Table_gainAt_7 : decode prog_7_method_7_code 7 = .ok (.ifCond .lt 21, 3) := by decide +kernel
theorem d_Table_gainAt_10 : decode prog_7_method_7_code 10 = .ok (.iload_n 3, 1) := by decide +kernel
theorem d_Table_gainAt_11 : decode prog_7_method_7_code 11 = .ok (.aload_n 0, 1) := by decide +kernel
theorem d_Table_gainAt_12 : decode prog_7_method_7_code 12 = .ok (.getfield 21, 3) := by decide +kernel
theorem d_Table_gainAt_15 : decode prog_7_method_7_code 15 = .ok (.arraylength, 1) := by decide +kernel
theorem d_Table_gainAt_16 : decode prog_7_method_7_code 16 = .ok (.if_icmp .ge 12, 3) := by decide +kernel
theorem d_Table_gainAt_19 : decode prog_7_method_7_code 19 = .ok (.aload_n 0, 1) := by decide +kernel
theorem d_Table_gainAt_20 : decode prog_7_method_7_code 20 = .ok (.getfield 21, 3) := by decide +kernel
theorem d_Table_gainAt_23 : decode prog_7_method_7_code 23 = .ok (.iload_n 3, 1) := by decide +kernel
theorem d_Table_gainAt_24 : decode prog_7_method_7_code 24 = .ok (.iaload, 1) := by decide +kernel
theorem d_Table_gainAt_25 : decode prog_7_method_7_code 25 = .ok (.goto 4, 3) := by decide +kernel
theorem d_Table_gainAt_28 : decode prog_7_method_7_code 28 = .ok (.iconst 0, 1) := by decide +kernel
theorem d_Table_gainAt_29 : decode prog_7_method_7_code 29 = .ok (.ireturn, 1) := by decide +kernel
theorem d_Table_splitAt_0 : decode prog_7_method_14_code 0 = .ok (.aload_n 0, 1) := by decide +kernel
theorem d_Table_splitAt_1 : decode prog_7_method_14_code 1 = .ok (.iload_n 1, 1) := by decide +kernel
theorem d_Table_splitAt_2 : decode prog_7_method_14_code 2 = .ok (.invokevirtual 74, 3) := by decide +kernel
theorem d_Table_splitAt_5 : decode prog_7_method_14_code 5 = .ok (.astore 5, 2) := by decide +kernel
theorem d_Table_splitAt_7 : decode prog_7_method_14_code 7 = .ok (.aload 5, 2) := by decide +kernel
theorem d_Table_splitAt_9 : decode prog_7_method_14_code 9 = .ok (.iload_n 2, 1) := by decide +kernel
theorem d_Table_splitAt_10 : decode prog_7_method_14_code 10 = .ok (.iload_n 3, 1) := by decide +kernel
theorem d_Table_splitAt_11 : decode prog_7_method_14_code 11 = .ok (.iload 4, 2) := by decide +kernel
theorem d_Table_splitAt_13 : decode prog_7_method_14_code 13 = .ok (.invokevirtual 78, 3) := by decide +kernel
theorem d_Table_splitAt_16 : decode prog_7_method_14_code 16 = .ok (.istore 6, 2) := by decide +kernel
theorem d_Table_splitAt_18 : decode prog_7_method_14_code 18 = .ok (.aload 5, 2) := by decide +kernel
theorem d_Table_splitAt_20 : decode prog_7_method_14_code 20 = .ok (.getfield 35, 3) := by decide +kernel
theorem d_Table_splitAt_23 : decode prog_7_method_14_code 23 = .ok (.istore 7, 2) := by decide +kernel
theorem d_Table_splitAt_25 : decode prog_7_method_14_code 25 = .ok (.iload 7, 2) := by decide +kernel
theorem d_Table_splitAt_27 : decode prog_7_method_14_code 27 = .ok (.iload 6, 2) := by decide +kernel
theorem d_Table_splitAt_29 : decode prog_7_method_14_code 29 = .ok (.if_icmp .le 20, 3) := by decide +kernel
theorem d_Table_splitAt_32 : decode prog_7_method_14_code 32 = .ok (.aload_n 0, 1) := by decide +kernel
theorem d_Table_splitAt_33 : decode prog_7_method_14_code 33 = .ok (.iload_n 1, 1) := by decide +kernel
theorem d_Table_splitAt_34 : decode prog_7_method_14_code 34 = .ok (.iload 7, 2) := by decide +kernel
theorem d_Table_splitAt_36 : decode prog_7_method_14_code 36 = .ok (.iconst 1, 1) := by decide +kernel
theorem d_Table_splitAt_37 : decode prog_7_method_14_code 37 = .ok (.isub, 1) := by decide +kernel
theorem d_Table_splitAt_38 : decode prog_7_method_14_code 38 = .ok (.iload 7, 2) := by decide +kernel
theorem d_Table_splitAt_40 : decode prog_7_method_14_code 40 = .ok (.invokevirtual 82, 3) := by decide +kernel
theorem d_Table_splitAt_43 : decode prog_7_method_14_code 43 = .ok (.iinc 7 (-1), 3) := by decide +kernel
theorem d_Table_splitAt_46 : decode prog_7_method_14_code 46 = .ok (.goto (-21), 3) := by decide +kernel
theorem d_Table_splitAt_49 : decode prog_7_method_14_code 49 = .ok (.iload 6, 2) := by decide +kernel
theorem d_Table_splitAt_51 : decode prog_7_method_14_code 51 = .ok (.ireturn, 1) := by decide +kernel
theorem d_Borders_insert_0 : decode prog_3_method_18_code 0 = .ok (.aload_n 0, 1) := by decide +kernel
theorem d_Borders_insert_1 : decode prog_3_method_18_code 1 = .ok (.iload_n 1, 1) := by decide +kernel
theorem d_Borders_insert_2 : decode prog_3_method_18_code 2 = .ok (.invokevirtual 51, 3) := by decide +kernel
theorem d_Borders_insert_5 : decode prog_3_method_18_code 5 = .ok (.istore 4, 2) := by decide +kernel
theorem d_Borders_insert_7 : decode prog_3_method_18_code 7 = .ok (.aload_n 0, 1) := by decide +kernel
theorem d_Borders_insert_8 : decode prog_3_method_18_code 8 = .ok (.invokevirtual 54, 3) := by decide +kernel
theorem d_Borders_insert_11 : decode prog_3_method_18_code 11 = .ok (.ifCond .eq 6, 3) := by decide +kernel
theorem d_Borders_insert_14 : decode prog_3_method_18_code 14 = .ok (.iload 4, 2) := by decide +kernel
theorem d_Borders_insert_16 : decode prog_3_method_18_code 16 = .ok (.ireturn, 1) := by decide +kernel
theorem d_Borders_insert_17 : decode prog_3_method_18_code 17 = .ok (.aload_n 0, 1) := by decide +kernel
theorem d_Borders_insert_18 : decode prog_3_method_18_code 18 = .ok (.getfield 21, 3) := by decide +kernel
theorem d_Borders_insert_21 : decode prog_3_method_18_code 21 = .ok (.istore 5, 2) := by decide +kernel
theorem d_Borders_insert_23 : decode prog_3_method_18_code 23 = .ok (.iload 5, 2) := by decide +kernel
theorem d_Borders_insert_25 : decode prog_3_method_18_code 25 = .ok (.iload 4, 2) := by decide +kernel
theorem d_Borders_insert_27 : decode prog_3_method_18_code 27 = .ok (.if_icmp .le 19, 3) := by decide +kernel
theorem d_Borders_insert_30 : decode prog_3_method_18_code 30 = .ok (.aload_n 0, 1) := by decide +kernel
theorem d_Borders_insert_31 : decode prog_3_method_18_code 31 = .ok (.iload 5, 2) := by decide +kernel
theorem d_Borders_insert_33 : decode prog_3_method_18_code 33 = .ok (.iconst 1, 1) := by decide +kernel
theorem d_Borders_insert_34 : decode prog_3_method_18_code 34 = .ok (.isub, 1) := by decide +kernel
theorem d_Borders_insert_35 : decode prog_3_method_18_code 35 = .ok (.iload 5, 2) := by decide +kernel
theorem d_Borders_insert_37 : decode prog_3_method_18_code 37 = .ok (.invokevirtual 58, 3) := by decide +kernel
theorem d_Borders_insert_40 : decode prog_3_method_18_code 40 = .ok (.iinc 5 (-1), 3) := by decide +kernel
theorem d_Borders_insert_43 : decode prog_3_method_18_code 43 = .ok (.goto (-20), 3) := by decide +kernel
theorem d_Borders_insert_46 : decode prog_3_method_18_code 46 = .ok (.aload_n 0, 1) := by decide +kernel
theorem d_Borders_insert_47 : decode prog_3_method_18_code 47 = .ok (.getfield 9, 3) := by decide +kernel
theorem d_Borders_insert_50 : decode prog_3_method_18_code 50 = .ok (.iload 4, 2) := by decide +kernel
theorem d_Borders_insert_52 : decode prog_3_method_18_code 52 = .ok (.iload_n 1, 1) := by decide +kernel
theorem d_Borders_insert_53 : decode prog_3_method_18_code 53 = .ok (.iastore, 1) := by decide +kernel
theorem d_Borders_insert_54 : decode prog_3_method_18_code 54 = .ok (.aload_n 0, 1) := by decide +kernel
theorem d_Borders_insert_55 : decode prog_3_method_18_code 55 = .ok (.getfield 15, 3) := by decide +kernel
theorem d_Borders_insert_58 : decode prog_3_method_18_code 58 = .ok (.iload 4, 2) := by decide +kernel
theorem d_Borders_insert_60 : decode prog_3_method_18_code 60 = .ok (.iload_n 2, 1) := by decide +kernel
theorem d_Borders_insert_61 : decode prog_3_method_18_code 61 = .ok (.iastore, 1) := by decide +kernel
theorem d_Borders_insert_62 : decode prog_3_method_18_code 62 = .ok (.aload_n 0, 1) := by decide +kernel
theorem d_Borders_insert_63 : decode prog_3_method_18_code 63 = .ok (.getfield 18, 3) := by decide +kernel
theorem d_Borders_insert_66 : decode prog_3_method_18_code 66 = .ok (.iload 4, 2) := by decide +kernel
theorem d_Borders_insert_68 : decode prog_3_method_18_code 68 = .ok (.iload_n 3, 1) := by decide +kernel
theorem d_Borders_insert_69 : decode prog_3_method_18_code 69 = .ok (.iastore, 1) := by decide +kernel
theorem d_Borders_insert_70 : decode prog_3_method_18_code 70 = .ok (.aload_n 0, 1) := by decide +kernel
theorem d_Borders_insert_71 : decode prog_3_method_18_code 71 = .ok (.dup, 1) := by decide +kernel
theorem d_Borders_insert_72 : decode prog_3_method_18_code 72 = .ok (.getfield 21, 3) := by decide +kernel
theorem d_Borders_insert_75 : decode prog_3_method_18_code 75 = .ok (.iconst 1, 1) := by decide +kernel
theorem d_Borders_insert_76 : decode prog_3_method_18_code 76 = .ok (.iadd, 1) := by decide +kernel
theorem d_Borders_insert_77 : decode prog_3_method_18_code 77 = .ok (.putfield 21, 3) := by decide +kernel
theorem d_Borders_insert_80 : decode prog_3_method_18_code 80 = .ok (.iload 4, 2) := by decide +kernel
theorem d_Borders_insert_82 : decode prog_3_method_18_code 82 = .ok (.ireturn, 1) := by decide +kernel
theorem d_Borders_stripOf_0 : decode prog_3_method_11_code 0 = .ok (.iconst 0, 1) := by decide +kernel
theorem d_Borders_stripOf_1 : decode prog_3_method_11_code 1 = .ok (.istore_n 2, 1) := by decide +kernel
theorem d_Borders_stripOf_2 : decode prog_3_method_11_code 2 = .ok (.iconst 0, 1) := by decide +kernel
theorem d_Borders_stripOf_3 : decode prog_3_method_11_code 3 = .ok (.istore_n 3, 1) := by decide +kernel
theorem d_Borders_stripOf_4 : decode prog_3_method_11_code 4 = .ok (.iload_n 3, 1) := by decide +kernel
theorem d_Borders_stripOf_5 : decode prog_3_method_11_code 5 = .ok (.aload_n 0, 1) := by decide +kernel
theorem d_Borders_stripOf_6 : decode prog_3_method_11_code 6 = .ok (.getfield 21, 3) := by decide +kernel
theorem d_Borders_stripOf_9 : decode prog_3_method_11_code 9 = .ok (.if_icmp .ge 22, 3) := by decide +kernel
theorem d_Borders_stripOf_12 : decode prog_3_method_11_code 12 = .ok (.aload_n 0, 1) := by decide +kernel
theorem d_Borders_stripOf_13 : decode prog_3_method_11_code 13 = .ok (.getfield 9, 3) := by decide +kernel
theorem d_Borders_stripOf_16 : decode prog_3_method_11_code 16 = .ok (.iload_n 3, 1) := by decide +kernel
theorem d_Borders_stripOf_17 : decode prog_3_method_11_code 17 = .ok (.iaload, 1) := by decide +kernel
theorem d_Borders_stripOf_18 : decode prog_3_method_11_code 18 = .ok (.iload_n 1, 1) := by decide +kernel
theorem d_Borders_stripOf_19 : decode prog_3_method_11_code 19 = .ok (.if_icmp .gt 6, 3) := by decide +kernel
theorem d_Borders_stripOf_22 : decode prog_3_method_11_code 22 = .ok (.iinc 2 1, 3) := by decide +kernel
theorem d_Borders_stripOf_25 : decode prog_3_method_11_code 25 = .ok (.iinc 3 1, 3) := by decide +kernel
theorem d_Borders_stripOf_28 : decode prog_3_method_11_code 28 = .ok (.goto (-24), 3) := by decide +kernel
theorem d_Borders_stripOf_31 : decode prog_3_method_11_code 31 = .ok (.iload_n 2, 1) := by decide +kernel
theorem d_Borders_stripOf_32 : decode prog_3_method_11_code 32 = .ok (.ireturn, 1) := by decide +kernel
theorem d_Borders_copyBorder_0 : decode prog_3_method_20_code 0 = .ok (.aload_n 0, 1) := by decide +kernel
theorem d_Borders_copyBorder_1 : decode prog_3_method_20_code 1 = .ok (.getfield 9, 3) := by decide +kernel
theorem d_Borders_copyBorder_4 : decode prog_3_method_20_code 4 = .ok (.iload_n 2, 1) := by decide +kernel
theorem d_Borders_copyBorder_5 : decode prog_3_method_20_code 5 = .ok (.aload_n 0, 1) := by decide +kernel
theorem d_Borders_copyBorder_6 : decode prog_3_method_20_code 6 = .ok (.getfield 9, 3) := by decide +kernel
theorem d_Borders_copyBorder_9 : decode prog_3_method_20_code 9 = .ok (.iload_n 1, 1) := by decide +kernel
theorem d_Borders_copyBorder_10 : decode prog_3_method_20_code 10 = .ok (.iaload, 1) := by decide +kernel
theorem d_Borders_copyBorder_11 : decode prog_3_method_20_code 11 = .ok (.iastore, 1) := by decide +kernel
theorem d_Borders_copyBorder_12 : decode prog_3_method_20_code 12 = .ok (.aload_n 0, 1) := by decide +kernel
theorem d_Borders_copyBorder_13 : decode prog_3_method_20_code 13 = .ok (.getfield 15, 3) := by decide +kernel
theorem d_Borders_copyBorder_16 : decode prog_3_method_20_code 16 = .ok (.iload_n 2, 1) := by decide +kernel
theorem d_Borders_copyBorder_17 : decode prog_3_method_20_code 17 = .ok (.aload_n 0, 1) := by decide +kernel
theorem d_Borders_copyBorder_18 : decode prog_3_method_20_code 18 = .ok (.getfield 15, 3) := by decide +kernel
theorem d_Borders_copyBorder_21 : decode prog_3_method_20_code 21 = .ok (.iload_n 1, 1) := by decide +kernel
theorem d_Borders_copyBorder_22 : decode prog_3_method_20_code 22 = .ok (.iaload, 1) := by decide +kernel
theorem d_Borders_copyBorder_23 : decode prog_3_method_20_code 23 = .ok (.iastore, 1) := by decide +kernel
theorem d_Borders_copyBorder_24 : decode prog_3_method_20_code 24 = .ok (.aload_n 0, 1) := by decide +kernel
theorem d_Borders_copyBorder_25 : decode prog_3_method_20_code 25 = .ok (.getfield 18, 3) := by decide +kernel
theorem d_Borders_copyBorder_28 : decode prog_3_method_20_code 28 = .ok (.iload_n 2, 1) := by decide +kernel
theorem d_Borders_copyBorder_29 : decode prog_3_method_20_code 29 = .ok (.aload_n 0, 1) := by decide +kernel
theorem d_Borders_copyBorder_30 : decode prog_3_method_20_code 30 = .ok (.getfield 18, 3) := by decide +kernel
theorem d_Borders_copyBorder_33 : decode prog_3_method_20_code 33 = .ok (.iload_n 1, 1) := by decide +kernel
theorem d_Borders_copyBorder_34 : decode prog_3_method_20_code 34 = .ok (.iaload, 1) := by decide +kernel
theorem d_Borders_copyBorder_35 : decode prog_3_method_20_code 35 = .ok (.iastore, 1) := by decide +kernel
theorem d_Borders_copyBorder_36 : decode prog_3_method_20_code 36 = .ok (.return_, 1) := by decide +kernel
theorem d_Table_copyStrip_0 : decode prog_7_method_16_code 0 = .ok (.iconst 0, 1) := by decide +kernel
theorem d_Table_copyStrip_1 : decode prog_7_method_16_code 1 = .ok (.istore 4, 2) := by decide +kernel
theorem d_Table_copyStrip_3 : decode prog_7_method_16_code 3 = .ok (.iload 4, 2) := by decide +kernel
theorem d_Table_copyStrip_5 : decode prog_7_method_16_code 5 = .ok (.bipush 7, 2) := by decide +kernel
theorem d_Table_copyStrip_7 : decode prog_7_method_16_code 7 = .ok (.if_icmp .ge 94, 3) := by decide +kernel
theorem d_Table_copyStrip_10 : decode prog_7_method_16_code 10 = .ok (.iload_n 1, 1) := by decide +kernel
theorem d_Table_copyStrip_11 : decode prog_7_method_16_code 11 = .ok (.ifCond .ne 12, 3) := by decide +kernel
theorem d_Table_copyStrip_14 : decode prog_7_method_16_code 14 = .ok (.iload_n 2, 1) := by decide +kernel
theorem d_Table_copyStrip_15 : decode prog_7_method_16_code 15 = .ok (.iload 4, 2) := by decide +kernel
theorem d_Table_copyStrip_17 : decode prog_7_method_16_code 17 = .ok (.invokestatic 49, 3) := by decide +kernel
theorem d_Table_copyStrip_20 : decode prog_7_method_16_code 20 = .ok (.goto 9, 3) := by decide +kernel
theorem d_Table_copyStrip_23 : decode prog_7_method_16_code 23 = .ok (.iload 4, 2) := by decide +kernel
theorem d_Table_copyStrip_25 : decode prog_7_method_16_code 25 = .ok (.iload_n 2, 1) := by decide +kernel
theorem d_Table_copyStrip_26 : decode prog_7_method_16_code 26 = .ok (.invokestatic 49, 3) := by decide +kernel
theorem d_Table_copyStrip_29 : decode prog_7_method_16_code 29 = .ok (.istore 5, 2) := by decide +kernel
theorem d_Table_copyStrip_31 : decode prog_7_method_16_code 31 = .ok (.iload_n 1, 1) := by decide +kernel
theorem d_Table_copyStrip_32 : decode prog_7_method_16_code 32 = .ok (.ifCond .ne 12, 3) := by decide +kernel
theorem d_Table_copyStrip_35 : decode prog_7_method_16_code 35 = .ok (.iload_n 3, 1) := by decide +kernel
theorem d_Table_copyStrip_36 : decode prog_7_method_16_code 36 = .ok (.iload 4, 2) := by decide +kernel
theorem d_Table_copyStrip_38 : decode prog_7_method_16_code 38 = .ok (.invokestatic 49, 3) := by decide +kernel
theorem d_Table_copyStrip_41 : decode prog_7_method_16_code 41 = .ok (.goto 9, 3) := by decide +kernel
theorem d_Table_copyStrip_44 : decode prog_7_method_16_code 44 = .ok (.iload 4, 2) := by decide +kernel
theorem d_Table_copyStrip_46 : decode prog_7_method_16_code 46 = .ok (.iload_n 3, 1) := by decide +kernel
theorem d_Table_copyStrip_47 : decode prog_7_method_16_code 47 = .ok (.invokestatic 49, 3) := by decide +kernel
theorem d_Table_copyStrip_50 : decode prog_7_method_16_code 50 = .ok (.istore 6, 2) := by decide +kernel
theorem d_Table_copyStrip_52 : decode prog_7_method_16_code 52 = .ok (.iconst 0, 1) := by decide +kernel
theorem d_Table_copyStrip_53 : decode prog_7_method_16_code 53 = .ok (.istore 7, 2) := by decide +kernel
theorem d_Table_copyStrip_55 : decode prog_7_method_16_code 55 = .ok (.iload 7, 2) := by decide +kernel
theorem d_Table_copyStrip_57 : decode prog_7_method_16_code 57 = .ok (.iconst 3, 1) := by decide +kernel
theorem d_Table_copyStrip_58 : decode prog_7_method_16_code 58 = .ok (.if_icmp .ge 25, 3) := by decide +kernel
theorem d_Table_copyStrip_61 : decode prog_7_method_16_code 61 = .ok (.aload_n 0, 1) := by decide +kernel
theorem d_Table_copyStrip_62 : decode prog_7_method_16_code 62 = .ok (.iload 6, 2) := by decide +kernel
theorem d_Table_copyStrip_64 : decode prog_7_method_16_code 64 = .ok (.iload 7, 2) := by decide +kernel
theorem d_Table_copyStrip_66 : decode prog_7_method_16_code 66 = .ok (.aload_n 0, 1) := by decide +kernel
theorem d_Table_copyStrip_67 : decode prog_7_method_16_code 67 = .ok (.iload 5, 2) := by decide +kernel
theorem d_Table_copyStrip_69 : decode prog_7_method_16_code 69 = .ok (.iload 7, 2) := by decide +kernel
theorem d_Table_copyStrip_71 : decode prog_7_method_16_code 71 = .ok (.invokevirtual 57, 3) := by decide +kernel
theorem d_Table_copyStrip_74 : decode prog_7_method_16_code 74 = .ok (.invokevirtual 90, 3) := by decide +kernel
theorem d_Table_copyStrip_77 : decode prog_7_method_16_code 77 = .ok (.iinc 7 1, 3) := by decide +kernel
theorem d_Table_copyStrip_80 : decode prog_7_method_16_code 80 = .ok (.goto (-25), 3) := by decide +kernel
theorem d_Table_copyStrip_83 : decode prog_7_method_16_code 83 = .ok (.aload_n 0, 1) := by decide +kernel
theorem d_Table_copyStrip_84 : decode prog_7_method_16_code 84 = .ok (.iload 6, 2) := by decide +kernel
theorem d_Table_copyStrip_86 : decode prog_7_method_16_code 86 = .ok (.aload_n 0, 1) := by decide +kernel
theorem d_Table_copyStrip_87 : decode prog_7_method_16_code 87 = .ok (.iload 5, 2) := by decide +kernel
theorem d_Table_copyStrip_89 : decode prog_7_method_16_code 89 = .ok (.invokevirtual 53, 3) := by decide +kernel
theorem d_Table_copyStrip_92 : decode prog_7_method_16_code 92 = .ok (.invokevirtual 93, 3) := by decide +kernel
theorem d_Table_copyStrip_95 : decode prog_7_method_16_code 95 = .ok (.iinc 4 1, 3) := by decide +kernel
theorem d_Table_copyStrip_98 : decode prog_7_method_16_code 98 = .ok (.goto (-95), 3) := by decide +kernel
theorem d_Table_copyStrip_101 : decode prog_7_method_16_code 101 = .ok (.return_, 1) := by decide +kernel
theorem d_Table_putGain_0 : decode prog_7_method_8_code 0 = .ok (.iload_n 1, 1) := by decide +kernel
theorem d_Table_putGain_1 : decode prog_7_method_8_code 1 = .ok (.iconst 3, 1) := by decide +kernel
theorem d_Table_putGain_2 : decode prog_7_method_8_code 2 = .ok (.imul, 1) := by decide +kernel
theorem d_Table_putGain_3 : decode prog_7_method_8_code 3 = .ok (.iload_n 2, 1) := by decide +kernel
theorem d_Table_putGain_4 : decode prog_7_method_8_code 4 = .ok (.iadd, 1) := by decide +kernel
theorem d_Table_putGain_5 : decode prog_7_method_8_code 5 = .ok (.istore 4, 2) := by decide +kernel
theorem d_Table_putGain_7 : decode prog_7_method_8_code 7 = .ok (.iload 4, 2) := by decide +kernel
theorem d_Table_putGain_9 : decode prog_7_method_8_code 9 = .ok (.ifCond .lt 21, 3) := by decide +kernel
theorem d_Table_putGain_12 : decode prog_7_method_8_code 12 = .ok (.iload 4, 2) := by decide +kernel
theorem d_Table_putGain_14 : decode prog_7_method_8_code 14 = .ok (.aload_n 0, 1) := by decide +kernel
theorem d_Table_putGain_15 : decode prog_7_method_8_code 15 = .ok (.getfield 21, 3) := by decide +kernel
theorem d_Table_putGain_18 : decode prog_7_method_8_code 18 = .ok (.arraylength, 1) := by decide +kernel
theorem d_Table_putGain_19 : decode prog_7_method_8_code 19 = .ok (.if_icmp .ge 11, 3) := by decide +kernel
theorem d_Table_putGain_22 : decode prog_7_method_8_code 22 = .ok (.aload_n 0, 1) := by decide +kernel
theorem d_Table_putGain_23 : decode prog_7_method_8_code 23 = .ok (.getfield 21, 3) := by decide +kernel
theorem d_Table_putGain_26 : decode prog_7_method_8_code 26 = .ok (.iload 4, 2) := by decide +kernel
theorem d_Table_putGain_28 : decode prog_7_method_8_code 28 = .ok (.iload_n 3, 1) := by decide +kernel
theorem d_Table_putGain_29 : decode prog_7_method_8_code 29 = .ok (.iastore, 1) := by decide +kernel
theorem d_Table_putGain_30 : decode prog_7_method_8_code 30 = .ok (.return_, 1) := by decide +kernel
theorem d_Table_lockAt_0 : decode prog_7_method_9_code 0 = .ok (.iload_n 1, 1) := by decide +kernel
theorem d_Table_lockAt_1 : decode prog_7_method_9_code 1 = .ok (.ifCond .lt 21, 3) := by decide +kernel
theorem d_Table_lockAt_4 : decode prog_7_method_9_code 4 = .ok (.iload_n 1, 1) := by decide +kernel
theorem d_Table_lockAt_5 : decode prog_7_method_9_code 5 = .ok (.aload_n 0, 1) := by decide +kernel
theorem d_Table_lockAt_6 : decode prog_7_method_9_code 6 = .ok (.getfield 25, 3) := by decide +kernel
theorem d_Table_lockAt_9 : decode prog_7_method_9_code 9 = .ok (.arraylength, 1) := by decide +kernel
theorem d_Table_lockAt_10 : decode prog_7_method_9_code 10 = .ok (.if_icmp .ge 12, 3) := by decide +kernel
theorem d_Table_lockAt_13 : decode prog_7_method_9_code 13 = .ok (.aload_n 0, 1) := by decide +kernel
theorem d_Table_lockAt_14 : decode prog_7_method_9_code 14 = .ok (.getfield 25, 3) := by decide +kernel
theorem d_Table_lockAt_17 : decode prog_7_method_9_code 17 = .ok (.iload_n 1, 1) := by decide +kernel
theorem d_Table_lockAt_18 : decode prog_7_method_9_code 18 = .ok (.iaload, 1) := by decide +kernel
theorem d_Table_lockAt_19 : decode prog_7_method_9_code 19 = .ok (.goto 5, 3) := by decide +kernel
theorem d_Table_lockAt_22 : decode prog_7_method_9_code 22 = .ok (.ldc 28, 2) := by decide +kernel
theorem d_Table_lockAt_24 : decode prog_7_method_9_code 24 = .ok (.ireturn, 1) := by decide +kernel
theorem d_Table_putLock_0 : decode prog_7_method_10_code 0 = .ok (.iload_n 1, 1) := by decide +kernel
theorem d_Table_putLock_1 : decode prog_7_method_10_code 1 = .ok (.ifCond .lt 19, 3) := by decide +kernel
theorem d_Table_putLock_4 : decode prog_7_method_10_code 4 = .ok (.iload_n 1, 1) := by decide +kernel
theorem d_Table_putLock_5 : decode prog_7_method_10_code 5 = .ok (.aload_n 0, 1) := by decide +kernel
theorem d_Table_putLock_6 : decode prog_7_method_10_code 6 = .ok (.getfield 25, 3) := by decide +kernel
theorem d_Table_putLock_9 : decode prog_7_method_10_code 9 = .ok (.arraylength, 1) := by decide +kernel
theorem d_Table_putLock_10 : decode prog_7_method_10_code 10 = .ok (.if_icmp .ge 10, 3) := by decide +kernel
theorem d_Table_putLock_13 : decode prog_7_method_10_code 13 = .ok (.aload_n 0, 1) := by decide +kernel
theorem d_Table_putLock_14 : decode prog_7_method_10_code 14 = .ok (.getfield 25, 3) := by decide +kernel
theorem d_Table_putLock_17 : decode prog_7_method_10_code 17 = .ok (.iload_n 1, 1) := by decide +kernel
theorem d_Table_putLock_18 : decode prog_7_method_10_code 18 = .ok (.iload_n 2, 1) := by decide +kernel
theorem d_Table_putLock_19 : decode prog_7_method_10_code 19 = .ok (.iastore, 1) := by decide +kernel
theorem d_Table_putLock_20 : decode prog_7_method_10_code 20 = .ok (.return_, 1) := by decide +kernel
theorem d_State_settleTable_0 : decode prog_6_method_7_code 0 = .ok (.aload_n 0, 1) := by decide +kernel
theorem d_State_settleTable_1 : decode prog_6_method_7_code 1 = .ok (.getfield 54, 3) := by decide +kernel
theorem d_State_settleTable_4 : decode prog_6_method_7_code 4 = .ok (.iconst 3, 1) := by decide +kernel
theorem d_State_settleTable_5 : decode prog_6_method_7_code 5 = .ok (.dup2, 1) := by decide +kernel
theorem d_State_settleTable_6 : decode prog_6_method_7_code 6 = .ok (.iaload, 1) := by decide +kernel
theorem d_State_settleTable_7 : decode prog_6_method_7_code 7 = .ok (.aload_n 0, 1) := by decide +kernel
theorem d_State_settleTable_8 : decode prog_6_method_7_code 8 = .ok (.getfield 12, 3) := by decide +kernel
theorem d_State_settleTable_11 : decode prog_6_method_7_code 11 = .ok (.invokevirtual 99, 3) := by decide +kernel
theorem d_State_settleTable_14 : decode prog_6_method_7_code 14 = .ok (.iload_n 1, 1) := by decide +kernel
theorem d_State_settleTable_15 : decode prog_6_method_7_code 15 = .ok (.isub, 1) := by decide +kernel
theorem d_State_settleTable_16 : decode prog_6_method_7_code 16 = .ok (.iadd, 1) := by decide +kernel
theorem d_State_settleTable_17 : decode prog_6_method_7_code 17 = .ok (.iastore, 1) := by decide +kernel
theorem d_State_settleTable_18 : decode prog_6_method_7_code 18 = .ok (.aload_n 0, 1) := by decide +kernel
theorem d_State_settleTable_19 : decode prog_6_method_7_code 19 = .ok (.invokevirtual 103, 3) := by decide +kernel
theorem d_State_settleTable_22 : decode prog_6_method_7_code 22 = .ok (.return_, 1) := by decide +kernel
theorem d_State_findZones_0 : decode prog_6_method_6_code 0 = .ok (.aload_n 0, 1) := by decide +kernel
theorem d_State_findZones_1 : decode prog_6_method_6_code 1 = .ok (.getfield 35, 3) := by decide +kernel
theorem d_State_findZones_4 : decode prog_6_method_6_code 4 = .ok (.iconst 0, 1) := by decide +kernel
theorem d_State_findZones_5 : decode prog_6_method_6_code 5 = .ok (.aload_n 0, 1) := by decide +kernel
theorem d_State_findZones_6 : decode prog_6_method_6_code 6 = .ok (.getfield 12, 3) := by decide +kernel
theorem d_State_findZones_9 : decode prog_6_method_6_code 9 = .ok (.getfield 86, 3) := by decide +kernel
theorem d_State_findZones_12 : decode prog_6_method_6_code 12 = .ok (.aload_n 0, 1) := by decide +kernel
theorem d_State_findZones_13 : decode prog_6_method_6_code 13 = .ok (.getfield 31, 3) := by decide +kernel
theorem d_State_findZones_16 : decode prog_6_method_6_code 16 = .ok (.iconst 0, 1) := by decide +kernel
theorem d_State_findZones_17 : decode prog_6_method_6_code 17 = .ok (.iaload, 1) := by decide +kernel
theorem d_State_findZones_18 : decode prog_6_method_6_code 18 = .ok (.invokevirtual 90, 3) := by decide +kernel
theorem d_State_findZones_21 : decode prog_6_method_6_code 21 = .ok (.iastore, 1) := by decide +kernel
theorem d_State_findZones_22 : decode prog_6_method_6_code 22 = .ok (.aload_n 0, 1) := by decide +kernel
theorem d_State_findZones_23 : decode prog_6_method_6_code 23 = .ok (.getfield 35, 3) := by decide +kernel
theorem d_State_findZones_26 : decode prog_6_method_6_code 26 = .ok (.iconst 1, 1) := by decide +kernel
theorem d_State_findZones_27 : decode prog_6_method_6_code 27 = .ok (.aload_n 0, 1) := by decide +kernel
theorem d_State_findZones_28 : decode prog_6_method_6_code 28 = .ok (.getfield 12, 3) := by decide +kernel
theorem d_State_findZones_31 : decode prog_6_method_6_code 31 = .ok (.getfield 96, 3) := by decide +kernel
theorem d_State_findZones_34 : decode prog_6_method_6_code 34 = .ok (.aload_n 0, 1) := by decide +kernel
theorem d_State_findZones_35 : decode prog_6_method_6_code 35 = .ok (.getfield 31, 3) := by decide +kernel
theorem d_State_findZones_38 : decode prog_6_method_6_code 38 = .ok (.iconst 1, 1) := by decide +kernel
theorem d_State_findZones_39 : decode prog_6_method_6_code 39 = .ok (.iaload, 1) := by decide +kernel
theorem d_State_findZones_40 : decode prog_6_method_6_code 40 = .ok (.invokevirtual 90, 3) := by decide +kernel
theorem d_State_findZones_43 : decode prog_6_method_6_code 43 = .ok (.iastore, 1) := by decide +kernel
theorem d_State_findZones_44 : decode prog_6_method_6_code 44 = .ok (.return_, 1) := by decide +kernel
theorem d_Borders_zoneOf_0 : decode prog_3_method_13_code 0 = .ok (.iconst 0, 1) := by decide +kernel
theorem d_Borders_zoneOf_1 : decode prog_3_method_13_code 1 = .ok (.istore_n 2, 1) := by decide +kernel
theorem d_Borders_zoneOf_2 : decode prog_3_method_13_code 2 = .ok (.iconst 0, 1) := by decide +kernel
theorem d_Borders_zoneOf_3 : decode prog_3_method_13_code 3 = .ok (.istore_n 3, 1) := by decide +kernel
theorem d_Borders_zoneOf_4 : decode prog_3_method_13_code 4 = .ok (.iload_n 3, 1) := by decide +kernel
theorem d_Borders_zoneOf_5 : decode prog_3_method_13_code 5 = .ok (.aload_n 0, 1) := by decide +kernel
theorem d_Borders_zoneOf_6 : decode prog_3_method_13_code 6 = .ok (.getfield 21, 3) := by decide +kernel
theorem d_Borders_zoneOf_9 : decode prog_3_method_13_code 9 = .ok (.if_icmp .ge 31, 3) := by decide +kernel
theorem d_Borders_zoneOf_12 : decode prog_3_method_13_code 12 = .ok (.aload_n 0, 1) := by decide +kernel
theorem d_Borders_zoneOf_13 : decode prog_3_method_13_code 13 = .ok (.getfield 15, 3) := by decide +kernel
theorem d_Borders_zoneOf_16 : decode prog_3_method_13_code 16 = .ok (.iload_n 3, 1) := by decide +kernel
theorem d_Borders_zoneOf_17 : decode prog_3_method_13_code 17 = .ok (.iaload, 1) := by decide +kernel
theorem d_Borders_zoneOf_18 : decode prog_3_method_13_code 18 = .ok (.ifCond .ne 16, 3) := by decide +kernel
theorem d_Borders_zoneOf_21 : decode prog_3_method_13_code 21 = .ok (.aload_n 0, 1) := by decide +kernel
theorem d_Borders_zoneOf_22 : decode prog_3_method_13_code 22 = .ok (.getfield 9, 3) := by decide +kernel
theorem d_Borders_zoneOf_25 : decode prog_3_method_13_code 25 = .ok (.iload_n 3, 1) := by decide +kernel
theorem d_Borders_zoneOf_26 : decode prog_3_method_13_code 26 = .ok (.iaload, 1) := by decide +kernel
theorem d_Borders_zoneOf_27 : decode prog_3_method_13_code 27 = .ok (.iload_n 1, 1) := by decide +kernel
theorem d_Borders_zoneOf_28 : decode prog_3_method_13_code 28 = .ok (.if_icmp .gt 6, 3) := by decide +kernel
theorem d_Borders_zoneOf_31 : decode prog_3_method_13_code 31 = .ok (.iinc 2 1, 3) := by decide +kernel
theorem d_Borders_zoneOf_34 : decode prog_3_method_13_code 34 = .ok (.iinc 3 1, 3) := by decide +kernel
theorem d_Borders_zoneOf_37 : decode prog_3_method_13_code 37 = .ok (.goto (-33), 3) := by decide +kernel
theorem d_Borders_zoneOf_40 : decode prog_3_method_13_code 40 = .ok (.iload_n 2, 1) := by decide +kernel
theorem d_Borders_zoneOf_41 : decode prog_3_method_13_code 41 = .ok (.ireturn, 1) := by decide +kernel
theorem d_GT_removeBorder_0 : decode prog_1_method_3_code 0 = .ok (.aload_n 0, 1) := by decide +kernel
theorem d_GT_removeBorder_1 : decode prog_1_method_3_code 1 = .ok (.iload_n 1, 1) := by decide +kernel
theorem d_GT_removeBorder_2 : decode prog_1_method_3_code 2 = .ok (.iload_n 2, 1) := by decide +kernel
theorem d_GT_removeBorder_3 : decode prog_1_method_3_code 3 = .ok (.invokevirtual 109, 3) := by decide +kernel
theorem d_GT_removeBorder_6 : decode prog_1_method_3_code 6 = .ok (.ifCond .ne 6, 3) := by decide +kernel
theorem d_GT_removeBorder_9 : decode prog_1_method_3_code 9 = .ok (.ldc 76, 2) := by decide +kernel
theorem d_GT_removeBorder_11 : decode prog_1_method_3_code 11 = .ok (.ireturn, 1) := by decide +kernel
theorem d_GT_removeBorder_12 : decode prog_1_method_3_code 12 = .ok (.aload_n 0, 1) := by decide +kernel
theorem d_GT_removeBorder_13 : decode prog_1_method_3_code 13 = .ok (.getfield 19, 3) := by decide +kernel
theorem d_GT_removeBorder_16 : decode prog_1_method_3_code 16 = .ok (.aload_n 0, 1) := by decide +kernel
theorem d_GT_removeBorder_17 : decode prog_1_method_3_code 17 = .ok (.getfield 12, 3) := by decide +kernel
theorem d_GT_removeBorder_20 : decode prog_1_method_3_code 20 = .ok (.invokevirtual 93, 3) := by decide +kernel
theorem d_GT_removeBorder_23 : decode prog_1_method_3_code 23 = .ok (.aload_n 0, 1) := by decide +kernel
theorem d_GT_removeBorder_24 : decode prog_1_method_3_code 24 = .ok (.getfield 12, 3) := by decide +kernel
theorem d_GT_removeBorder_27 : decode prog_1_method_3_code 27 = .ok (.getfield 77, 3) := by decide +kernel
theorem d_GT_removeBorder_30 : decode prog_1_method_3_code 30 = .ok (.invokevirtual 97, 3) := by decide +kernel
theorem d_GT_removeBorder_33 : decode prog_1_method_3_code 33 = .ok (.istore_n 3, 1) := by decide +kernel
theorem d_GT_removeBorder_34 : decode prog_1_method_3_code 34 = .ok (.aload_n 0, 1) := by decide +kernel
theorem d_GT_removeBorder_35 : decode prog_1_method_3_code 35 = .ok (.getfield 12, 3) := by decide +kernel
theorem d_GT_removeBorder_38 : decode prog_1_method_3_code 38 = .ok (.getfield 77, 3) := by decide +kernel
theorem d_GT_removeBorder_41 : decode prog_1_method_3_code 41 = .ok (.iload_n 1, 1) := by decide +kernel
theorem d_GT_removeBorder_42 : decode prog_1_method_3_code 42 = .ok (.iload_n 2, 1) := by decide +kernel
theorem d_GT_removeBorder_43 : decode prog_1_method_3_code 43 = .ok (.invokevirtual 112, 3) := by decide +kernel
theorem d_GT_removeBorder_46 : decode prog_1_method_3_code 46 = .ok (.aload_n 0, 1) := by decide +kernel
theorem d_GT_removeBorder_47 : decode prog_1_method_3_code 47 = .ok (.getfield 12, 3) := by decide +kernel
theorem d_GT_removeBorder_50 : decode prog_1_method_3_code 50 = .ok (.iload_n 3, 1) := by decide +kernel
theorem d_GT_removeBorder_51 : decode prog_1_method_3_code 51 = .ok (.invokevirtual 105, 3) := by decide +kernel
theorem d_GT_removeBorder_54 : decode prog_1_method_3_code 54 = .ok (.aload_n 0, 1) := by decide +kernel
theorem d_GT_removeBorder_55 : decode prog_1_method_3_code 55 = .ok (.getfield 12, 3) := by decide +kernel
theorem d_GT_removeBorder_58 : decode prog_1_method_3_code 58 = .ok (.getfield 77, 3) := by decide +kernel
theorem d_GT_removeBorder_61 : decode prog_1_method_3_code 61 = .ok (.iload_n 1, 1) := by decide +kernel
theorem d_GT_removeBorder_62 : decode prog_1_method_3_code 62 = .ok (.invokevirtual 80, 3) := by decide +kernel
theorem d_GT_removeBorder_65 : decode prog_1_method_3_code 65 = .ok (.getfield 116, 3) := by decide +kernel
theorem d_GT_removeBorder_68 : decode prog_1_method_3_code 68 = .ok (.ireturn, 1) := by decide +kernel
theorem d_GT_isBorder_0 : decode prog_1_method_40_code 0 = .ok (.iload_n 1, 1) := by decide +kernel
theorem d_GT_isBorder_1 : decode prog_1_method_40_code 1 = .ok (.invokestatic 61, 3) := by decide +kernel
theorem d_GT_isBorder_4 : decode prog_1_method_40_code 4 = .ok (.ifCond .eq 25, 3) := by decide +kernel
theorem d_GT_isBorder_7 : decode prog_1_method_40_code 7 = .ok (.aload_n 0, 1) := by decide +kernel
theorem d_GT_isBorder_8 : decode prog_1_method_40_code 8 = .ok (.getfield 12, 3) := by decide +kernel
theorem d_GT_isBorder_11 : decode prog_1_method_40_code 11 = .ok (.getfield 77, 3) := by decide +kernel
theorem d_GT_isBorder_14 : decode prog_1_method_40_code 14 = .ok (.iload_n 1, 1) := by decide +kernel
theorem d_GT_isBorder_15 : decode prog_1_method_40_code 15 = .ok (.invokevirtual 80, 3) := by decide +kernel
theorem d_GT_isBorder_18 : decode prog_1_method_40_code 18 = .ok (.iload_n 2, 1) := by decide +kernel
theorem d_GT_isBorder_19 : decode prog_1_method_40_code 19 = .ok (.invokevirtual 283, 3) := by decide +kernel
theorem d_GT_isBorder_22 : decode prog_1_method_40_code 22 = .ok (.ifCond .eq 7, 3) := by decide +kernel
theorem d_GT_isBorder_25 : decode prog_1_method_40_code 25 = .ok (.iconst 1, 1) := by decide +kernel
theorem d_GT_isBorder_26 : decode prog_1_method_40_code 26 = .ok (.goto 4, 3) := by decide +kernel
theorem d_GT_isBorder_29 : decode prog_1_method_40_code 29 = .ok (.iconst 0, 1) := by decide +kernel
theorem d_GT_isBorder_30 : decode prog_1_method_40_code 30 = .ok (.ireturn, 1) := by decide +kernel
theorem d_Borders_has_0 : decode prog_3_method_3_code 0 = .ok (.iload_n 1, 1) := by decide +kernel
theorem d_Borders_has_1 : decode prog_3_method_3_code 1 = .ok (.ifCond .lt 15, 3) := by decide +kernel
theorem d_Borders_has_4 : decode prog_3_method_3_code 4 = .ok (.iload_n 1, 1) := by decide +kernel
theorem d_Borders_has_5 : decode prog_3_method_3_code 5 = .ok (.aload_n 0, 1) := by decide +kernel
theorem d_Borders_has_6 : decode prog_3_method_3_code 6 = .ok (.getfield 21, 3) := by decide +kernel
theorem d_Borders_has_9 : decode prog_3_method_3_code 9 = .ok (.if_icmp .ge 7, 3) := by decide +kernel
theorem d_Borders_has_12 : decode prog_3_method_3_code 12 = .ok (.iconst 1, 1) := by decide +kernel
theorem d_Borders_has_13 : decode prog_3_method_3_code 13 = .ok (.goto 4, 3) := by decide +kernel
theorem d_Borders_has_16 : decode prog_3_method_3_code 16 = .ok (.iconst 0, 1) := by decide +kernel
theorem d_Borders_has_17 : decode prog_3_method_3_code 17 = .ok (.ireturn, 1) := by decide +kernel
theorem d_Table_mergeAt_0 : decode prog_7_method_15_code 0 = .ok (.aload_n 0, 1) := by decide +kernel
theorem d_Table_mergeAt_1 : decode prog_7_method_15_code 1 = .ok (.iload_n 1, 1) := by decide +kernel
theorem d_Table_mergeAt_2 : decode prog_7_method_15_code 2 = .ok (.invokevirtual 74, 3) := by decide +kernel
theorem d_Table_mergeAt_5 : decode prog_7_method_15_code 5 = .ok (.astore_n 3, 1) := by decide +kernel
theorem d_Table_mergeAt_6 : decode prog_7_method_15_code 6 = .ok (.iload_n 2, 1) := by decide +kernel
theorem d_Table_mergeAt_7 : decode prog_7_method_15_code 7 = .ok (.iconst 2, 1) := by decide +kernel
theorem d_Table_mergeAt_8 : decode prog_7_method_15_code 8 = .ok (.iadd, 1) := by decide +kernel
theorem d_Table_mergeAt_9 : decode prog_7_method_15_code 9 = .ok (.istore 4, 2) := by decide +kernel
theorem d_Table_mergeAt_11 : decode prog_7_method_15_code 11 = .ok (.iload 4, 2) := by decide +kernel
theorem d_Table_mergeAt_13 : decode prog_7_method_15_code 13 = .ok (.aload_n 3, 1) := by decide +kernel
theorem d_Table_mergeAt_14 : decode prog_7_method_15_code 14 = .ok (.getfield 35, 3) := by decide +kernel
theorem d_Table_mergeAt_17 : decode prog_7_method_15_code 17 = .ok (.if_icmp .gt 20, 3) := by decide +kernel
theorem d_Table_mergeAt_20 : decode prog_7_method_15_code 20 = .ok (.aload_n 0, 1) := by decide +kernel
theorem d_Table_mergeAt_21 : decode prog_7_method_15_code 21 = .ok (.iload_n 1, 1) := by decide +kernel
theorem d_Table_mergeAt_22 : decode prog_7_method_15_code 22 = .ok (.iload 4, 2) := by decide +kernel
theorem d_Table_mergeAt_24 : decode prog_7_method_15_code 24 = .ok (.iload 4, 2) := by decide +kernel
theorem d_Table_mergeAt_26 : decode prog_7_method_15_code 26 = .ok (.iconst 1, 1) := by decide +kernel
theorem d_Table_mergeAt_27 : decode prog_7_method_15_code 27 = .ok (.isub, 1) := by decide +kernel
theorem d_Table_mergeAt_28 : decode prog_7_method_15_code 28 = .ok (.invokevirtual 82, 3) := by decide +kernel
theorem d_Table_mergeAt_31 : decode prog_7_method_15_code 31 = .ok (.iinc 4 1, 3) := by decide +kernel
theorem d_Table_mergeAt_34 : decode prog_7_method_15_code 34 = .ok (.goto (-23), 3) := by decide +kernel
theorem d_Table_mergeAt_37 : decode prog_7_method_15_code 37 = .ok (.aload_n 3, 1) := by decide +kernel
theorem d_Table_mergeAt_38 : decode prog_7_method_15_code 38 = .ok (.iload_n 2, 1) := by decide +kernel
theorem d_Table_mergeAt_39 : decode prog_7_method_15_code 39 = .ok (.invokevirtual 86, 3) := by decide +kernel
theorem d_Table_mergeAt_42 : decode prog_7_method_15_code 42 = .ok (.return_, 1) := by decide +kernel
theorem d_Borders_delete_0 : decode prog_3_method_19_code 0 = .ok (.aload_n 0, 1) := by decide +kernel
theorem d_Borders_delete_1 : decode prog_3_method_19_code 1 = .ok (.iload_n 1, 1) := by decide +kernel
theorem d_Borders_delete_2 : decode prog_3_method_19_code 2 = .ok (.invokevirtual 31, 3) := by decide +kernel
theorem d_Borders_delete_5 : decode prog_3_method_19_code 5 = .ok (.ifCond .ne 4, 3) := by decide +kernel
theorem d_Borders_delete_8 : decode prog_3_method_19_code 8 = .ok (.return_, 1) := by decide +kernel
theorem d_Borders_delete_9 : decode prog_3_method_19_code 9 = .ok (.iload_n 1, 1) := by decide +kernel
theorem d_Borders_delete_10 : decode prog_3_method_19_code 10 = .ok (.iconst 1, 1) := by decide +kernel
theorem d_Borders_delete_11 : decode prog_3_method_19_code 11 = .ok (.iadd, 1) := by decide +kernel
theorem d_Borders_delete_12 : decode prog_3_method_19_code 12 = .ok (.istore_n 2, 1) := by decide +kernel
theorem d_Borders_delete_13 : decode prog_3_method_19_code 13 = .ok (.iload_n 2, 1) := by decide +kernel
theorem d_Borders_delete_14 : decode prog_3_method_19_code 14 = .ok (.aload_n 0, 1) := by decide +kernel
theorem d_Borders_delete_15 : decode prog_3_method_19_code 15 = .ok (.getfield 21, 3) := by decide +kernel
theorem d_Borders_delete_18 : decode prog_3_method_19_code 18 = .ok (.if_icmp .ge 17, 3) := by decide +kernel
theorem d_Borders_delete_21 : decode prog_3_method_19_code 21 = .ok (.aload_n 0, 1) := by decide +kernel
theorem d_Borders_delete_22 : decode prog_3_method_19_code 22 = .ok (.iload_n 2, 1) := by decide +kernel
theorem d_Borders_delete_23 : decode prog_3_method_19_code 23 = .ok (.iload_n 2, 1) := by decide +kernel
theorem d_Borders_delete_24 : decode prog_3_method_19_code 24 = .ok (.iconst 1, 1) := by decide +kernel
theorem d_Borders_delete_25 : decode prog_3_method_19_code 25 = .ok (.isub, 1) := by decide +kernel
theorem d_Borders_delete_26 : decode prog_3_method_19_code 26 = .ok (.invokevirtual 58, 3) := by decide +kernel
theorem d_Borders_delete_29 : decode prog_3_method_19_code 29 = .ok (.iinc 2 1, 3) := by decide +kernel
theorem d_Borders_delete_32 : decode prog_3_method_19_code 32 = .ok (.goto (-19), 3) := by decide +kernel
theorem d_Borders_delete_35 : decode prog_3_method_19_code 35 = .ok (.aload_n 0, 1) := by decide +kernel
theorem d_Borders_delete_36 : decode prog_3_method_19_code 36 = .ok (.dup, 1) := by decide +kernel
theorem d_Borders_delete_37 : decode prog_3_method_19_code 37 = .ok (.getfield 21, 3) := by decide +kernel
theorem d_Borders_delete_40 : decode prog_3_method_19_code 40 = .ok (.iconst 1, 1) := by decide +kernel
theorem d_Borders_delete_41 : decode prog_3_method_19_code 41 = .ok (.isub, 1) := by decide +kernel
theorem d_Borders_delete_42 : decode prog_3_method_19_code 42 = .ok (.putfield 21, 3) := by decide +kernel
theorem d_Borders_delete_45 : decode prog_3_method_19_code 45 = .ok (.return_, 1) := by decide +kernel
theorem d_GT_setReach_0 : decode prog_1_method_4_code 0 = .ok (.aload_n 0, 1) := by decide +kernel
theorem d_GT_setReach_1 : decode prog_1_method_4_code 1 = .ok (.iload_n 1, 1) := by decide +kernel
theorem d_GT_setReach_2 : decode prog_1_method_4_code 2 = .ok (.iload_n 2, 1) := by decide +kernel
theorem d_GT_setReach_3 : decode prog_1_method_4_code 3 = .ok (.invokevirtual 109, 3) := by decide +kernel
theorem d_GT_setReach_6 : decode prog_1_method_4_code 6 = .ok (.ifCond .ne 6, 3) := by decide +kernel
theorem d_GT_setReach_9 : decode prog_1_method_4_code 9 = .ok (.ldc 76, 2) := by decide +kernel
theorem d_GT_setReach_11 : decode prog_1_method_4_code 11 = .ok (.ireturn, 1) := by decide +kernel
theorem d_GT_setReach_12 : decode prog_1_method_4_code 12 = .ok (.aload_n 0, 1) := by decide +kernel
theorem d_GT_setReach_13 : decode prog_1_method_4_code 13 = .ok (.getfield 12, 3) := by decide +kernel
theorem d_GT_setReach_16 : decode prog_1_method_4_code 16 = .ok (.getfield 77, 3) := by decide +kernel
theorem d_GT_setReach_19 : decode prog_1_method_4_code 19 = .ok (.iload_n 1, 1) := by decide +kernel
theorem d_GT_setReach_20 : decode prog_1_method_4_code 20 = .ok (.invokevirtual 80, 3) := by decide +kernel
theorem d_GT_setReach_23 : decode prog_1_method_4_code 23 = .ok (.astore 4, 2) := by decide +kernel
theorem d_GT_setReach_25 : decode prog_1_method_4_code 25 = .ok (.aload 4, 2) := by decide +kernel
theorem d_GT_setReach_27 : decode prog_1_method_4_code 27 = .ok (.iload_n 2, 1) := by decide +kernel
theorem d_GT_setReach_28 : decode prog_1_method_4_code 28 = .ok (.invokevirtual 120, 3) := by decide +kernel
theorem d_GT_setReach_31 : decode prog_1_method_4_code 31 = .ok (.istore 5, 2) := by decide +kernel
theorem d_GT_setReach_33 : decode prog_1_method_4_code 33 = .ok (.aload 4, 2) := by decide +kernel
theorem d_GT_setReach_35 : decode prog_1_method_4_code 35 = .ok (.iload_n 2, 1) := by decide +kernel
theorem d_GT_setReach_36 : decode prog_1_method_4_code 36 = .ok (.invokevirtual 124, 3) := by decide +kernel
theorem d_GT_setReach_39 : decode prog_1_method_4_code 39 = .ok (.iload_n 3, 1) := by decide +kernel
theorem d_GT_setReach_40 : decode prog_1_method_4_code 40 = .ok (.invokestatic 69, 3) := by decide +kernel
theorem d_GT_setReach_43 : decode prog_1_method_4_code 43 = .ok (.ifCond .eq 12, 3) := by decide +kernel
theorem d_GT_setReach_46 : decode prog_1_method_4_code 46 = .ok (.iload 5, 2) := by decide +kernel
theorem d_GT_setReach_48 : decode prog_1_method_4_code 48 = .ok (.iload_n 3, 1) := by decide +kernel
theorem d_GT_setReach_49 : decode prog_1_method_4_code 49 = .ok (.invokestatic 73, 3) := by decide +kernel
theorem d_GT_setReach_52 : decode prog_1_method_4_code 52 = .ok (.ifCond .ne 6, 3) := by decide +kernel
theorem d_GT_setReach_55 : decode prog_1_method_4_code 55 = .ok (.ldc 76, 2) := by decide +kernel
theorem d_GT_setReach_57 : decode prog_1_method_4_code 57 = .ok (.ireturn, 1) := by decide +kernel
theorem d_GT_setReach_58 : decode prog_1_method_4_code 58 = .ok (.aload 4, 2) := by decide +kernel
theorem d_GT_setReach_60 : decode prog_1_method_4_code 60 = .ok (.iload 5, 2) := by decide +kernel
theorem d_GT_setReach_62 : decode prog_1_method_4_code 62 = .ok (.iload_n 3, 1) := by decide +kernel
theorem d_GT_setReach_63 : decode prog_1_method_4_code 63 = .ok (.iload_n 2, 1) := by decide +kernel
theorem d_GT_setReach_64 : decode prog_1_method_4_code 64 = .ok (.invokevirtual 84, 3) := by decide +kernel
theorem d_GT_setReach_67 : decode prog_1_method_4_code 67 = .ok (.ifCond .ne 6, 3) := by decide +kernel
theorem d_GT_setReach_70 : decode prog_1_method_4_code 70 = .ok (.ldc 87, 2) := by decide +kernel
theorem d_GT_setReach_72 : decode prog_1_method_4_code 72 = .ok (.ireturn, 1) := by decide +kernel
theorem d_GT_setReach_73 : decode prog_1_method_4_code 73 = .ok (.aload_n 0, 1) := by decide +kernel
theorem d_GT_setReach_74 : decode prog_1_method_4_code 74 = .ok (.getfield 19, 3) := by decide +kernel
theorem d_GT_setReach_77 : decode prog_1_method_4_code 77 = .ok (.aload_n 0, 1) := by decide +kernel
theorem d_GT_setReach_78 : decode prog_1_method_4_code 78 = .ok (.getfield 12, 3) := by decide +kernel
theorem d_GT_setReach_81 : decode prog_1_method_4_code 81 = .ok (.invokevirtual 93, 3) := by decide +kernel
theorem d_GT_setReach_84 : decode prog_1_method_4_code 84 = .ok (.aload 4, 2) := by decide +kernel
theorem d_GT_setReach_86 : decode prog_1_method_4_code 86 = .ok (.iload_n 2, 1) := by decide +kernel
theorem d_GT_setReach_87 : decode prog_1_method_4_code 87 = .ok (.invokevirtual 127, 3) := by decide +kernel
theorem d_GT_setReach_90 : decode prog_1_method_4_code 90 = .ok (.istore 6, 2) := by decide +kernel
theorem d_GT_setReach_92 : decode prog_1_method_4_code 92 = .ok (.aload 4, 2) := by decide +kernel
theorem d_GT_setReach_94 : decode prog_1_method_4_code 94 = .ok (.iload_n 2, 1) := by decide +kernel
theorem d_GT_setReach_95 : decode prog_1_method_4_code 95 = .ok (.iload_n 3, 1) := by decide +kernel
theorem d_GT_setReach_96 : decode prog_1_method_4_code 96 = .ok (.invokevirtual 130, 3) := by decide +kernel
theorem d_GT_setReach_99 : decode prog_1_method_4_code 99 = .ok (.aload_n 0, 1) := by decide +kernel
theorem d_GT_setReach_100 : decode prog_1_method_4_code 100 = .ok (.getfield 12, 3) := by decide +kernel
theorem d_GT_setReach_103 : decode prog_1_method_4_code 103 = .ok (.invokevirtual 133, 3) := by decide +kernel
theorem d_GT_setReach_106 : decode prog_1_method_4_code 106 = .ok (.iload 6, 2) := by decide +kernel
theorem d_GT_setReach_108 : decode prog_1_method_4_code 108 = .ok (.ireturn, 1) := by decide +kernel
theorem d_Borders_positionOf_0 : decode prog_3_method_5_code 0 = .ok (.aload_n 0, 1) := by decide +kernel
theorem d_Borders_positionOf_1 : decode prog_3_method_5_code 1 = .ok (.iload_n 1, 1) := by decide +kernel
theorem d_Borders_positionOf_2 : decode prog_3_method_5_code 2 = .ok (.invokevirtual 31, 3) := by decide +kernel
theorem d_Borders_positionOf_5 : decode prog_3_method_5_code 5 = .ok (.ifCond .eq 12, 3) := by decide +kernel
theorem d_Borders_positionOf_8 : decode prog_3_method_5_code 8 = .ok (.aload_n 0, 1) := by decide +kernel
theorem d_Borders_positionOf_9 : decode prog_3_method_5_code 9 = .ok (.getfield 9, 3) := by decide +kernel
theorem d_Borders_positionOf_12 : decode prog_3_method_5_code 12 = .ok (.iload_n 1, 1) := by decide +kernel
theorem d_Borders_positionOf_13 : decode prog_3_method_5_code 13 = .ok (.iaload, 1) := by decide +kernel
theorem d_Borders_positionOf_14 : decode prog_3_method_5_code 14 = .ok (.goto 4, 3) := by decide +kernel
theorem d_Borders_positionOf_17 : decode prog_3_method_5_code 17 = .ok (.iconst 0, 1) := by decide +kernel
theorem d_Borders_positionOf_18 : decode prog_3_method_5_code 18 = .ok (.ireturn, 1) := by decide +kernel
theorem d_Borders_kindOf_0 : decode prog_3_method_6_code 0 = .ok (.aload_n 0, 1) := by decide +kernel
theorem d_Borders_kindOf_1 : decode prog_3_method_6_code 1 = .ok (.iload_n 1, 1) := by decide +kernel
theorem d_Borders_kindOf_2 : decode prog_3_method_6_code 2 = .ok (.invokevirtual 31, 3) := by decide +kernel
theorem d_Borders_kindOf_5 : decode prog_3_method_6_code 5 = .ok (.ifCond .eq 12, 3) := by decide +kernel
theorem d_Borders_kindOf_8 : decode prog_3_method_6_code 8 = .ok (.aload_n 0, 1) := by decide +kernel
theorem d_Borders_kindOf_9 : decode prog_3_method_6_code 9 = .ok (.getfield 15, 3) := by decide +kernel
theorem d_Borders_kindOf_12 : decode prog_3_method_6_code 12 = .ok (.iload_n 1, 1) := by decide +kernel
theorem d_Borders_kindOf_13 : decode prog_3_method_6_code 13 = .ok (.iaload, 1) := by decide +kernel
theorem d_Borders_kindOf_14 : decode prog_3_method_6_code 14 = .ok (.goto 4, 3) := by decide +kernel
theorem d_Borders_kindOf_17 : decode prog_3_method_6_code 17 = .ok (.iconst 0, 1) := by decide +kernel
theorem d_Borders_kindOf_18 : decode prog_3_method_6_code 18 = .ok (.ireturn, 1) := by decide +kernel
theorem d_Borders_reachOf_0 : decode prog_3_method_7_code 0 = .ok (.aload_n 0, 1) := by decide +kernel
theorem d_Borders_reachOf_1 : decode prog_3_method_7_code 1 = .ok (.iload_n 1, 1) := by decide +kernel
theorem d_Borders_reachOf_2 : decode prog_3_method_7_code 2 = .ok (.invokevirtual 31, 3) := by decide +kernel
theorem d_Borders_reachOf_5 : decode prog_3_method_7_code 5 = .ok (.ifCond .eq 12, 3) := by decide +kernel
theorem d_Borders_reachOf_8 : decode prog_3_method_7_code 8 = .ok (.aload_n 0, 1) := by decide +kernel
theorem d_Borders_reachOf_9 : decode prog_3_method_7_code 9 = .ok (.getfield 18, 3) := by decide +kernel
theorem d_Borders_reachOf_12 : decode prog_3_method_7_code 12 = .ok (.iload_n 1, 1) := by decide +kernel
theorem d_Borders_reachOf_13 : decode prog_3_method_7_code 13 = .ok (.iaload, 1) := by decide +kernel
theorem d_Borders_reachOf_14 : decode prog_3_method_7_code 14 = .ok (.goto 4, 3) := by decide +kernel
theorem d_Borders_reachOf_17 : decode prog_3_method_7_code 17 = .ok (.iconst 0, 1) := by decide +kernel
theorem d_Borders_reachOf_18 : decode prog_3_method_7_code 18 = .ok (.ireturn, 1) := by decide +kernel
theorem d_Borders_putReach_0 : decode prog_3_method_8_code 0 = .ok (.aload_n 0, 1) := by decide +kernel
theorem d_Borders_putReach_1 : decode prog_3_method_8_code 1 = .ok (.iload_n 1, 1) := by decide +kernel
theorem d_Borders_putReach_2 : decode prog_3_method_8_code 2 = .ok (.invokevirtual 31, 3) := by decide +kernel
theorem d_Borders_putReach_5 : decode prog_3_method_8_code 5 = .ok (.ifCond .eq 10, 3) := by decide +kernel
theorem d_Borders_putReach_8 : decode prog_3_method_8_code 8 = .ok (.aload_n 0, 1) := by decide +kernel
theorem d_Borders_putReach_9 : decode prog_3_method_8_code 9 = .ok (.getfield 18, 3) := by decide +kernel
theorem d_Borders_putReach_12 : decode prog_3_method_8_code 12 = .ok (.iload_n 1, 1) := by decide +kernel
theorem d_Borders_putReach_13 : decode prog_3_method_8_code 13 = .ok (.iload_n 2, 1) := by decide +kernel
theorem d_Borders_putReach_14 : decode prog_3_method_8_code 14 = .ok (.iastore, 1) := by decide +kernel
theorem d_Borders_putReach_15 : decode prog_3_method_8_code 15 = .ok (.return_, 1) := by decide +kernel
theorem d_GT_setOperator_0 : decode prog_1_method_5_code 0 = .ok (.iload_n 1, 1) := by decide +kernel
theorem d_GT_setOperator_1 : decode prog_1_method_5_code 1 = .ok (.invokestatic 136, 3) := by decide +kernel
theorem d_GT_setOperator_4 : decode prog_1_method_5_code 4 = .ok (.ifCond .eq 12, 3) := by decide +kernel
theorem d_GT_setOperator_7 : decode prog_1_method_5_code 7 = .ok (.iload_n 2, 1) := by decide +kernel
theorem d_GT_setOperator_8 : decode prog_1_method_5_code 8 = .ok (.iconst 0, 1) := by decide +kernel
theorem d_GT_setOperator_9 : decode prog_1_method_5_code 9 = .ok (.iconst 1, 1) := by decide +kernel
theorem d_GT_setOperator_10 : decode prog_1_method_5_code 10 = .ok (.invokestatic 65, 3) := by decide +kernel
theorem d_GT_setOperator_13 : decode prog_1_method_5_code 13 = .ok (.ifCond .ne 6, 3) := by decide +kernel
theorem d_GT_setOperator_16 : decode prog_1_method_5_code 16 = .ok (.ldc 76, 2) := by decide +kernel
theorem d_GT_setOperator_18 : decode prog_1_method_5_code 18 = .ok (.ireturn, 1) := by decide +kernel
theorem d_GT_setOperator_19 : decode prog_1_method_5_code 19 = .ok (.iload_n 2, 1) := by decide +kernel
theorem d_GT_setOperator_20 : decode prog_1_method_5_code 20 = .ok (.ifCond .ne 17, 3) := by decide +kernel
theorem d_GT_setOperator_23 : decode prog_1_method_5_code 23 = .ok (.iload_n 3, 1) := by decide +kernel
theorem d_GT_setOperator_24 : decode prog_1_method_5_code 24 = .ok (.iconst 1, 1) := by decide +kernel
theorem d_GT_setOperator_25 : decode prog_1_method_5_code 25 = .ok (.sipush 9999, 3) := by decide +kernel
theorem d_GT_setOperator_28 : decode prog_1_method_5_code 28 = .ok (.invokestatic 65, 3) := by decide +kernel
theorem d_GT_setOperator_31 : decode prog_1_method_5_code 31 = .ok (.ifCond .ne 19, 3) := by decide +kernel
theorem d_GT_setOperator_34 : decode prog_1_method_5_code 34 = .ok (.goto 13, 3) := by decide +kernel
theorem d_GT_setOperator_37 : decode prog_1_method_5_code 37 = .ok (.iload_n 3, 1) := by decide +kernel
theorem d_GT_setOperator_38 : decode prog_1_method_5_code 38 = .ok (.iconst 0, 1) := by decide +kernel
theorem d_GT_setOperator_39 : decode prog_1_method_5_code 39 = .ok (.ldc 139, 2) := by decide +kernel
theorem d_GT_setOperator_41 : decode prog_1_method_5_code 41 = .ok (.invokestatic 65, 3) := by decide +kernel
theorem d_GT_setOperator_44 : decode prog_1_method_5_code 44 = .ok (.ifCond .ne 6, 3) := by decide +kernel
theorem d_GT_setOperator_47 : decode prog_1_method_5_code 47 = .ok (.ldc 76, 2) := by decide +kernel
theorem d_GT_setOperator_49 : decode prog_1_method_5_code 49 = .ok (.ireturn, 1) := by decide +kernel
theorem d_GT_setOperator_50 : decode prog_1_method_5_code 50 = .ok (.aload_n 0, 1) := by decide +kernel
theorem d_GT_setOperator_51 : decode prog_1_method_5_code 51 = .ok (.getfield 19, 3) := by decide +kernel
theorem d_GT_setOperator_54 : decode prog_1_method_5_code 54 = .ok (.aload_n 0, 1) := by decide +kernel
theorem d_GT_setOperator_55 : decode prog_1_method_5_code 55 = .ok (.getfield 12, 3) := by decide +kernel
theorem d_GT_setOperator_58 : decode prog_1_method_5_code 58 = .ok (.invokevirtual 93, 3) := by decide +kernel
theorem d_GT_setOperator_61 : decode prog_1_method_5_code 61 = .ok (.iload_n 2, 1) := by decide +kernel
theorem d_GT_setOperator_62 : decode prog_1_method_5_code 62 = .ok (.ifCond .ne 13, 3) := by decide +kernel
theorem d_GT_setOperator_65 : decode prog_1_method_5_code 65 = .ok (.aload_n 0, 1) := by decide +kernel
theorem d_GT_setOperator_66 : decode prog_1_method_5_code 66 = .ok (.getfield 12, 3) := by decide +kernel
theorem d_GT_setOperator_69 : decode prog_1_method_5_code 69 = .ok (.getfield 140, 3) := by decide +kernel
theorem d_GT_setOperator_72 : decode prog_1_method_5_code 72 = .ok (.goto 10, 3) := by decide +kernel
theorem d_GT_setOperator_75 : decode prog_1_method_5_code 75 = .ok (.aload_n 0, 1) := by decide +kernel
theorem d_GT_setOperator_76 : decode prog_1_method_5_code 76 = .ok (.getfield 12, 3) := by decide +kernel
theorem d_GT_setOperator_79 : decode prog_1_method_5_code 79 = .ok (.getfield 143, 3) := by decide +kernel
theorem d_GT_setOperator_82 : decode prog_1_method_5_code 82 = .ok (.astore 4, 2) := by decide +kernel
theorem d_GT_setOperator_84 : decode prog_1_method_5_code 84 = .ok (.aload 4, 2) := by decide +kernel
theorem d_GT_setOperator_86 : decode prog_1_method_5_code 86 = .ok (.iload_n 1, 1) := by decide +kernel
theorem d_GT_setOperator_87 : decode prog_1_method_5_code 87 = .ok (.iaload, 1) := by decide +kernel
theorem d_GT_setOperator_88 : decode prog_1_method_5_code 88 = .ok (.istore 5, 2) := by decide +kernel
theorem d_GT_setOperator_90 : decode prog_1_method_5_code 90 = .ok (.aload 4, 2) := by decide +kernel
theorem d_GT_setOperator_92 : decode prog_1_method_5_code 92 = .ok (.iload_n 1, 1) := by decide +kernel
theorem d_GT_setOperator_93 : decode prog_1_method_5_code 93 = .ok (.iload_n 3, 1) := by decide +kernel
theorem d_GT_setOperator_94 : decode prog_1_method_5_code 94 = .ok (.iastore, 1) := by decide +kernel
theorem d_GT_setOperator_95 : decode prog_1_method_5_code 95 = .ok (.iload 5, 2) := by decide +kernel
theorem d_GT_setOperator_97 : decode prog_1_method_5_code 97 = .ok (.ireturn, 1) := by decide +kernel
theorem d_GT_isOperator_0 : decode prog_1_method_36_code 0 = .ok (.iload_n 0, 1) := by decide +kernel
theorem d_GT_isOperator_1 : decode prog_1_method_36_code 1 = .ok (.iconst 0, 1) := by decide +kernel
theorem d_GT_isOperator_2 : decode prog_1_method_36_code 2 = .ok (.iconst 2, 1) := by decide +kernel
theorem d_GT_isOperator_3 : decode prog_1_method_36_code 3 = .ok (.invokestatic 65, 3) := by decide +kernel
theorem d_GT_isOperator_6 : decode prog_1_method_36_code 6 = .ok (.ireturn, 1) := by decide +kernel
theorem d_GT_edit_0 : decode prog_1_method_6_code 0 = .ok (.aload_n 0, 1) := by decide +kernel
theorem d_GT_edit_1 : decode prog_1_method_6_code 1 = .ok (.iload_n 1, 1) := by decide +kernel
theorem d_GT_edit_2 : decode prog_1_method_6_code 2 = .ok (.iload_n 2, 1) := by decide +kernel
theorem d_GT_edit_3 : decode prog_1_method_6_code 3 = .ok (.iload_n 3, 1) := by decide +kernel
theorem d_GT_edit_4 : decode prog_1_method_6_code 4 = .ok (.iload 4, 2) := by decide +kernel
theorem d_GT_edit_6 : decode prog_1_method_6_code 6 = .ok (.iload 5, 2) := by decide +kernel
theorem d_GT_edit_8 : decode prog_1_method_6_code 8 = .ok (.invokevirtual 146, 3) := by decide +kernel
theorem d_GT_edit_11 : decode prog_1_method_6_code 11 = .ok (.ifCond .ne 6, 3) := by decide +kernel
theorem d_GT_edit_14 : decode prog_1_method_6_code 14 = .ok (.ldc 76, 2) := by decide +kernel
theorem d_GT_edit_16 : decode prog_1_method_6_code 16 = .ok (.ireturn, 1) := by decide +kernel
theorem d_GT_edit_17 : decode prog_1_method_6_code 17 = .ok (.iload_n 2, 1) := by decide +kernel
theorem d_GT_edit_18 : decode prog_1_method_6_code 18 = .ok (.iload_n 3, 1) := by decide +kernel
theorem d_GT_edit_19 : decode prog_1_method_6_code 19 = .ok (.invokestatic 150, 3) := by decide +kernel
theorem d_GT_edit_22 : decode prog_1_method_6_code 22 = .ok (.istore 6, 2) := by decide +kernel
theorem d_GT_edit_24 : decode prog_1_method_6_code 24 = .ok (.aload_n 0, 1) := by decide +kernel
theorem d_GT_edit_25 : decode prog_1_method_6_code 25 = .ok (.getfield 12, 3) := by decide +kernel
theorem d_GT_edit_28 : decode prog_1_method_6_code 28 = .ok (.iload_n 1, 1) := by decide +kernel
theorem d_GT_edit_29 : decode prog_1_method_6_code 29 = .ok (.iload 6, 2) := by decide +kernel
theorem d_GT_edit_31 : decode prog_1_method_6_code 31 = .ok (.iload 4, 2) := by decide +kernel
theorem d_GT_edit_33 : decode prog_1_method_6_code 33 = .ok (.iload 5, 2) := by decide +kernel
theorem d_GT_edit_35 : decode prog_1_method_6_code 35 = .ok (.invokevirtual 154, 3) := by decide +kernel
theorem d_GT_edit_38 : decode prog_1_method_6_code 38 = .ok (.ifCond .eq 6, 3) := by decide +kernel
theorem d_GT_edit_41 : decode prog_1_method_6_code 41 = .ok (.ldc 87, 2) := by decide +kernel
theorem d_GT_edit_43 : decode prog_1_method_6_code 43 = .ok (.ireturn, 1) := by decide +kernel
theorem d_GT_edit_44 : decode prog_1_method_6_code 44 = .ok (.aload_n 0, 1) := by decide +kernel
theorem d_GT_edit_45 : decode prog_1_method_6_code 45 = .ok (.getfield 19, 3) := by decide +kernel
theorem d_GT_edit_48 : decode prog_1_method_6_code 48 = .ok (.aload_n 0, 1) := by decide +kernel
theorem d_GT_edit_49 : decode prog_1_method_6_code 49 = .ok (.getfield 12, 3) := by decide +kernel
theorem d_GT_edit_52 : decode prog_1_method_6_code 52 = .ok (.invokevirtual 93, 3) := by decide +kernel
theorem d_GT_edit_55 : decode prog_1_method_6_code 55 = .ok (.aload_n 0, 1) := by decide +kernel
theorem d_GT_edit_56 : decode prog_1_method_6_code 56 = .ok (.getfield 12, 3) := by decide +kernel
theorem d_GT_edit_59 : decode prog_1_method_6_code 59 = .ok (.getfield 77, 3) := by decide +kernel
theorem d_GT_edit_62 : decode prog_1_method_6_code 62 = .ok (.iload 6, 2) := by decide +kernel
theorem d_GT_edit_64 : decode prog_1_method_6_code 64 = .ok (.iload 4, 2) := by decide +kernel
theorem d_GT_edit_66 : decode prog_1_method_6_code 66 = .ok (.invokevirtual 157, 3) := by decide +kernel
theorem d_GT_edit_69 : decode prog_1_method_6_code 69 = .ok (.istore 7, 2) := by decide +kernel
theorem d_GT_edit_71 : decode prog_1_method_6_code 71 = .ok (.aload_n 0, 1) := by decide +kernel
theorem d_GT_edit_72 : decode prog_1_method_6_code 72 = .ok (.getfield 12, 3) := by decide +kernel
theorem d_GT_edit_75 : decode prog_1_method_6_code 75 = .ok (.iload_n 1, 1) := by decide +kernel
theorem d_GT_edit_76 : decode prog_1_method_6_code 76 = .ok (.iload 6, 2) := by decide +kernel
theorem d_GT_edit_78 : decode prog_1_method_6_code 78 = .ok (.iload 4, 2) := by decide +kernel
theorem d_GT_edit_80 : decode prog_1_method_6_code 80 = .ok (.iload 5, 2) := by decide +kernel
theorem d_GT_edit_82 : decode prog_1_method_6_code 82 = .ok (.invokevirtual 160, 3) := by decide +kernel
theorem d_GT_edit_85 : decode prog_1_method_6_code 85 = .ok (.iload 7, 2) := by decide +kernel
theorem d_GT_edit_87 : decode prog_1_method_6_code 87 = .ok (.ireturn, 1) := by decide +kernel
theorem d_GT_isEdit_0 : decode prog_1_method_42_code 0 = .ok (.iload_n 1, 1) := by decide +kernel
theorem d_GT_isEdit_1 : decode prog_1_method_42_code 1 = .ok (.invokestatic 136, 3) := by decide +kernel
theorem d_GT_isEdit_4 : decode prog_1_method_42_code 4 = .ok (.ifCond .eq 36, 3) := by decide +kernel
theorem d_GT_isEdit_7 : decode prog_1_method_42_code 7 = .ok (.aload_n 0, 1) := by decide +kernel
theorem d_GT_isEdit_8 : decode prog_1_method_42_code 8 = .ok (.iload_n 2, 1) := by decide +kernel
theorem d_GT_isEdit_9 : decode prog_1_method_42_code 9 = .ok (.iload_n 3, 1) := by decide +kernel
theorem d_GT_isEdit_10 : decode prog_1_method_42_code 10 = .ok (.invokevirtual 178, 3) := by decide +kernel
theorem d_GT_isEdit_13 : decode prog_1_method_42_code 13 = .ok (.ifCond .eq 27, 3) := by decide +kernel
theorem d_GT_isEdit_16 : decode prog_1_method_42_code 16 = .ok (.iload 4, 2) := by decide +kernel
theorem d_GT_isEdit_18 : decode prog_1_method_42_code 18 = .ok (.invokestatic 164, 3) := by decide +kernel
theorem d_GT_isEdit_21 : decode prog_1_method_42_code 21 = .ok (.ifCond .eq 19, 3) := by decide +kernel
theorem d_GT_isEdit_24 : decode prog_1_method_42_code 24 = .ok (.iload 5, 2) := by decide +kernel
theorem d_GT_isEdit_26 : decode prog_1_method_42_code 26 = .ok (.iconst 0, 1) := by decide +kernel
theorem d_GT_isEdit_27 : decode prog_1_method_42_code 27 = .ok (.sipush 9999, 3) := by decide +kernel
theorem d_GT_isEdit_30 : decode prog_1_method_42_code 30 = .ok (.invokestatic 65, 3) := by decide +kernel
theorem d_GT_isEdit_33 : decode prog_1_method_42_code 33 = .ok (.ifCond .eq 7, 3) := by decide +kernel
theorem d_GT_isEdit_36 : decode prog_1_method_42_code 36 = .ok (.iconst 1, 1) := by decide +kernel
theorem d_GT_isEdit_37 : decode prog_1_method_42_code 37 = .ok (.goto 4, 3) := by decide +kernel
theorem d_GT_isEdit_40 : decode prog_1_method_42_code 40 = .ok (.iconst 0, 1) := by decide +kernel
theorem d_GT_isEdit_41 : decode prog_1_method_42_code 41 = .ok (.ireturn, 1) := by decide +kernel
theorem d_GT_isRegion_0 : decode prog_1_method_41_code 0 = .ok (.iload_n 1, 1) := by decide +kernel
theorem d_GT_isRegion_1 : decode prog_1_method_41_code 1 = .ok (.iconst 0, 1) := by decide +kernel
theorem d_GT_isRegion_2 : decode prog_1_method_41_code 2 = .ok (.aload_n 0, 1) := by decide +kernel
theorem d_GT_isRegion_3 : decode prog_1_method_41_code 3 = .ok (.getfield 12, 3) := by decide +kernel
theorem d_GT_isRegion_6 : decode prog_1_method_41_code 6 = .ok (.getfield 77, 3) := by decide +kernel
theorem d_GT_isRegion_9 : decode prog_1_method_41_code 9 = .ok (.getfield 167, 3) := by decide +kernel
theorem d_GT_isRegion_12 : decode prog_1_method_41_code 12 = .ok (.getfield 116, 3) := by decide +kernel
theorem d_GT_isRegion_15 : decode prog_1_method_41_code 15 = .ok (.invokestatic 65, 3) := by decide +kernel
theorem d_GT_isRegion_18 : decode prog_1_method_41_code 18 = .ok (.ifCond .eq 28, 3) := by decide +kernel
theorem d_GT_isRegion_21 : decode prog_1_method_41_code 21 = .ok (.iload_n 2, 1) := by decide +kernel
theorem d_GT_isRegion_22 : decode prog_1_method_41_code 22 = .ok (.iconst 0, 1) := by decide +kernel
theorem d_GT_isRegion_23 : decode prog_1_method_41_code 23 = .ok (.aload_n 0, 1) := by decide +kernel
theorem d_GT_isRegion_24 : decode prog_1_method_41_code 24 = .ok (.getfield 12, 3) := by decide +kernel
theorem d_GT_isRegion_27 : decode prog_1_method_41_code 27 = .ok (.getfield 77, 3) := by decide +kernel
theorem d_GT_isRegion_30 : decode prog_1_method_41_code 30 = .ok (.getfield 170, 3) := by decide +kernel
theorem d_GT_isRegion_33 : decode prog_1_method_41_code 33 = .ok (.getfield 116, 3) := by decide +kernel
theorem d_GT_isRegion_36 : decode prog_1_method_41_code 36 = .ok (.invokestatic 65, 3) := by decide +kernel
theorem d_GT_isRegion_39 : decode prog_1_method_41_code 39 = .ok (.ifCond .eq 7, 3) := by decide +kernel
theorem d_GT_isRegion_42 : decode prog_1_method_41_code 42 = .ok (.iconst 1, 1) := by decide +kernel
theorem d_GT_isRegion_43 : decode prog_1_method_41_code 43 = .ok (.goto 4, 3) := by decide +kernel
theorem d_GT_isRegion_46 : decode prog_1_method_41_code 46 = .ok (.iconst 0, 1) := by decide +kernel
theorem d_GT_isRegion_47 : decode prog_1_method_41_code 47 = .ok (.ireturn, 1) := by decide +kernel
theorem d_GT_isGain_0 : decode prog_1_method_35_code 0 = .ok (.iload_n 0, 1) := by decide +kernel
theorem d_GT_isGain_1 : decode prog_1_method_35_code 1 = .ok (.iconst 0, 1) := by decide +kernel
theorem d_GT_isGain_2 : decode prog_1_method_35_code 2 = .ok (.iconst 2, 1) := by decide +kernel
theorem d_GT_isGain_3 : decode prog_1_method_35_code 3 = .ok (.invokestatic 65, 3) := by decide +kernel
theorem d_GT_isGain_6 : decode prog_1_method_35_code 6 = .ok (.ireturn, 1) := by decide +kernel
theorem d_State_reasonAgainst_0 : decode prog_6_method_12_code 0 = .ok (.aload_n 0, 1) := by decide +kernel
theorem d_State_reasonAgainst_1 : decode prog_6_method_12_code 1 = .ok (.getfield 12, 3) := by decide +kernel
theorem d_State_reasonAgainst_4 : decode prog_6_method_12_code 4 = .ok (.iload_n 2, 1) := by decide +kernel
theorem d_State_reasonAgainst_5 : decode prog_6_method_12_code 5 = .ok (.invokevirtual 126, 3) := by decide +kernel
theorem d_State_reasonAgainst_8 : decode prog_6_method_12_code 8 = .ok (.istore 5, 2) := by decide +kernel
theorem d_State_reasonAgainst_10 : decode prog_6_method_12_code 10 = .ok (.iload 5, 2) := by decide +kernel
theorem d_State_reasonAgainst_12 : decode prog_6_method_12_code 12 = .ok (.ldc 129, 2) := by decide +kernel
theorem d_State_reasonAgainst_14 : decode prog_6_method_12_code 14 = .ok (.if_icmp .eq 11, 3) := by decide +kernel
theorem d_State_reasonAgainst_17 : decode prog_6_method_12_code 17 = .ok (.iload 5, 2) := by decide +kernel
theorem d_State_reasonAgainst_19 : decode prog_6_method_12_code 19 = .ok (.iload_n 1, 1) := by decide +kernel
theorem d_State_reasonAgainst_20 : decode prog_6_method_12_code 20 = .ok (.if_icmp .eq 5, 3) := by decide +kernel
theorem d_State_reasonAgainst_23 : decode prog_6_method_12_code 23 = .ok (.iconst 1, 1) := by decide +kernel
theorem d_State_reasonAgainst_24 : decode prog_6_method_12_code 24 = .ok (.ireturn, 1) := by decide +kernel
theorem d_State_reasonAgainst_25 : decode prog_6_method_12_code 25 = .ok (.iload 4, 2) := by decide +kernel
theorem d_State_reasonAgainst_27 : decode prog_6_method_12_code 27 = .ok (.aload_n 0, 1) := by decide +kernel
theorem d_State_reasonAgainst_28 : decode prog_6_method_12_code 28 = .ok (.getfield 12, 3) := by decide +kernel
theorem d_State_reasonAgainst_31 : decode prog_6_method_12_code 31 = .ok (.iload_n 2, 1) := by decide +kernel
theorem d_State_reasonAgainst_32 : decode prog_6_method_12_code 32 = .ok (.iload_n 3, 1) := by decide +kernel
theorem d_State_reasonAgainst_33 : decode prog_6_method_12_code 33 = .ok (.invokevirtual 130, 3) := by decide +kernel
theorem d_State_reasonAgainst_36 : decode prog_6_method_12_code 36 = .ok (.isub, 1) := by decide +kernel
theorem d_State_reasonAgainst_37 : decode prog_6_method_12_code 37 = .ok (.invokestatic 110, 3) := by decide +kernel
theorem d_State_reasonAgainst_40 : decode prog_6_method_12_code 40 = .ok (.istore 6, 2) := by decide +kernel
theorem d_State_reasonAgainst_42 : decode prog_6_method_12_code 42 = .ok (.iload 6, 2) := by decide +kernel
theorem d_State_reasonAgainst_44 : decode prog_6_method_12_code 44 = .ok (.aload_n 0, 1) := by decide +kernel
theorem d_State_reasonAgainst_45 : decode prog_6_method_12_code 45 = .ok (.getfield 45, 3) := by decide +kernel
theorem d_State_reasonAgainst_48 : decode prog_6_method_12_code 48 = .ok (.iload_n 1, 1) := by decide +kernel
theorem d_State_reasonAgainst_49 : decode prog_6_method_12_code 49 = .ok (.iaload, 1) := by decide +kernel
theorem d_State_reasonAgainst_50 : decode prog_6_method_12_code 50 = .ok (.if_icmp .le 5, 3) := by decide +kernel
theorem d_State_reasonAgainst_53 : decode prog_6_method_12_code 53 = .ok (.iconst 2, 1) := by decide +kernel
theorem d_State_reasonAgainst_54 : decode prog_6_method_12_code 54 = .ok (.ireturn, 1) := by decide +kernel
theorem d_State_reasonAgainst_55 : decode prog_6_method_12_code 55 = .ok (.iload 6, 2) := by decide +kernel
theorem d_State_reasonAgainst_57 : decode prog_6_method_12_code 57 = .ok (.aload_n 0, 1) := by decide +kernel
theorem d_State_reasonAgainst_58 : decode prog_6_method_12_code 58 = .ok (.getfield 48, 3) := by decide +kernel
theorem d_State_reasonAgainst_61 : decode prog_6_method_12_code 61 = .ok (.iload_n 1, 1) := by decide +kernel
theorem d_State_reasonAgainst_62 : decode prog_6_method_12_code 62 = .ok (.iaload, 1) := by decide +kernel
theorem d_State_reasonAgainst_63 : decode prog_6_method_12_code 63 = .ok (.if_icmp .le 7, 3) := by decide +kernel
theorem d_State_reasonAgainst_66 : decode prog_6_method_12_code 66 = .ok (.iconst 3, 1) := by decide +kernel
theorem d_State_reasonAgainst_67 : decode prog_6_method_12_code 67 = .ok (.goto 4, 3) := by decide +kernel
theorem d_State_reasonAgainst_70 : decode prog_6_method_12_code 70 = .ok (.iconst 0, 1) := by decide +kernel
theorem d_State_reasonAgainst_71 : decode prog_6_method_12_code 71 = .ok (.ireturn, 1) := by decide +kernel
theorem d_State_carryOutEdit_0 : decode prog_6_method_13_code 0 = .ok (.iload 4, 2) := by decide +kernel
theorem d_State_carryOutEdit_2 : decode prog_6_method_13_code 2 = .ok (.aload_n 0, 1) := by decide +kernel
theorem d_State_carryOutEdit_3 : decode prog_6_method_13_code 3 = .ok (.getfield 12, 3) := by decide +kernel
theorem d_State_carryOutEdit_6 : decode prog_6_method_13_code 6 = .ok (.iload_n 2, 1) := by decide +kernel
theorem d_State_carryOutEdit_7 : decode prog_6_method_13_code 7 = .ok (.iload_n 3, 1) := by decide +kernel
theorem d_State_carryOutEdit_8 : decode prog_6_method_13_code 8 = .ok (.invokevirtual 130, 3) := by decide +kernel
theorem d_State_carryOutEdit_11 : decode prog_6_method_13_code 11 = .ok (.isub, 1) := by decide +kernel
theorem d_State_carryOutEdit_12 : decode prog_6_method_13_code 12 = .ok (.istore 5, 2) := by decide +kernel
theorem d_State_carryOutEdit_14 : decode prog_6_method_13_code 14 = .ok (.aload_n 0, 1) := by decide +kernel
theorem d_State_carryOutEdit_15 : decode prog_6_method_13_code 15 = .ok (.getfield 12, 3) := by decide +kernel
theorem d_State_carryOutEdit_18 : decode prog_6_method_13_code 18 = .ok (.iload_n 2, 1) := by decide +kernel
theorem d_State_carryOutEdit_19 : decode prog_6_method_13_code 19 = .ok (.iload_n 3, 1) := by decide +kernel
theorem d_State_carryOutEdit_20 : decode prog_6_method_13_code 20 = .ok (.iload 4, 2) := by decide +kernel
theorem d_State_carryOutEdit_22 : decode prog_6_method_13_code 22 = .ok (.invokevirtual 133, 3) := by decide +kernel
theorem d_State_carryOutEdit_25 : decode prog_6_method_13_code 25 = .ok (.aload_n 0, 1) := by decide +kernel
theorem d_State_carryOutEdit_26 : decode prog_6_method_13_code 26 = .ok (.getfield 48, 3) := by decide +kernel
theorem d_State_carryOutEdit_29 : decode prog_6_method_13_code 29 = .ok (.iload_n 1, 1) := by decide +kernel
theorem d_State_carryOutEdit_30 : decode prog_6_method_13_code 30 = .ok (.dup2, 1) := by decide +kernel
theorem d_State_carryOutEdit_31 : decode prog_6_method_13_code 31 = .ok (.iaload, 1) := by decide +kernel
theorem d_State_carryOutEdit_32 : decode prog_6_method_13_code 32 = .ok (.iload 5, 2) := by decide +kernel
theorem d_State_carryOutEdit_34 : decode prog_6_method_13_code 34 = .ok (.invokestatic 110, 3) := by decide +kernel
theorem d_State_carryOutEdit_37 : decode prog_6_method_13_code 37 = .ok (.isub, 1) := by decide +kernel
theorem d_State_carryOutEdit_38 : decode prog_6_method_13_code 38 = .ok (.iastore, 1) := by decide +kernel
theorem d_State_carryOutEdit_39 : decode prog_6_method_13_code 39 = .ok (.aload_n 0, 1) := by decide +kernel
theorem d_State_carryOutEdit_40 : decode prog_6_method_13_code 40 = .ok (.getfield 54, 3) := by decide +kernel
theorem d_State_carryOutEdit_43 : decode prog_6_method_13_code 43 = .ok (.iload_n 1, 1) := by decide +kernel
theorem d_State_carryOutEdit_44 : decode prog_6_method_13_code 44 = .ok (.dup2, 1) := by decide +kernel
theorem d_State_carryOutEdit_45 : decode prog_6_method_13_code 45 = .ok (.iaload, 1) := by decide +kernel
theorem d_State_carryOutEdit_46 : decode prog_6_method_13_code 46 = .ok (.iload 5, 2) := by decide +kernel
theorem d_State_carryOutEdit_48 : decode prog_6_method_13_code 48 = .ok (.iadd, 1) := by decide +kernel
theorem d_State_carryOutEdit_49 : decode prog_6_method_13_code 49 = .ok (.iastore, 1) := by decide +kernel
theorem d_State_carryOutEdit_50 : decode prog_6_method_13_code 50 = .ok (.aload_n 0, 1) := by decide +kernel
theorem d_State_carryOutEdit_51 : decode prog_6_method_13_code 51 = .ok (.getfield 51, 3) := by decide +kernel
theorem d_State_carryOutEdit_54 : decode prog_6_method_13_code 54 = .ok (.iload_n 1, 1) := by decide +kernel
theorem d_State_carryOutEdit_55 : decode prog_6_method_13_code 55 = .ok (.dup2, 1) := by decide +kernel
theorem d_State_carryOutEdit_56 : decode prog_6_method_13_code 56 = .ok (.iaload, 1) := by decide +kernel
theorem d_State_carryOutEdit_57 : decode prog_6_method_13_code 57 = .ok (.iconst 1, 1) := by decide +kernel
theorem d_State_carryOutEdit_58 : decode prog_6_method_13_code 58 = .ok (.iadd, 1) := by decide +kernel
theorem d_State_carryOutEdit_59 : decode prog_6_method_13_code 59 = .ok (.iastore, 1) := by decide +kernel
theorem d_State_carryOutEdit_60 : decode prog_6_method_13_code 60 = .ok (.return_, 1) := by decide +kernel
theorem d_GT_scale_0 : decode prog_1_method_7_code 0 = .ok (.iload_n 1, 1) := by decide +kernel
theorem d_GT_scale_1 : decode prog_1_method_7_code 1 = .ok (.invokestatic 136, 3) := by decide +kernel
theorem d_GT_scale_4 : decode prog_1_method_7_code 4 = .ok (.ifCond .eq 21, 3) := by decide +kernel
theorem d_GT_scale_7 : decode prog_1_method_7_code 7 = .ok (.iload_n 2, 1) := by decide +kernel
theorem d_GT_scale_8 : decode prog_1_method_7_code 8 = .ok (.invokestatic 164, 3) := by decide +kernel
theorem d_GT_scale_11 : decode prog_1_method_7_code 11 = .ok (.ifCond .eq 14, 3) := by decide +kernel
theorem d_GT_scale_14 : decode prog_1_method_7_code 14 = .ok (.iload_n 3, 1) := by decide +kernel
theorem d_GT_scale_15 : decode prog_1_method_7_code 15 = .ok (.iconst 0, 1) := by decide +kernel
theorem d_GT_scale_16 : decode prog_1_method_7_code 16 = .ok (.sipush 1000, 3) := by decide +kernel
theorem d_GT_scale_19 : decode prog_1_method_7_code 19 = .ok (.invokestatic 65, 3) := by decide +kernel
theorem d_GT_scale_22 : decode prog_1_method_7_code 22 = .ok (.ifCond .ne 6, 3) := by decide +kernel
theorem d_GT_scale_25 : decode prog_1_method_7_code 25 = .ok (.ldc 76, 2) := by decide +kernel
theorem d_GT_scale_27 : decode prog_1_method_7_code 27 = .ok (.ireturn, 1) := by decide +kernel
theorem d_GT_scale_28 : decode prog_1_method_7_code 28 = .ok (.aload_n 0, 1) := by decide +kernel
theorem d_GT_scale_29 : decode prog_1_method_7_code 29 = .ok (.getfield 19, 3) := by decide +kernel
theorem d_GT_scale_32 : decode prog_1_method_7_code 32 = .ok (.aload_n 0, 1) := by decide +kernel
theorem d_GT_scale_33 : decode prog_1_method_7_code 33 = .ok (.getfield 12, 3) := by decide +kernel
theorem d_GT_scale_36 : decode prog_1_method_7_code 36 = .ok (.invokevirtual 93, 3) := by decide +kernel
theorem d_GT_scale_39 : decode prog_1_method_7_code 39 = .ok (.iconst 0, 1) := by decide +kernel
theorem d_GT_scale_40 : decode prog_1_method_7_code 40 = .ok (.istore 4, 2) := by decide +kernel
theorem d_GT_scale_42 : decode prog_1_method_7_code 42 = .ok (.iconst 0, 1) := by decide +kernel
theorem d_GT_scale_43 : decode prog_1_method_7_code 43 = .ok (.istore 5, 2) := by decide +kernel
theorem d_GT_scale_45 : decode prog_1_method_7_code 45 = .ok (.iload 5, 2) := by decide +kernel
theorem d_GT_scale_47 : decode prog_1_method_7_code 47 = .ok (.aload_n 0, 1) := by decide +kernel
theorem d_GT_scale_48 : decode prog_1_method_7_code 48 = .ok (.getfield 12, 3) := by decide +kernel
theorem d_GT_scale_51 : decode prog_1_method_7_code 51 = .ok (.getfield 77, 3) := by decide +kernel
theorem d_GT_scale_54 : decode prog_1_method_7_code 54 = .ok (.getfield 167, 3) := by decide +kernel
theorem d_GT_scale_57 : decode prog_1_method_7_code 57 = .ok (.getfield 116, 3) := by decide +kernel
theorem d_GT_scale_60 : decode prog_1_method_7_code 60 = .ok (.if_icmp .gt 103, 3) := by decide +kernel
theorem d_GT_scale_63 : decode prog_1_method_7_code 63 = .ok (.iconst 0, 1) := by decide +kernel
theorem d_GT_scale_64 : decode prog_1_method_7_code 64 = .ok (.istore 6, 2) := by decide +kernel
theorem d_GT_scale_66 : decode prog_1_method_7_code 66 = .ok (.iload 6, 2) := by decide +kernel
theorem d_GT_scale_68 : decode prog_1_method_7_code 68 = .ok (.aload_n 0, 1) := by decide +kernel
theorem d_GT_scale_69 : decode prog_1_method_7_code 69 = .ok (.getfield 12, 3) := by decide +kernel
theorem d_GT_scale_72 : decode prog_1_method_7_code 72 = .ok (.getfield 77, 3) := by decide +kernel
theorem d_GT_scale_75 : decode prog_1_method_7_code 75 = .ok (.getfield 170, 3) := by decide +kernel
theorem d_GT_scale_78 : decode prog_1_method_7_code 78 = .ok (.getfield 116, 3) := by decide +kernel
theorem d_GT_scale_81 : decode prog_1_method_7_code 81 = .ok (.if_icmp .gt 76, 3) := by decide +kernel
theorem d_GT_scale_84 : decode prog_1_method_7_code 84 = .ok (.iload 5, 2) := by decide +kernel
theorem d_GT_scale_86 : decode prog_1_method_7_code 86 = .ok (.iload 6, 2) := by decide +kernel
theorem d_GT_scale_88 : decode prog_1_method_7_code 88 = .ok (.invokestatic 150, 3) := by decide +kernel
theorem d_GT_scale_91 : decode prog_1_method_7_code 91 = .ok (.istore 7, 2) := by decide +kernel
theorem d_GT_scale_93 : decode prog_1_method_7_code 93 = .ok (.aload_n 0, 1) := by decide +kernel
theorem d_GT_scale_94 : decode prog_1_method_7_code 94 = .ok (.getfield 12, 3) := by decide +kernel
theorem d_GT_scale_97 : decode prog_1_method_7_code 97 = .ok (.getfield 77, 3) := by decide +kernel
theorem d_GT_scale_100 : decode prog_1_method_7_code 100 = .ok (.iload 7, 2) := by decide +kernel
theorem d_GT_scale_102 : decode prog_1_method_7_code 102 = .ok (.iload_n 2, 1) := by decide +kernel
theorem d_GT_scale_103 : decode prog_1_method_7_code 103 = .ok (.invokevirtual 157, 3) := by decide +kernel
theorem d_GT_scale_106 : decode prog_1_method_7_code 106 = .ok (.iload_n 3, 1) := by decide +kernel
theorem d_GT_scale_107 : decode prog_1_method_7_code 107 = .ok (.imul, 1) := by decide +kernel
theorem d_GT_scale_108 : decode prog_1_method_7_code 108 = .ok (.bipush 100, 2) := by decide +kernel
theorem d_GT_scale_110 : decode prog_1_method_7_code 110 = .ok (.idiv, 1) := by decide +kernel
theorem d_GT_scale_111 : decode prog_1_method_7_code 111 = .ok (.sipush 9999, 3) := by decide +kernel
theorem d_GT_scale_114 : decode prog_1_method_7_code 114 = .ok (.invokestatic 173, 3) := by decide +kernel
theorem d_GT_scale_117 : decode prog_1_method_7_code 117 = .ok (.istore 8, 2) := by decide +kernel
theorem d_GT_scale_119 : decode prog_1_method_7_code 119 = .ok (.aload_n 0, 1) := by decide +kernel
theorem d_GT_scale_120 : decode prog_1_method_7_code 120 = .ok (.getfield 12, 3) := by decide +kernel
theorem d_GT_scale_123 : decode prog_1_method_7_code 123 = .ok (.iload_n 1, 1) := by decide +kernel
theorem d_GT_scale_124 : decode prog_1_method_7_code 124 = .ok (.iload 7, 2) := by decide +kernel
theorem d_GT_scale_126 : decode prog_1_method_7_code 126 = .ok (.iload_n 2, 1) := by decide +kernel
theorem d_GT_scale_127 : decode prog_1_method_7_code 127 = .ok (.iload 8, 2) := by decide +kernel
theorem d_GT_scale_129 : decode prog_1_method_7_code 129 = .ok (.invokevirtual 154, 3) := by decide +kernel
theorem d_GT_scale_132 : decode prog_1_method_7_code 132 = .ok (.ifCond .ne 19, 3) := by decide +kernel
theorem d_GT_scale_135 : decode prog_1_method_7_code 135 = .ok (.aload_n 0, 1) := by decide +kernel
theorem d_GT_scale_136 : decode prog_1_method_7_code 136 = .ok (.getfield 12, 3) := by decide +kernel
theorem d_GT_scale_139 : decode prog_1_method_7_code 139 = .ok (.iload_n 1, 1) := by decide +kernel
theorem d_GT_scale_140 : decode prog_1_method_7_code 140 = .ok (.iload 7, 2) := by decide +kernel
theorem d_GT_scale_142 : decode prog_1_method_7_code 142 = .ok (.iload_n 2, 1) := by decide +kernel
theorem d_GT_scale_143 : decode prog_1_method_7_code 143 = .ok (.iload 8, 2) := by decide +kernel
theorem d_GT_scale_145 : decode prog_1_method_7_code 145 = .ok (.invokevirtual 160, 3) := by decide +kernel
theorem d_GT_scale_148 : decode prog_1_method_7_code 148 = .ok (.iinc 4 1, 3) := by decide +kernel
theorem d_GT_scale_151 : decode prog_1_method_7_code 151 = .ok (.iinc 6 1, 3) := by decide +kernel
theorem d_GT_scale_154 : decode prog_1_method_7_code 154 = .ok (.goto (-88), 3) := by decide +kernel
theorem d_GT_scale_157 : decode prog_1_method_7_code 157 = .ok (.iinc 5 1, 3) := by decide +kernel
theorem d_GT_scale_160 : decode prog_1_method_7_code 160 = .ok (.goto (-115), 3) := by decide +kernel
theorem d_GT_scale_163 : decode prog_1_method_7_code 163 = .ok (.iload 4, 2) := by decide +kernel
theorem d_GT_scale_165 : decode prog_1_method_7_code 165 = .ok (.ireturn, 1) := by decide +kernel
theorem d_GT_lock_0 : decode prog_1_method_8_code 0 = .ok (.iload_n 1, 1) := by decide +kernel
theorem d_GT_lock_1 : decode prog_1_method_8_code 1 = .ok (.invokestatic 136, 3) := by decide +kernel
theorem d_GT_lock_4 : decode prog_1_method_8_code 4 = .ok (.ifCond .eq 22, 3) := by decide +kernel
theorem d_GT_lock_7 : decode prog_1_method_8_code 7 = .ok (.aload_n 0, 1) := by decide +kernel
theorem d_GT_lock_8 : decode prog_1_method_8_code 8 = .ok (.iload_n 2, 1) := by decide +kernel
theorem d_GT_lock_9 : decode prog_1_method_8_code 9 = .ok (.iload_n 3, 1) := by decide +kernel
theorem d_GT_lock_10 : decode prog_1_method_8_code 10 = .ok (.invokevirtual 178, 3) := by decide +kernel
theorem d_GT_lock_13 : decode prog_1_method_8_code 13 = .ok (.ifCond .eq 13, 3) := by decide +kernel
theorem d_GT_lock_16 : decode prog_1_method_8_code 16 = .ok (.iload 4, 2) := by decide +kernel
theorem d_GT_lock_18 : decode prog_1_method_8_code 18 = .ok (.iconst 0, 1) := by decide +kernel
theorem d_GT_lock_19 : decode prog_1_method_8_code 19 = .ok (.iconst 1, 1) := by decide +kernel
theorem d_GT_lock_20 : decode prog_1_method_8_code 20 = .ok (.invokestatic 65, 3) := by decide +kernel
theorem d_GT_lock_23 : decode prog_1_method_8_code 23 = .ok (.ifCond .ne 6, 3) := by decide +kernel
theorem d_GT_lock_26 : decode prog_1_method_8_code 26 = .ok (.ldc 76, 2) := by decide +kernel
theorem d_GT_lock_28 : decode prog_1_method_8_code 28 = .ok (.ireturn, 1) := by decide +kernel
theorem d_GT_lock_29 : decode prog_1_method_8_code 29 = .ok (.iload_n 2, 1) := by decide +kernel
theorem d_GT_lock_30 : decode prog_1_method_8_code 30 = .ok (.iload_n 3, 1) := by decide +kernel
theorem d_GT_lock_31 : decode prog_1_method_8_code 31 = .ok (.invokestatic 150, 3) := by decide +kernel
theorem d_GT_lock_34 : decode prog_1_method_8_code 34 = .ok (.istore 5, 2) := by decide +kernel
theorem d_GT_lock_36 : decode prog_1_method_8_code 36 = .ok (.iload 4, 2) := by decide +kernel
theorem d_GT_lock_38 : decode prog_1_method_8_code 38 = .ok (.iconst 1, 1) := by decide +kernel
theorem d_GT_lock_39 : decode prog_1_method_8_code 39 = .ok (.if_icmp .ne 8, 3) := by decide +kernel
theorem d_GT_lock_42 : decode prog_1_method_8_code 42 = .ok (.ldc 181, 2) := by decide +kernel
theorem d_GT_lock_44 : decode prog_1_method_8_code 44 = .ok (.goto 4, 3) := by decide +kernel
theorem d_GT_lock_47 : decode prog_1_method_8_code 47 = .ok (.iload_n 1, 1) := by decide +kernel
theorem d_GT_lock_48 : decode prog_1_method_8_code 48 = .ok (.istore 6, 2) := by decide +kernel
theorem d_GT_lock_50 : decode prog_1_method_8_code 50 = .ok (.aload_n 0, 1) := by decide +kernel
theorem d_GT_lock_51 : decode prog_1_method_8_code 51 = .ok (.getfield 12, 3) := by decide +kernel
theorem d_GT_lock_54 : decode prog_1_method_8_code 54 = .ok (.getfield 77, 3) := by decide +kernel
theorem d_GT_lock_57 : decode prog_1_method_8_code 57 = .ok (.iload 5, 2) := by decide +kernel
theorem d_GT_lock_59 : decode prog_1_method_8_code 59 = .ok (.invokevirtual 182, 3) := by decide +kernel
theorem d_GT_lock_62 : decode prog_1_method_8_code 62 = .ok (.iload 6, 2) := by decide +kernel
theorem d_GT_lock_64 : decode prog_1_method_8_code 64 = .ok (.if_icmp .eq 6, 3) := by decide +kernel
theorem d_GT_lock_67 : decode prog_1_method_8_code 67 = .ok (.ldc 87, 2) := by decide +kernel
theorem d_GT_lock_69 : decode prog_1_method_8_code 69 = .ok (.ireturn, 1) := by decide +kernel
theorem d_GT_lock_70 : decode prog_1_method_8_code 70 = .ok (.aload_n 0, 1) := by decide +kernel
theorem d_GT_lock_71 : decode prog_1_method_8_code 71 = .ok (.getfield 19, 3) := by decide +kernel
theorem d_GT_lock_74 : decode prog_1_method_8_code 74 = .ok (.aload_n 0, 1) := by decide +kernel
theorem d_GT_lock_75 : decode prog_1_method_8_code 75 = .ok (.getfield 12, 3) := by decide +kernel
theorem d_GT_lock_78 : decode prog_1_method_8_code 78 = .ok (.invokevirtual 93, 3) := by decide +kernel
theorem d_GT_lock_81 : decode prog_1_method_8_code 81 = .ok (.aload_n 0, 1) := by decide +kernel
theorem d_GT_lock_82 : decode prog_1_method_8_code 82 = .ok (.getfield 12, 3) := by decide +kernel
theorem d_GT_lock_85 : decode prog_1_method_8_code 85 = .ok (.getfield 77, 3) := by decide +kernel
theorem d_GT_lock_88 : decode prog_1_method_8_code 88 = .ok (.iload 5, 2) := by decide +kernel
theorem d_GT_lock_90 : decode prog_1_method_8_code 90 = .ok (.iload 4, 2) := by decide +kernel
theorem d_GT_lock_92 : decode prog_1_method_8_code 92 = .ok (.iconst 1, 1) := by decide +kernel
theorem d_GT_lock_93 : decode prog_1_method_8_code 93 = .ok (.if_icmp .ne 7, 3) := by decide +kernel
theorem d_GT_lock_96 : decode prog_1_method_8_code 96 = .ok (.iload_n 1, 1) := by decide +kernel
theorem d_GT_lock_97 : decode prog_1_method_8_code 97 = .ok (.goto 5, 3) := by decide +kernel
theorem d_GT_lock_100 : decode prog_1_method_8_code 100 = .ok (.ldc 181, 2) := by decide +kernel
theorem d_GT_lock_102 : decode prog_1_method_8_code 102 = .ok (.invokevirtual 185, 3) := by decide +kernel
theorem d_GT_lock_105 : decode prog_1_method_8_code 105 = .ok (.aload_n 0, 1) := by decide +kernel
theorem d_GT_lock_106 : decode prog_1_method_8_code 106 = .ok (.getfield 12, 3) := by decide +kernel
theorem d_GT_lock_109 : decode prog_1_method_8_code 109 = .ok (.getfield 77, 3) := by decide +kernel
theorem d_GT_lock_112 : decode prog_1_method_8_code 112 = .ok (.iload_n 1, 1) := by decide +kernel
theorem d_GT_lock_113 : decode prog_1_method_8_code 113 = .ok (.invokevirtual 188, 3) := by decide +kernel
theorem d_GT_lock_116 : decode prog_1_method_8_code 116 = .ok (.ireturn, 1) := by decide +kernel
theorem d_Table_locksOf_0 : decode prog_7_method_11_code 0 = .ok (.iconst 0, 1) := by decide +kernel
theorem d_Table_locksOf_1 : decode prog_7_method_11_code 1 = .ok (.istore_n 2, 1) := by decide +kernel
theorem d_Table_locksOf_2 : decode prog_7_method_11_code 2 = .ok (.iconst 0, 1) := by decide +kernel
theorem d_Table_locksOf_3 : decode prog_7_method_11_code 3 = .ok (.istore_n 3, 1) := by decide +kernel
theorem d_Table_locksOf_4 : decode prog_7_method_11_code 4 = .ok (.iload_n 3, 1) := by decide +kernel
theorem d_Table_locksOf_5 : decode prog_7_method_11_code 5 = .ok (.aload_n 0, 1) := by decide +kernel
theorem d_Table_locksOf_6 : decode prog_7_method_11_code 6 = .ok (.getfield 12, 3) := by decide +kernel
theorem d_Table_locksOf_9 : decode prog_7_method_11_code 9 = .ok (.getfield 35, 3) := by decide +kernel
theorem d_Table_locksOf_12 : decode prog_7_method_11_code 12 = .ok (.if_icmp .gt 47, 3) := by decide +kernel
theorem d_Table_locksOf_15 : decode prog_7_method_11_code 15 = .ok (.iconst 0, 1) := by decide +kernel
theorem d_Table_locksOf_16 : decode prog_7_method_11_code 16 = .ok (.istore 4, 2) := by decide +kernel
theorem d_Table_locksOf_18 : decode prog_7_method_11_code 18 = .ok (.iload 4, 2) := by decide +kernel
theorem d_Table_locksOf_20 : decode prog_7_method_11_code 20 = .ok (.aload_n 0, 1) := by decide +kernel
theorem d_Table_locksOf_21 : decode prog_7_method_11_code 21 = .ok (.getfield 18, 3) := by decide +kernel
theorem d_Table_locksOf_24 : decode prog_7_method_11_code 24 = .ok (.getfield 35, 3) := by decide +kernel
theorem d_Table_locksOf_27 : decode prog_7_method_11_code 27 = .ok (.if_icmp .gt 26, 3) := by decide +kernel
theorem d_Table_locksOf_30 : decode prog_7_method_11_code 30 = .ok (.aload_n 0, 1) := by decide +kernel
theorem d_Table_locksOf_31 : decode prog_7_method_11_code 31 = .ok (.iload_n 3, 1) := by decide +kernel
theorem d_Table_locksOf_32 : decode prog_7_method_11_code 32 = .ok (.iload 4, 2) := by decide +kernel
theorem d_Table_locksOf_34 : decode prog_7_method_11_code 34 = .ok (.invokestatic 49, 3) := by decide +kernel
theorem d_Table_locksOf_37 : decode prog_7_method_11_code 37 = .ok (.invokevirtual 53, 3) := by decide +kernel
theorem d_Table_locksOf_40 : decode prog_7_method_11_code 40 = .ok (.iload_n 1, 1) := by decide +kernel
theorem d_Table_locksOf_41 : decode prog_7_method_11_code 41 = .ok (.if_icmp .ne 6, 3) := by decide +kernel
theorem d_Table_locksOf_44 : decode prog_7_method_11_code 44 = .ok (.iinc 2 1, 3) := by decide +kernel
theorem d_Table_locksOf_47 : decode prog_7_method_11_code 47 = .ok (.iinc 4 1, 3) := by decide +kernel
theorem d_Table_locksOf_50 : decode prog_7_method_11_code 50 = .ok (.goto (-32), 3) := by decide +kernel
theorem d_Table_locksOf_53 : decode prog_7_method_11_code 53 = .ok (.iinc 3 1, 3) := by decide +kernel
theorem d_Table_locksOf_56 : decode prog_7_method_11_code 56 = .ok (.goto (-52), 3) := by decide +kernel
theorem d_Table_locksOf_59 : decode prog_7_method_11_code 59 = .ok (.iload_n 2, 1) := by decide +kernel
theorem d_Table_locksOf_60 : decode prog_7_method_11_code 60 = .ok (.ireturn, 1) := by decide +kernel
theorem d_GT_setMargin_0 : decode prog_1_method_9_code 0 = .ok (.iload_n 1, 1) := by decide +kernel
theorem d_GT_setMargin_1 : decode prog_1_method_9_code 1 = .ok (.iconst 0, 1) := by decide +kernel
theorem d_GT_setMargin_2 : decode prog_1_method_9_code 2 = .ok (.bipush 50, 2) := by decide +kernel
theorem d_GT_setMargin_4 : decode prog_1_method_9_code 4 = .ok (.invokestatic 65, 3) := by decide +kernel
theorem d_GT_setMargin_7 : decode prog_1_method_9_code 7 = .ok (.ifCond .ne 6, 3) := by decide +kernel
theorem d_GT_setMargin_10 : decode prog_1_method_9_code 10 = .ok (.ldc 76, 2) := by decide +kernel
theorem d_GT_setMargin_12 : decode prog_1_method_9_code 12 = .ok (.ireturn, 1) := by decide +kernel
theorem d_GT_setMargin_13 : decode prog_1_method_9_code 13 = .ok (.aload_n 0, 1) := by decide +kernel
theorem d_GT_setMargin_14 : decode prog_1_method_9_code 14 = .ok (.getfield 19, 3) := by decide +kernel
theorem d_GT_setMargin_17 : decode prog_1_method_9_code 17 = .ok (.aload_n 0, 1) := by decide +kernel
theorem d_GT_setMargin_18 : decode prog_1_method_9_code 18 = .ok (.getfield 12, 3) := by decide +kernel
theorem d_GT_setMargin_21 : decode prog_1_method_9_code 21 = .ok (.invokevirtual 93, 3) := by decide +kernel
theorem d_GT_setMargin_24 : decode prog_1_method_9_code 24 = .ok (.aload_n 0, 1) := by decide +kernel
theorem d_GT_setMargin_25 : decode prog_1_method_9_code 25 = .ok (.getfield 12, 3) := by decide +kernel
theorem d_GT_setMargin_28 : decode prog_1_method_9_code 28 = .ok (.getfield 191, 3) := by decide +kernel
theorem d_GT_setMargin_31 : decode prog_1_method_9_code 31 = .ok (.istore_n 2, 1) := by decide +kernel
theorem d_GT_setMargin_32 : decode prog_1_method_9_code 32 = .ok (.aload_n 0, 1) := by decide +kernel
theorem d_GT_setMargin_33 : decode prog_1_method_9_code 33 = .ok (.getfield 12, 3) := by decide +kernel
theorem d_GT_setMargin_36 : decode prog_1_method_9_code 36 = .ok (.iload_n 1, 1) := by decide +kernel
theorem d_GT_setMargin_37 : decode prog_1_method_9_code 37 = .ok (.putfield 191, 3) := by decide +kernel
theorem d_GT_setMargin_40 : decode prog_1_method_9_code 40 = .ok (.iload_n 2, 1) := by decide +kernel
theorem d_GT_setMargin_41 : decode prog_1_method_9_code 41 = .ok (.ireturn, 1) := by decide +kernel
theorem d_GT_move_0 : decode prog_1_method_10_code 0 = .ok (.iload_n 1, 1) := by decide +kernel
theorem d_GT_move_1 : decode prog_1_method_10_code 1 = .ok (.invokestatic 194, 3) := by decide +kernel
theorem d_GT_move_4 : decode prog_1_method_10_code 4 = .ok (.ifCond .eq 10, 3) := by decide +kernel
theorem d_GT_move_7 : decode prog_1_method_10_code 7 = .ok (.iload_n 2, 1) := by decide +kernel
theorem d_GT_move_8 : decode prog_1_method_10_code 8 = .ok (.invokestatic 194, 3) := by decide +kernel
theorem d_GT_move_11 : decode prog_1_method_10_code 11 = .ok (.ifCond .ne 6, 3) := by decide +kernel
theorem d_GT_move_14 : decode prog_1_method_10_code 14 = .ok (.ldc 76, 2) := by decide +kernel
theorem d_GT_move_16 : decode prog_1_method_10_code 16 = .ok (.ireturn, 1) := by decide +kernel
theorem d_GT_move_17 : decode prog_1_method_10_code 17 = .ok (.aload_n 0, 1) := by decide +kernel
theorem d_GT_move_18 : decode prog_1_method_10_code 18 = .ok (.getfield 19, 3) := by decide +kernel
theorem d_GT_move_21 : decode prog_1_method_10_code 21 = .ok (.aload_n 0, 1) := by decide +kernel
theorem d_GT_move_22 : decode prog_1_method_10_code 22 = .ok (.getfield 12, 3) := by decide +kernel
theorem d_GT_move_25 : decode prog_1_method_10_code 25 = .ok (.invokevirtual 93, 3) := by decide +kernel
theorem d_GT_move_28 : decode prog_1_method_10_code 28 = .ok (.aload_n 0, 1) := by decide +kernel
theorem d_GT_move_29 : decode prog_1_method_10_code 29 = .ok (.iload_n 1, 1) := by decide +kernel
theorem d_GT_move_30 : decode prog_1_method_10_code 30 = .ok (.iload_n 2, 1) := by decide +kernel
theorem d_GT_move_31 : decode prog_1_method_10_code 31 = .ok (.invokevirtual 197, 3) := by decide +kernel
theorem d_GT_move_34 : decode prog_1_method_10_code 34 = .ok (.ireturn, 1) := by decide +kernel
theorem d_GT_isCoordinate_0 : decode prog_1_method_34_code 0 = .ok (.iload_n 0, 1) := by decide +kernel
theorem d_GT_isCoordinate_1 : decode prog_1_method_34_code 1 = .ok (.iconst 0, 1) := by decide +kernel
theorem d_GT_isCoordinate_2 : decode prog_1_method_34_code 2 = .ok (.sipush 1000, 3) := by decide +kernel
theorem d_GT_isCoordinate_5 : decode prog_1_method_34_code 5 = .ok (.invokestatic 65, 3) := by decide +kernel
theorem d_GT_isCoordinate_8 : decode prog_1_method_34_code 8 = .ok (.ireturn, 1) := by decide +kernel
theorem d_GT_carryOutMove_0 : decode prog_1_method_44_code 0 = .ok (.aload_n 0, 1) := by decide +kernel
theorem d_GT_carryOutMove_1 : decode prog_1_method_44_code 1 = .ok (.getfield 12, 3) := by decide +kernel
theorem d_GT_carryOutMove_4 : decode prog_1_method_44_code 4 = .ok (.iload_n 1, 1) := by decide +kernel
theorem d_GT_carryOutMove_5 : decode prog_1_method_44_code 5 = .ok (.iload_n 2, 1) := by decide +kernel
theorem d_GT_carryOutMove_6 : decode prog_1_method_44_code 6 = .ok (.invokevirtual 304, 3) := by decide +kernel
theorem d_GT_carryOutMove_9 : decode prog_1_method_44_code 9 = .ok (.ifCond .eq 19, 3) := by decide +kernel
theorem d_GT_carryOutMove_12 : decode prog_1_method_44_code 12 = .ok (.aload_n 0, 1) := by decide +kernel
theorem d_GT_carryOutMove_13 : decode prog_1_method_44_code 13 = .ok (.getfield 12, 3) := by decide +kernel
theorem d_GT_carryOutMove_16 : decode prog_1_method_44_code 16 = .ok (.dup, 1) := by decide +kernel
theorem d_GT_carryOutMove_17 : decode prog_1_method_44_code 17 = .ok (.getfield 257, 3) := by decide +kernel
theorem d_GT_carryOutMove_20 : decode prog_1_method_44_code 20 = .ok (.iconst 1, 1) := by decide +kernel
theorem d_GT_carryOutMove_21 : decode prog_1_method_44_code 21 = .ok (.iadd, 1) := by decide +kernel
theorem d_GT_carryOutMove_22 : decode prog_1_method_44_code 22 = .ok (.putfield 257, 3) := by decide +kernel
theorem d_GT_carryOutMove_25 : decode prog_1_method_44_code 25 = .ok (.ldc 181, 2) := by decide +kernel
theorem d_GT_carryOutMove_27 : decode prog_1_method_44_code 27 = .ok (.ireturn, 1) := by decide +kernel
theorem d_GT_carryOutMove_28 : decode prog_1_method_44_code 28 = .ok (.aload_n 0, 1) := by decide +kernel
theorem d_GT_carryOutMove_29 : decode prog_1_method_44_code 29 = .ok (.invokevirtual 266, 3) := by decide +kernel
theorem d_GT_carryOutMove_32 : decode prog_1_method_44_code 32 = .ok (.aload_n 0, 1) := by decide +kernel
theorem d_GT_carryOutMove_33 : decode prog_1_method_44_code 33 = .ok (.aload_n 0, 1) := by decide +kernel
theorem d_GT_carryOutMove_34 : decode prog_1_method_44_code 34 = .ok (.getfield 54, 3) := by decide +kernel
theorem d_GT_carryOutMove_37 : decode prog_1_method_44_code 37 = .ok (.invokevirtual 310, 3) := by decide +kernel
theorem d_GT_carryOutMove_40 : decode prog_1_method_44_code 40 = .ok (.aload_n 0, 1) := by decide +kernel
theorem d_GT_carryOutMove_41 : decode prog_1_method_44_code 41 = .ok (.getfield 12, 3) := by decide +kernel
theorem d_GT_carryOutMove_44 : decode prog_1_method_44_code 44 = .ok (.iload_n 1, 1) := by decide +kernel
theorem d_GT_carryOutMove_45 : decode prog_1_method_44_code 45 = .ok (.iload_n 2, 1) := by decide +kernel
theorem d_GT_carryOutMove_46 : decode prog_1_method_44_code 46 = .ok (.invokevirtual 343, 3) := by decide +kernel
theorem d_GT_carryOutMove_49 : decode prog_1_method_44_code 49 = .ok (.aload_n 0, 1) := by decide +kernel
theorem d_GT_carryOutMove_50 : decode prog_1_method_44_code 50 = .ok (.invokevirtual 266, 3) := by decide +kernel
theorem d_GT_carryOutMove_53 : decode prog_1_method_44_code 53 = .ok (.aload_n 0, 1) := by decide +kernel
theorem d_GT_carryOutMove_54 : decode prog_1_method_44_code 54 = .ok (.aload_n 0, 1) := by decide +kernel
theorem d_GT_carryOutMove_55 : decode prog_1_method_44_code 55 = .ok (.getfield 58, 3) := by decide +kernel
theorem d_GT_carryOutMove_58 : decode prog_1_method_44_code 58 = .ok (.invokevirtual 310, 3) := by decide +kernel
theorem d_GT_carryOutMove_61 : decode prog_1_method_44_code 61 = .ok (.aload_n 0, 1) := by decide +kernel
theorem d_GT_carryOutMove_62 : decode prog_1_method_44_code 62 = .ok (.invokevirtual 318, 3) := by decide +kernel
theorem d_GT_carryOutMove_65 : decode prog_1_method_44_code 65 = .ok (.istore_n 3, 1) := by decide +kernel
theorem d_GT_carryOutMove_66 : decode prog_1_method_44_code 66 = .ok (.aload_n 0, 1) := by decide +kernel
theorem d_GT_carryOutMove_67 : decode prog_1_method_44_code 67 = .ok (.getfield 12, 3) := by decide +kernel
theorem d_GT_carryOutMove_70 : decode prog_1_method_44_code 70 = .ok (.aload_n 0, 1) := by decide +kernel
theorem d_GT_carryOutMove_71 : decode prog_1_method_44_code 71 = .ok (.getfield 58, 3) := by decide +kernel
theorem d_GT_carryOutMove_74 : decode prog_1_method_44_code 74 = .ok (.iload_n 3, 1) := by decide +kernel
theorem d_GT_carryOutMove_75 : decode prog_1_method_44_code 75 = .ok (.invokevirtual 346, 3) := by decide +kernel
theorem d_GT_carryOutMove_78 : decode prog_1_method_44_code 78 = .ok (.aload_n 0, 1) := by decide +kernel
theorem d_GT_carryOutMove_79 : decode prog_1_method_44_code 79 = .ok (.getfield 12, 3) := by decide +kernel
theorem d_GT_carryOutMove_82 : decode prog_1_method_44_code 82 = .ok (.dup, 1) := by decide +kernel
theorem d_GT_carryOutMove_83 : decode prog_1_method_44_code 83 = .ok (.getfield 260, 3) := by decide +kernel
theorem d_GT_carryOutMove_86 : decode prog_1_method_44_code 86 = .ok (.iconst 1, 1) := by decide +kernel
theorem d_GT_carryOutMove_87 : decode prog_1_method_44_code 87 = .ok (.iadd, 1) := by decide +kernel
theorem d_GT_carryOutMove_88 : decode prog_1_method_44_code 88 = .ok (.putfield 260, 3) := by decide +kernel
theorem d_GT_carryOutMove_91 : decode prog_1_method_44_code 91 = .ok (.iload_n 3, 1) := by decide +kernel
theorem d_GT_carryOutMove_92 : decode prog_1_method_44_code 92 = .ok (.ireturn, 1) := by decide +kernel
theorem d_State_ignores_0 : decode prog_6_method_9_code 0 = .ok (.iload_n 1, 1) := by decide +kernel
theorem d_State_ignores_1 : decode prog_6_method_9_code 1 = .ok (.aload_n 0, 1) := by decide +kernel
theorem d_State_ignores_2 : decode prog_6_method_9_code 2 = .ok (.getfield 31, 3) := by decide +kernel
theorem d_State_ignores_5 : decode prog_6_method_9_code 5 = .ok (.iconst 0, 1) := by decide +kernel
theorem d_State_ignores_6 : decode prog_6_method_9_code 6 = .ok (.iaload, 1) := by decide +kernel
theorem d_State_ignores_7 : decode prog_6_method_9_code 7 = .ok (.isub, 1) := by decide +kernel
theorem d_State_ignores_8 : decode prog_6_method_9_code 8 = .ok (.invokestatic 110, 3) := by decide +kernel
theorem d_State_ignores_11 : decode prog_6_method_9_code 11 = .ok (.aload_n 0, 1) := by decide +kernel
theorem d_State_ignores_12 : decode prog_6_method_9_code 12 = .ok (.getfield 73, 3) := by decide +kernel
theorem d_State_ignores_15 : decode prog_6_method_9_code 15 = .ok (.if_icmp .ge 25, 3) := by decide +kernel
theorem d_State_ignores_18 : decode prog_6_method_9_code 18 = .ok (.iload_n 2, 1) := by decide +kernel
theorem d_State_ignores_19 : decode prog_6_method_9_code 19 = .ok (.aload_n 0, 1) := by decide +kernel
theorem d_State_ignores_20 : decode prog_6_method_9_code 20 = .ok (.getfield 31, 3) := by decide +kernel
theorem d_State_ignores_23 : decode prog_6_method_9_code 23 = .ok (.iconst 1, 1) := by decide +kernel
theorem d_State_ignores_24 : decode prog_6_method_9_code 24 = .ok (.iaload, 1) := by decide +kernel
theorem d_State_ignores_25 : decode prog_6_method_9_code 25 = .ok (.isub, 1) := by decide +kernel
theorem d_State_ignores_26 : decode prog_6_method_9_code 26 = .ok (.invokestatic 110, 3) := by decide +kernel
theorem d_State_ignores_29 : decode prog_6_method_9_code 29 = .ok (.aload_n 0, 1) := by decide +kernel
theorem d_State_ignores_30 : decode prog_6_method_9_code 30 = .ok (.getfield 73, 3) := by decide +kernel
theorem d_State_ignores_33 : decode prog_6_method_9_code 33 = .ok (.if_icmp .ge 7, 3) := by decide +kernel
theorem d_State_ignores_36 : decode prog_6_method_9_code 36 = .ok (.iconst 1, 1) := by decide +kernel
theorem d_State_ignores_37 : decode prog_6_method_9_code 37 = .ok (.goto 4, 3) := by decide +kernel
theorem d_State_ignores_40 : decode prog_6_method_9_code 40 = .ok (.iconst 0, 1) := by decide +kernel
theorem d_State_ignores_41 : decode prog_6_method_9_code 41 = .ok (.ireturn, 1) := by decide +kernel
theorem d_GT_blendAtPoint_0 : decode prog_1_method_45_code 0 = .ok (.aload_n 0, 1) := by decide +kernel
theorem d_GT_blendAtPoint_1 : decode prog_1_method_45_code 1 = .ok (.getfield 47, 3) := by decide +kernel
theorem d_GT_blendAtPoint_4 : decode prog_1_method_45_code 4 = .ok (.aload_n 0, 1) := by decide +kernel
theorem d_GT_blendAtPoint_5 : decode prog_1_method_45_code 5 = .ok (.getfield 12, 3) := by decide +kernel
theorem d_GT_blendAtPoint_8 : decode prog_1_method_45_code 8 = .ok (.getfield 77, 3) := by decide +kernel
theorem d_GT_blendAtPoint_11 : decode prog_1_method_45_code 11 = .ok (.getfield 167, 3) := by decide +kernel
theorem d_GT_blendAtPoint_14 : decode prog_1_method_45_code 14 = .ok (.aload_n 0, 1) := by decide +kernel
theorem d_GT_blendAtPoint_15 : decode prog_1_method_45_code 15 = .ok (.getfield 12, 3) := by decide +kernel
theorem d_GT_blendAtPoint_18 : decode prog_1_method_45_code 18 = .ok (.getfield 207, 3) := by decide +kernel
theorem d_GT_blendAtPoint_21 : decode prog_1_method_45_code 21 = .ok (.iconst 0, 1) := by decide +kernel
theorem d_GT_blendAtPoint_22 : decode prog_1_method_45_code 22 = .ok (.iaload, 1) := by decide +kernel
theorem d_GT_blendAtPoint_23 : decode prog_1_method_45_code 23 = .ok (.aload_n 0, 1) := by decide +kernel
theorem d_GT_blendAtPoint_24 : decode prog_1_method_45_code 24 = .ok (.getfield 12, 3) := by decide +kernel
theorem d_GT_blendAtPoint_27 : decode prog_1_method_45_code 27 = .ok (.getfield 200, 3) := by decide +kernel
theorem d_GT_blendAtPoint_30 : decode prog_1_method_45_code 30 = .ok (.iconst 0, 1) := by decide +kernel
theorem d_GT_blendAtPoint_31 : decode prog_1_method_45_code 31 = .ok (.iaload, 1) := by decide +kernel
theorem d_GT_blendAtPoint_32 : decode prog_1_method_45_code 32 = .ok (.invokevirtual 314, 3) := by decide +kernel
theorem d_GT_blendAtPoint_35 : decode prog_1_method_45_code 35 = .ok (.aload_n 0, 1) := by decide +kernel
theorem d_GT_blendAtPoint_36 : decode prog_1_method_45_code 36 = .ok (.getfield 51, 3) := by decide +kernel
theorem d_GT_blendAtPoint_39 : decode prog_1_method_45_code 39 = .ok (.aload_n 0, 1) := by decide +kernel
theorem d_GT_blendAtPoint_40 : decode prog_1_method_45_code 40 = .ok (.getfield 12, 3) := by decide +kernel
theorem d_GT_blendAtPoint_43 : decode prog_1_method_45_code 43 = .ok (.getfield 77, 3) := by decide +kernel
theorem d_GT_blendAtPoint_46 : decode prog_1_method_45_code 46 = .ok (.getfield 170, 3) := by decide +kernel
theorem d_GT_blendAtPoint_49 : decode prog_1_method_45_code 49 = .ok (.aload_n 0, 1) := by decide +kernel
theorem d_GT_blendAtPoint_50 : decode prog_1_method_45_code 50 = .ok (.getfield 12, 3) := by decide +kernel
theorem d_GT_blendAtPoint_53 : decode prog_1_method_45_code 53 = .ok (.getfield 207, 3) := by decide +kernel
theorem d_GT_blendAtPoint_56 : decode prog_1_method_45_code 56 = .ok (.iconst 1, 1) := by decide +kernel
theorem d_GT_blendAtPoint_57 : decode prog_1_method_45_code 57 = .ok (.iaload, 1) := by decide +kernel
theorem d_GT_blendAtPoint_58 : decode prog_1_method_45_code 58 = .ok (.aload_n 0, 1) := by decide +kernel
theorem d_GT_blendAtPoint_59 : decode prog_1_method_45_code 59 = .ok (.getfield 12, 3) := by decide +kernel
theorem d_GT_blendAtPoint_62 : decode prog_1_method_45_code 62 = .ok (.getfield 200, 3) := by decide +kernel
theorem d_GT_blendAtPoint_65 : decode prog_1_method_45_code 65 = .ok (.iconst 1, 1) := by decide +kernel
theorem d_GT_blendAtPoint_66 : decode prog_1_method_45_code 66 = .ok (.iaload, 1) := by decide +kernel
theorem d_GT_blendAtPoint_67 : decode prog_1_method_45_code 67 = .ok (.invokevirtual 314, 3) := by decide +kernel
theorem d_GT_blendAtPoint_70 : decode prog_1_method_45_code 70 = .ok (.return_, 1) := by decide +kernel
theorem d_Blend_findIn_0 : decode prog_2_method_2_code 0 = .ok (.aload_n 1, 1) := by decide +kernel
theorem d_Blend_findIn_1 : decode prog_2_method_2_code 1 = .ok (.iload_n 2, 1) := by decide +kernel
theorem d_Blend_findIn_2 : decode prog_2_method_2_code 2 = .ok (.iload_n 3, 1) := by decide +kernel
theorem d_Blend_findIn_3 : decode prog_2_method_2_code 3 = .ok (.invokevirtual 15, 3) := by decide +kernel
theorem d_Blend_findIn_6 : decode prog_2_method_2_code 6 = .ok (.istore 4, 2) := by decide +kernel
theorem d_Blend_findIn_8 : decode prog_2_method_2_code 8 = .ok (.aload_n 1, 1) := by decide +kernel
theorem d_Blend_findIn_9 : decode prog_2_method_2_code 9 = .ok (.iload 4, 2) := by decide +kernel
theorem d_Blend_findIn_11 : decode prog_2_method_2_code 11 = .ok (.invokevirtual 21, 3) := by decide +kernel
theorem d_Blend_findIn_14 : decode prog_2_method_2_code 14 = .ok (.istore 5, 2) := by decide +kernel
theorem d_Blend_findIn_16 : decode prog_2_method_2_code 16 = .ok (.iload 5, 2) := by decide +kernel
theorem d_Blend_findIn_18 : decode prog_2_method_2_code 18 = .ok (.iconst (-1), 1) := by decide +kernel
theorem d_Blend_findIn_19 : decode prog_2_method_2_code 19 = .ok (.if_icmp .ne 34, 3) := by decide +kernel
theorem d_Blend_findIn_22 : decode prog_2_method_2_code 22 = .ok (.aload_n 0, 1) := by decide +kernel
theorem d_Blend_findIn_23 : decode prog_2_method_2_code 23 = .ok (.aload_n 1, 1) := by decide +kernel
theorem d_Blend_findIn_24 : decode prog_2_method_2_code 24 = .ok (.iload 4, 2) := by decide +kernel
theorem d_Blend_findIn_26 : decode prog_2_method_2_code 26 = .ok (.invokevirtual 25, 3) := by decide +kernel
theorem d_Blend_findIn_29 : decode prog_2_method_2_code 29 = .ok (.putfield 28, 3) := by decide +kernel
theorem d_Blend_findIn_32 : decode prog_2_method_2_code 32 = .ok (.aload_n 0, 1) := by decide +kernel
theorem d_Blend_findIn_33 : decode prog_2_method_2_code 33 = .ok (.aload_n 0, 1) := by decide +kernel
theorem d_Blend_findIn_34 : decode prog_2_method_2_code 34 = .ok (.getfield 28, 3) := by decide +kernel
theorem d_Blend_findIn_37 : decode prog_2_method_2_code 37 = .ok (.putfield 31, 3) := by decide +kernel
theorem d_Blend_findIn_40 : decode prog_2_method_2_code 40 = .ok (.aload_n 0, 1) := by decide +kernel
theorem d_Blend_findIn_41 : decode prog_2_method_2_code 41 = .ok (.iconst 0, 1) := by decide +kernel
theorem d_Blend_findIn_42 : decode prog_2_method_2_code 42 = .ok (.putfield 34, 3) := by decide +kernel
theorem d_Blend_findIn_45 : decode prog_2_method_2_code 45 = .ok (.aload_n 0, 1) := by decide +kernel
theorem d_Blend_findIn_46 : decode prog_2_method_2_code 46 = .ok (.iconst 1, 1) := by decide +kernel
theorem d_Blend_findIn_47 : decode prog_2_method_2_code 47 = .ok (.putfield 9, 3) := by decide +kernel
theorem d_Blend_findIn_50 : decode prog_2_method_2_code 50 = .ok (.goto 49, 3) := by decide +kernel
theorem d_Blend_findIn_53 : decode prog_2_method_2_code 53 = .ok (.aload_n 1, 1) := by decide +kernel
theorem d_Blend_findIn_54 : decode prog_2_method_2_code 54 = .ok (.iload 5, 2) := by decide +kernel
theorem d_Blend_findIn_56 : decode prog_2_method_2_code 56 = .ok (.invokevirtual 37, 3) := by decide +kernel
theorem d_Blend_findIn_59 : decode prog_2_method_2_code 59 = .ok (.istore 6, 2) := by decide +kernel
theorem d_Blend_findIn_61 : decode prog_2_method_2_code 61 = .ok (.aload_n 0, 1) := by decide +kernel
theorem d_Blend_findIn_62 : decode prog_2_method_2_code 62 = .ok (.iload 5, 2) := by decide +kernel
theorem d_Blend_findIn_64 : decode prog_2_method_2_code 64 = .ok (.putfield 28, 3) := by decide +kernel
theorem d_Blend_findIn_67 : decode prog_2_method_2_code 67 = .ok (.aload_n 0, 1) := by decide +kernel
theorem d_Blend_findIn_68 : decode prog_2_method_2_code 68 = .ok (.iload 5, 2) := by decide +kernel
theorem d_Blend_findIn_70 : decode prog_2_method_2_code 70 = .ok (.iconst 1, 1) := by decide +kernel
theorem d_Blend_findIn_71 : decode prog_2_method_2_code 71 = .ok (.iadd, 1) := by decide +kernel
theorem d_Blend_findIn_72 : decode prog_2_method_2_code 72 = .ok (.putfield 31, 3) := by decide +kernel
theorem d_Blend_findIn_75 : decode prog_2_method_2_code 75 = .ok (.aload_n 0, 1) := by decide +kernel
theorem d_Blend_findIn_76 : decode prog_2_method_2_code 76 = .ok (.iload 4, 2) := by decide +kernel
theorem d_Blend_findIn_78 : decode prog_2_method_2_code 78 = .ok (.aload_n 1, 1) := by decide +kernel
theorem d_Blend_findIn_79 : decode prog_2_method_2_code 79 = .ok (.iload 5, 2) := by decide +kernel
theorem d_Blend_findIn_81 : decode prog_2_method_2_code 81 = .ok (.invokevirtual 40, 3) := by decide +kernel
theorem d_Blend_findIn_84 : decode prog_2_method_2_code 84 = .ok (.isub, 1) := by decide +kernel
theorem d_Blend_findIn_85 : decode prog_2_method_2_code 85 = .ok (.iload 6, 2) := by decide +kernel
theorem d_Blend_findIn_87 : decode prog_2_method_2_code 87 = .ok (.iadd, 1) := by decide +kernel
theorem d_Blend_findIn_88 : decode prog_2_method_2_code 88 = .ok (.putfield 34, 3) := by decide +kernel
theorem d_Blend_findIn_91 : decode prog_2_method_2_code 91 = .ok (.aload_n 0, 1) := by decide +kernel
theorem d_Blend_findIn_92 : decode prog_2_method_2_code 92 = .ok (.iconst 2, 1) := by decide +kernel
theorem d_Blend_findIn_93 : decode prog_2_method_2_code 93 = .ok (.iload 6, 2) := by decide +kernel
theorem d_Blend_findIn_95 : decode prog_2_method_2_code 95 = .ok (.imul, 1) := by decide +kernel
theorem d_Blend_findIn_96 : decode prog_2_method_2_code 96 = .ok (.putfield 9, 3) := by decide +kernel
theorem d_Blend_findIn_99 : decode prog_2_method_2_code 99 = .ok (.return_, 1) := by decide +kernel
theorem d_Arr_fill_0 : decode prog_13_method_103_code 0 = .ok (.iconst 0, 1) := by decide +kernel
theorem d_Arr_fill_1 : decode prog_13_method_103_code 1 = .ok (.istore_n 2, 1) := by decide +kernel
theorem d_Arr_fill_2 : decode prog_13_method_103_code 2 = .ok (.aload_n 0, 1) := by decide +kernel
theorem d_Arr_fill_3 : decode prog_13_method_103_code 3 = .ok (.arraylength, 1) := by decide +kernel
theorem d_Arr_fill_4 : decode prog_13_method_103_code 4 = .ok (.istore_n 3, 1) := by decide +kernel
theorem d_Arr_fill_5 : decode prog_13_method_103_code 5 = .ok (.iload_n 2, 1) := by decide +kernel
theorem d_Arr_fill_6 : decode prog_13_method_103_code 6 = .ok (.iload_n 3, 1) := by decide +kernel
theorem d_Arr_fill_7 : decode prog_13_method_103_code 7 = .ok (.if_icmp .ge 13, 3) := by decide +kernel
theorem d_Arr_fill_10 : decode prog_13_method_103_code 10 = .ok (.aload_n 0, 1) := by decide +kernel
theorem d_Arr_fill_11 : decode prog_13_method_103_code 11 = .ok (.iload_n 2, 1) := by decide +kernel
theorem d_Arr_fill_12 : decode prog_13_method_103_code 12 = .ok (.iload_n 1, 1) := by decide +kernel
theorem d_Arr_fill_13 : decode prog_13_method_103_code 13 = .ok (.iastore, 1) := by decide +kernel
theorem d_Arr_fill_14 : decode prog_13_method_103_code 14 = .ok (.iinc 2 1, 3) := by decide +kernel
theorem d_Arr_fill_17 : decode prog_13_method_103_code 17 = .ok (.goto (-12), 3) := by decide +kernel
theorem d_Arr_fill_20 : decode prog_13_method_103_code 20 = .ok (.return_, 1) := by decide +kernel
theorem d_Math_abs_0 : decode prog_11_method_59_code 0 = .ok (.iload_n 0, 1) := by decide +kernel
theorem d_Math_abs_1 : decode prog_11_method_59_code 1 = .ok (.ifCond .ge 8, 3) := by decide +kernel
theorem d_Math_abs_4 : decode prog_11_method_59_code 4 = .ok (.iload_n 0, 1) := by decide +kernel
theorem d_Math_abs_5 : decode prog_11_method_59_code 5 = .ok (.ineg, 1) := by decide +kernel
theorem d_Math_abs_6 : decode prog_11_method_59_code 6 = .ok (.goto 4, 3) := by decide +kernel
theorem d_Math_abs_9 : decode prog_11_method_59_code 9 = .ok (.iload_n 0, 1) := by decide +kernel
theorem d_Math_abs_10 : decode prog_11_method_59_code 10 = .ok (.ireturn, 1) := by decide +kernel
theorem d_Math_min_0 : decode prog_11_method_69_code 0 = .ok (.iload_n 0, 1) := by decide +kernel
theorem d_Math_min_1 : decode prog_11_method_69_code 1 = .ok (.iload_n 1, 1) := by decide +kernel
theorem d_Math_min_2 : decode prog_11_method_69_code 2 = .ok (.if_icmp .gt 7, 3) := by decide +kernel
theorem d_Math_min_5 : decode prog_11_method_69_code 5 = .ok (.iload_n 0, 1) := by decide +kernel
theorem d_Math_min_6 : decode prog_11_method_69_code 6 = .ok (.goto 4, 3) := by decide +kernel
theorem d_Math_min_9 : decode prog_11_method_69_code 9 = .ok (.iload_n 1, 1) := by decide +kernel
theorem d_Math_min_10 : decode prog_11_method_69_code 10 = .ok (.ireturn, 1) := by decide +kernel
theorem d_Math_max_0 : decode prog_11_method_65_code 0 = .ok (.iload_n 0, 1) := by decide +kernel
theorem d_Math_max_1 : decode prog_11_method_65_code 1 = .ok (.iload_n 1, 1) := by decide +kernel
theorem d_Math_max_2 : decode prog_11_method_65_code 2 = .ok (.if_icmp .lt 7, 3) := by decide +kernel
theorem d_Math_max_5 : decode prog_11_method_65_code 5 = .ok (.iload_n 0, 1) := by decide +kernel
theorem d_Math_max_6 : decode prog_11_method_65_code 6 = .ok (.goto 4, 3) := by decide +kernel
theorem d_Math_max_9 : decode prog_11_method_65_code 9 = .ok (.iload_n 1, 1) := by decide +kernel
theorem d_Math_max_10 : decode prog_11_method_65_code 10 = .ok (.ireturn, 1) := by decide +kernel
theorem d_Math_floorMod_0 : decode prog_11_method_50_code 0 = .ok (.iload_n 0, 1) := by decide +kernel
theorem d_Math_floorMod_1 : decode prog_11_method_50_code 1 = .ok (.iload_n 1, 1) := by decide +kernel
theorem d_Math_floorMod_2 : decode prog_11_method_50_code 2 = .ok (.irem, 1) := by decide +kernel
theorem d_Math_floorMod_3 : decode prog_11_method_50_code 3 = .ok (.istore_n 2, 1) := by decide +kernel
theorem d_Math_floorMod_4 : decode prog_11_method_50_code 4 = .ok (.iload_n 0, 1) := by decide +kernel
theorem d_Math_floorMod_5 : decode prog_11_method_50_code 5 = .ok (.iload_n 1, 1) := by decide +kernel
theorem d_Math_floorMod_6 : decode prog_11_method_50_code 6 = .ok (.ixor, 1) := by decide +kernel
theorem d_Math_floorMod_7 : decode prog_11_method_50_code 7 = .ok (.ifCond .ge 11, 3) := by decide +kernel
theorem d_Math_floorMod_10 : decode prog_11_method_50_code 10 = .ok (.iload_n 2, 1) := by decide +kernel
theorem d_Math_floorMod_11 : decode prog_11_method_50_code 11 = .ok (.ifCond .eq 7, 3) := by decide +kernel
theorem d_Math_floorMod_14 : decode prog_11_method_50_code 14 = .ok (.iload_n 2, 1) := by decide +kernel
theorem d_Math_floorMod_15 : decode prog_11_method_50_code 15 = .ok (.iload_n 1, 1) := by decide +kernel
theorem d_Math_floorMod_16 : decode prog_11_method_50_code 16 = .ok (.iadd, 1) := by decide +kernel
theorem d_Math_floorMod_17 : decode prog_11_method_50_code 17 = .ok (.ireturn, 1) := by decide +kernel
theorem d_Math_floorMod_18 : decode prog_11_method_50_code 18 = .ok (.iload_n 2, 1) := by decide +kernel
theorem d_Math_floorMod_19 : decode prog_11_method_50_code 19 = .ok (.ireturn, 1) := by decide +kernel
end
section
-- what the bytes say, instruction by instruction
theorem d_Borders_heldIn_0 : decode prog_3_method_15_code 0 = .ok (.iload_n 2, 1) := by decide +kernel
theorem d_Borders_heldIn_1 : decode prog_3_method_15_code 1 = .ok (.istore_n 3, 1) := by decide +kernel
theorem d_Borders_heldIn_2 : decode prog_3_method_15_code 2 = .ok (.iconst 0, 1) := by decide +kernel
theorem d_Borders_heldIn_3 : decode prog_3_method_15_code 3 = .ok (.istore 4, 2) := by decide +kernel
theorem d_Borders_heldIn_5 : decode prog_3_method_15_code 5 = .ok (.iconst 0, 1) := by decide +kernel
theorem d_Borders_heldIn_6 : decode prog_3_method_15_code 6 = .ok (.istore 5, 2) := by decide +kernel
theorem d_Borders_heldIn_8 : decode prog_3_method_15_code 8 = .ok (.iload 5, 2) := by decide +kernel
theorem d_Borders_heldIn_10 : decode prog_3_method_15_code 10 = .ok (.aload_n 0, 1) := by decide +kernel
theorem d_Borders_heldIn_11 : decode prog_3_method_15_code 11 = .ok (.getfield 21, 3) := by decide +kernel
theorem d_Borders_heldIn_14 : decode prog_3_method_15_code 14 = .ok (.if_icmp .ge 65, 3) := by decide +kernel
theorem d_Borders_heldIn_17 : decode prog_3_method_15_code 17 = .ok (.aload_n 0, 1) := by decide +kernel
theorem d_Borders_heldIn_18 : decode prog_3_method_15_code 18 = .ok (.getfield 15, 3) := by decide +kernel
theorem d_Borders_heldIn_21 : decode prog_3_method_15_code 21 = .ok (.iload 5, 2) := by decide +kernel
theorem d_Borders_heldIn_23 : decode prog_3_method_15_code 23 = .ok (.iaload, 1) := by decide +kernel
theorem d_Borders_heldIn_24 : decode prog_3_method_15_code 24 = .ok (.ifCond .ne 49, 3) := by decide +kernel
theorem d_Borders_heldIn_27 : decode prog_3_method_15_code 27 = .ok (.iload 4, 2) := by decide +kernel
theorem d_Borders_heldIn_29 : decode prog_3_method_15_code 29 = .ok (.iload_n 1, 1) := by decide +kernel
theorem d_Borders_heldIn_30 : decode prog_3_method_15_code 30 = .ok (.iconst 1, 1) := by decide +kernel
theorem d_Borders_heldIn_31 : decode prog_3_method_15_code 31 = .ok (.isub, 1) := by decide +kernel
theorem d_Borders_heldIn_32 : decode prog_3_method_15_code 32 = .ok (.if_icmp .ne 18, 3) := by decide +kernel
theorem d_Borders_heldIn_35 : decode prog_3_method_15_code 35 = .ok (.iload_n 3, 1) := by decide +kernel
theorem d_Borders_heldIn_36 : decode prog_3_method_15_code 36 = .ok (.aload_n 0, 1) := by decide +kernel
theorem d_Borders_heldIn_37 : decode prog_3_method_15_code 37 = .ok (.getfield 9, 3) := by decide +kernel
theorem d_Borders_heldIn_40 : decode prog_3_method_15_code 40 = .ok (.iload 5, 2) := by decide +kernel
theorem d_Borders_heldIn_42 : decode prog_3_method_15_code 42 = .ok (.iaload, 1) := by decide +kernel
theorem d_Borders_heldIn_43 : decode prog_3_method_15_code 43 = .ok (.invokestatic 39, 3) := by decide +kernel
theorem d_Borders_heldIn_46 : decode prog_3_method_15_code 46 = .ok (.istore_n 3, 1) := by decide +kernel
theorem d_Borders_heldIn_47 : decode prog_3_method_15_code 47 = .ok (.goto 23, 3) := by decide +kernel
theorem d_Borders_heldIn_50 : decode prog_3_method_15_code 50 = .ok (.iload 4, 2) := by decide +kernel
theorem d_Borders_heldIn_52 : decode prog_3_method_15_code 52 = .ok (.iload_n 1, 1) := by decide +kernel
theorem d_Borders_heldIn_53 : decode prog_3_method_15_code 53 = .ok (.if_icmp .ne 17, 3) := by decide +kernel
theorem d_Borders_heldIn_56 : decode prog_3_method_15_code 56 = .ok (.iload_n 3, 1) := by decide +kernel
theorem d_Borders_heldIn_57 : decode prog_3_method_15_code 57 = .ok (.aload_n 0, 1) := by decide +kernel
theorem d_Borders_heldIn_58 : decode prog_3_method_15_code 58 = .ok (.getfield 9, 3) := by decide +kernel
theorem d_Borders_heldIn_61 : decode prog_3_method_15_code 61 = .ok (.iload 5, 2) := by decide +kernel
theorem d_Borders_heldIn_63 : decode prog_3_method_15_code 63 = .ok (.iaload, 1) := by decide +kernel
theorem d_Borders_heldIn_64 : decode prog_3_method_15_code 64 = .ok (.iconst 1, 1) := by decide +kernel
theorem d_Borders_heldIn_65 : decode prog_3_method_15_code 65 = .ok (.isub, 1) := by decide +kernel
theorem d_Borders_heldIn_66 : decode prog_3_method_15_code 66 = .ok (.invokestatic 45, 3) := by decide +kernel
theorem d_Borders_heldIn_69 : decode prog_3_method_15_code 69 = .ok (.istore_n 3, 1) := by decide +kernel
theorem d_Borders_heldIn_70 : decode prog_3_method_15_code 70 = .ok (.iinc 4 1, 3) := by decide +kernel
theorem d_Borders_heldIn_73 : decode prog_3_method_15_code 73 = .ok (.iinc 5 1, 3) := by decide +kernel
theorem d_Borders_heldIn_76 : decode prog_3_method_15_code 76 = .ok (.goto (-68), 3) := by decide +kernel
theorem d_Borders_heldIn_79 : decode prog_3_method_15_code 79 = .ok (.iload_n 3, 1) := by decide +kernel
theorem d_Borders_heldIn_80 : decode prog_3_method_15_code 80 = .ok (.ireturn, 1) := by decide +kernel
theorem d_Borders_blendingAt_0 : decode prog_3_method_16_code 0 = .ok (.iconst 0, 1) := by decide +kernel
theorem d_Borders_blendingAt_1 : decode prog_3_method_16_code 1 = .ok (.istore_n 2, 1) := by decide +kernel
theorem d_Borders_blendingAt_2 : decode prog_3_method_16_code 2 = .ok (.iload_n 2, 1) := by decide +kernel
theorem d_Borders_blendingAt_3 : decode prog_3_method_16_code 3 = .ok (.aload_n 0, 1) := by decide +kernel
theorem d_Borders_blendingAt_4 : decode prog_3_method_16_code 4 = .ok (.getfield 21, 3) := by decide +kernel
theorem d_Borders_blendingAt_7 : decode prog_3_method_16_code 7 = .ok (.if_icmp .ge 55, 3) := by decide +kernel
theorem d_Borders_blendingAt_10 : decode prog_3_method_16_code 10 = .ok (.aload_n 0, 1) := by decide +kernel
theorem d_Borders_blendingAt_11 : decode prog_3_method_16_code 11 = .ok (.getfield 15, 3) := by decide +kernel
theorem d_Borders_blendingAt_14 : decode prog_3_method_16_code 14 = .ok (.iload_n 2, 1) := by decide +kernel
theorem d_Borders_blendingAt_15 : decode prog_3_method_16_code 15 = .ok (.iaload, 1) := by decide +kernel
theorem d_Borders_blendingAt_16 : decode prog_3_method_16_code 16 = .ok (.iconst 1, 1) := by decide +kernel
theorem d_Borders_blendingAt_17 : decode prog_3_method_16_code 17 = .ok (.if_icmp .ne 39, 3) := by decide +kernel
theorem d_Borders_blendingAt_20 : decode prog_3_method_16_code 20 = .ok (.iload_n 1, 1) := by decide +kernel
theorem d_Borders_blendingAt_21 : decode prog_3_method_16_code 21 = .ok (.aload_n 0, 1) := by decide +kernel
theorem d_Borders_blendingAt_22 : decode prog_3_method_16_code 22 = .ok (.getfield 9, 3) := by decide +kernel
theorem d_Borders_blendingAt_25 : decode prog_3_method_16_code 25 = .ok (.iload_n 2, 1) := by decide +kernel
theorem d_Borders_blendingAt_26 : decode prog_3_method_16_code 26 = .ok (.iaload, 1) := by decide +kernel
theorem d_Borders_blendingAt_27 : decode prog_3_method_16_code 27 = .ok (.aload_n 0, 1) := by decide +kernel
theorem d_Borders_blendingAt_28 : decode prog_3_method_16_code 28 = .ok (.getfield 18, 3) := by decide +kernel
theorem d_Borders_blendingAt_31 : decode prog_3_method_16_code 31 = .ok (.iload_n 2, 1) := by decide +kernel
theorem d_Borders_blendingAt_32 : decode prog_3_method_16_code 32 = .ok (.iaload, 1) := by decide +kernel
theorem d_Borders_blendingAt_33 : decode prog_3_method_16_code 33 = .ok (.isub, 1) := by decide +kernel
theorem d_Borders_blendingAt_34 : decode prog_3_method_16_code 34 = .ok (.if_icmp .lt 22, 3) := by decide +kernel
theorem d_Borders_blendingAt_37 : decode prog_3_method_16_code 37 = .ok (.iload_n 1, 1) := by decide +kernel
theorem d_Borders_blendingAt_38 : decode prog_3_method_16_code 38 = .ok (.aload_n 0, 1) := by decide +kernel
theorem d_Borders_blendingAt_39 : decode prog_3_method_16_code 39 = .ok (.getfield 9, 3) := by decide +kernel
theorem d_Borders_blendingAt_42 : decode prog_3_method_16_code 42 = .ok (.iload_n 2, 1) := by decide +kernel
theorem d_Borders_blendingAt_43 : decode prog_3_method_16_code 43 = .ok (.iaload, 1) := by decide +kernel
theorem d_Borders_blendingAt_44 : decode prog_3_method_16_code 44 = .ok (.aload_n 0, 1) := by decide +kernel
theorem d_Borders_blendingAt_45 : decode prog_3_method_16_code 45 = .ok (.getfield 18, 3) := by decide +kernel
theorem d_Borders_blendingAt_48 : decode prog_3_method_16_code 48 = .ok (.iload_n 2, 1) := by decide +kernel
theorem d_Borders_blendingAt_49 : decode prog_3_method_16_code 49 = .ok (.iaload, 1) := by decide +kernel
theorem d_Borders_blendingAt_50 : decode prog_3_method_16_code 50 = .ok (.iadd, 1) := by decide +kernel
theorem d_Borders_blendingAt_51 : decode prog_3_method_16_code 51 = .ok (.if_icmp .gt 5, 3) := by decide +kernel
theorem d_Borders_blendingAt_54 : decode prog_3_method_16_code 54 = .ok (.iload_n 2, 1) := by decide +kernel
theorem d_Borders_blendingAt_55 : decode prog_3_method_16_code 55 = .ok (.ireturn, 1) := by decide +kernel
theorem d_Borders_blendingAt_56 : decode prog_3_method_16_code 56 = .ok (.iinc 2 1, 3) := by decide +kernel
theorem d_Borders_blendingAt_59 : decode prog_3_method_16_code 59 = .ok (.goto (-57), 3) := by decide +kernel
theorem d_Borders_blendingAt_62 : decode prog_3_method_16_code 62 = .ok (.iconst (-1), 1) := by decide +kernel
theorem d_Borders_blendingAt_63 : decode prog_3_method_16_code 63 = .ok (.ireturn, 1) := by decide +kernel
theorem d_GT_noteValues_0 : decode prog_1_method_47_code 0 = .ok (.iconst 0, 1) := by decide +kernel
theorem d_GT_noteValues_1 : decode prog_1_method_47_code 1 = .ok (.istore_n 2, 1) := by decide +kernel
theorem d_GT_noteValues_2 : decode prog_1_method_47_code 2 = .ok (.iload_n 2, 1) := by decide +kernel
theorem d_GT_noteValues_3 : decode prog_1_method_47_code 3 = .ok (.aload_n 1, 1) := by decide +kernel
theorem d_GT_noteValues_4 : decode prog_1_method_47_code 4 = .ok (.arraylength, 1) := by decide +kernel
theorem d_GT_noteValues_5 : decode prog_1_method_47_code 5 = .ok (.if_icmp .ge 17, 3) := by decide +kernel
theorem d_GT_noteValues_8 : decode prog_1_method_47_code 8 = .ok (.aload_n 1, 1) := by decide +kernel
theorem d_GT_noteValues_9 : decode prog_1_method_47_code 9 = .ok (.iload_n 2, 1) := by decide +kernel
theorem d_GT_noteValues_10 : decode prog_1_method_47_code 10 = .ok (.aload_n 0, 1) := by decide +kernel
theorem d_GT_noteValues_11 : decode prog_1_method_47_code 11 = .ok (.iload_n 2, 1) := by decide +kernel
theorem d_GT_noteValues_12 : decode prog_1_method_47_code 12 = .ok (.invokevirtual 295, 3) := by decide +kernel
theorem d_GT_noteValues_15 : decode prog_1_method_47_code 15 = .ok (.iastore, 1) := by decide +kernel
theorem d_GT_noteValues_16 : decode prog_1_method_47_code 16 = .ok (.iinc 2 1, 3) := by decide +kernel
theorem d_GT_noteValues_19 : decode prog_1_method_47_code 19 = .ok (.goto (-17), 3) := by decide +kernel
theorem d_GT_noteValues_22 : decode prog_1_method_47_code 22 = .ok (.return_, 1) := by decide +kernel
theorem d_GT_blendedValue_0 : decode prog_1_method_46_code 0 = .ok (.aload_n 0, 1) := by decide +kernel
theorem d_GT_blendedValue_1 : decode prog_1_method_46_code 1 = .ok (.getfield 47, 3) := by decide +kernel
theorem d_GT_blendedValue_4 : decode prog_1_method_46_code 4 = .ok (.getfield 280, 3) := by decide +kernel
theorem d_GT_blendedValue_7 : decode prog_1_method_46_code 7 = .ok (.aload_n 0, 1) := by decide +kernel
theorem d_GT_blendedValue_8 : decode prog_1_method_46_code 8 = .ok (.getfield 51, 3) := by decide +kernel
theorem d_GT_blendedValue_11 : decode prog_1_method_46_code 11 = .ok (.getfield 280, 3) := by decide +kernel
theorem d_GT_blendedValue_14 : decode prog_1_method_46_code 14 = .ok (.imul, 1) := by decide +kernel
theorem d_GT_blendedValue_15 : decode prog_1_method_46_code 15 = .ok (.istore_n 2, 1) := by decide +kernel
theorem d_GT_blendedValue_16 : decode prog_1_method_46_code 16 = .ok (.iload_n 2, 1) := by decide +kernel
theorem d_GT_blendedValue_17 : decode prog_1_method_46_code 17 = .ok (.ifCond .le 27, 3) := by decide +kernel
theorem d_GT_blendedValue_20 : decode prog_1_method_46_code 20 = .ok (.aload_n 0, 1) := by decide +kernel
theorem d_GT_blendedValue_21 : decode prog_1_method_46_code 21 = .ok (.getfield 12, 3) := by decide +kernel
theorem d_GT_blendedValue_24 : decode prog_1_method_46_code 24 = .ok (.getfield 77, 3) := by decide +kernel
theorem d_GT_blendedValue_27 : decode prog_1_method_46_code 27 = .ok (.aload_n 0, 1) := by decide +kernel
theorem d_GT_blendedValue_28 : decode prog_1_method_46_code 28 = .ok (.getfield 47, 3) := by decide +kernel
theorem d_GT_blendedValue_31 : decode prog_1_method_46_code 31 = .ok (.aload_n 0, 1) := by decide +kernel
theorem d_GT_blendedValue_32 : decode prog_1_method_46_code 32 = .ok (.getfield 51, 3) := by decide +kernel
theorem d_GT_blendedValue_35 : decode prog_1_method_46_code 35 = .ok (.iload_n 1, 1) := by decide +kernel
theorem d_GT_blendedValue_36 : decode prog_1_method_46_code 36 = .ok (.invokevirtual 298, 3) := by decide +kernel
theorem d_GT_blendedValue_39 : decode prog_1_method_46_code 39 = .ok (.iload_n 2, 1) := by decide +kernel
theorem d_GT_blendedValue_40 : decode prog_1_method_46_code 40 = .ok (.idiv, 1) := by decide +kernel
theorem d_GT_blendedValue_41 : decode prog_1_method_46_code 41 = .ok (.goto 4, 3) := by decide +kernel
theorem d_GT_blendedValue_44 : decode prog_1_method_46_code 44 = .ok (.iconst 0, 1) := by decide +kernel
theorem d_GT_blendedValue_45 : decode prog_1_method_46_code 45 = .ok (.ireturn, 1) := by decide +kernel
theorem d_Table_numerator_0 : decode prog_7_method_13_code 0 = .ok (.aload_n 1, 1) := by decide +kernel
theorem d_Table_numerator_1 : decode prog_7_method_13_code 1 = .ok (.getfield 60, 3) := by decide +kernel
theorem d_Table_numerator_4 : decode prog_7_method_13_code 4 = .ok (.aload_n 1, 1) := by decide +kernel
theorem d_Table_numerator_5 : decode prog_7_method_13_code 5 = .ok (.getfield 65, 3) := by decide +kernel
theorem d_Table_numerator_8 : decode prog_7_method_13_code 8 = .ok (.isub, 1) := by decide +kernel
theorem d_Table_numerator_9 : decode prog_7_method_13_code 9 = .ok (.istore 4, 2) := by decide +kernel
theorem d_Table_numerator_11 : decode prog_7_method_13_code 11 = .ok (.aload_n 2, 1) := by decide +kernel
theorem d_Table_numerator_12 : decode prog_7_method_13_code 12 = .ok (.getfield 60, 3) := by decide +kernel
theorem d_Table_numerator_15 : decode prog_7_method_13_code 15 = .ok (.aload_n 2, 1) := by decide +kernel
theorem d_Table_numerator_16 : decode prog_7_method_13_code 16 = .ok (.getfield 65, 3) := by decide +kernel
theorem d_Table_numerator_19 : decode prog_7_method_13_code 19 = .ok (.isub, 1) := by decide +kernel
theorem d_Table_numerator_20 : decode prog_7_method_13_code 20 = .ok (.istore 5, 2) := by decide +kernel
theorem d_Table_numerator_22 : decode prog_7_method_13_code 22 = .ok (.iload 4, 2) := by decide +kernel
theorem d_Table_numerator_24 : decode prog_7_method_13_code 24 = .ok (.iload 5, 2) := by decide +kernel
theorem d_Table_numerator_26 : decode prog_7_method_13_code 26 = .ok (.imul, 1) := by decide +kernel
theorem d_Table_numerator_27 : decode prog_7_method_13_code 27 = .ok (.aload_n 0, 1) := by decide +kernel
theorem d_Table_numerator_28 : decode prog_7_method_13_code 28 = .ok (.aload_n 1, 1) := by decide +kernel
theorem d_Table_numerator_29 : decode prog_7_method_13_code 29 = .ok (.getfield 68, 3) := by decide +kernel
theorem d_Table_numerator_32 : decode prog_7_method_13_code 32 = .ok (.aload_n 2, 1) := by decide +kernel
theorem d_Table_numerator_33 : decode prog_7_method_13_code 33 = .ok (.getfield 68, 3) := by decide +kernel
theorem d_Table_numerator_36 : decode prog_7_method_13_code 36 = .ok (.invokestatic 49, 3) := by decide +kernel
theorem d_Table_numerator_39 : decode prog_7_method_13_code 39 = .ok (.iload_n 3, 1) := by decide +kernel
theorem d_Table_numerator_40 : decode prog_7_method_13_code 40 = .ok (.invokevirtual 57, 3) := by decide +kernel
theorem d_Table_numerator_43 : decode prog_7_method_13_code 43 = .ok (.imul, 1) := by decide +kernel
theorem d_Table_numerator_44 : decode prog_7_method_13_code 44 = .ok (.aload_n 1, 1) := by decide +kernel
theorem d_Table_numerator_45 : decode prog_7_method_13_code 45 = .ok (.getfield 65, 3) := by decide +kernel
theorem d_Table_numerator_48 : decode prog_7_method_13_code 48 = .ok (.iload 5, 2) := by decide +kernel
theorem d_Table_numerator_50 : decode prog_7_method_13_code 50 = .ok (.imul, 1) := by decide +kernel
theorem d_Table_numerator_51 : decode prog_7_method_13_code 51 = .ok (.aload_n 0, 1) := by decide +kernel
theorem d_Table_numerator_52 : decode prog_7_method_13_code 52 = .ok (.aload_n 1, 1) := by decide +kernel
theorem d_Table_numerator_53 : decode prog_7_method_13_code 53 = .ok (.getfield 71, 3) := by decide +kernel
theorem d_Table_numerator_56 : decode prog_7_method_13_code 56 = .ok (.aload_n 2, 1) := by decide +kernel
theorem d_Table_numerator_57 : decode prog_7_method_13_code 57 = .ok (.getfield 68, 3) := by decide +kernel
theorem d_Table_numerator_60 : decode prog_7_method_13_code 60 = .ok (.invokestatic 49, 3) := by decide +kernel
theorem d_Table_numerator_63 : decode prog_7_method_13_code 63 = .ok (.iload_n 3, 1) := by decide +kernel
theorem d_Table_numerator_64 : decode prog_7_method_13_code 64 = .ok (.invokevirtual 57, 3) := by decide +kernel
theorem d_Table_numerator_67 : decode prog_7_method_13_code 67 = .ok (.imul, 1) := by decide +kernel
theorem d_Table_numerator_68 : decode prog_7_method_13_code 68 = .ok (.iadd, 1) := by decide +kernel
theorem d_Table_numerator_69 : decode prog_7_method_13_code 69 = .ok (.iload 4, 2) := by decide +kernel
theorem d_Table_numerator_71 : decode prog_7_method_13_code 71 = .ok (.aload_n 2, 1) := by decide +kernel
theorem d_Table_numerator_72 : decode prog_7_method_13_code 72 = .ok (.getfield 65, 3) := by decide +kernel
theorem d_Table_numerator_75 : decode prog_7_method_13_code 75 = .ok (.imul, 1) := by decide +kernel
theorem d_Table_numerator_76 : decode prog_7_method_13_code 76 = .ok (.aload_n 0, 1) := by decide +kernel
theorem d_Table_numerator_77 : decode prog_7_method_13_code 77 = .ok (.aload_n 1, 1) := by decide +kernel
theorem d_Table_numerator_78 : decode prog_7_method_13_code 78 = .ok (.getfield 68, 3) := by decide +kernel
theorem d_Table_numerator_81 : decode prog_7_method_13_code 81 = .ok (.aload_n 2, 1) := by decide +kernel
theorem d_Table_numerator_82 : decode prog_7_method_13_code 82 = .ok (.getfield 71, 3) := by decide +kernel
theorem d_Table_numerator_85 : decode prog_7_method_13_code 85 = .ok (.invokestatic 49, 3) := by decide +kernel
theorem d_Table_numerator_88 : decode prog_7_method_13_code 88 = .ok (.iload_n 3, 1) := by decide +kernel
theorem d_Table_numerator_89 : decode prog_7_method_13_code 89 = .ok (.invokevirtual 57, 3) := by decide +kernel
theorem d_Table_numerator_92 : decode prog_7_method_13_code 92 = .ok (.imul, 1) := by decide +kernel
theorem d_Table_numerator_93 : decode prog_7_method_13_code 93 = .ok (.iadd, 1) := by decide +kernel
theorem d_Table_numerator_94 : decode prog_7_method_13_code 94 = .ok (.aload_n 1, 1) := by decide +kernel
theorem d_Table_numerator_95 : decode prog_7_method_13_code 95 = .ok (.getfield 65, 3) := by decide +kernel
theorem d_Table_numerator_98 : decode prog_7_method_13_code 98 = .ok (.aload_n 2, 1) := by decide +kernel
theorem d_Table_numerator_99 : decode prog_7_method_13_code 99 = .ok (.getfield 65, 3) := by decide +kernel
theorem d_Table_numerator_102 : decode prog_7_method_13_code 102 = .ok (.imul, 1) := by decide +kernel
theorem d_Table_numerator_103 : decode prog_7_method_13_code 103 = .ok (.aload_n 0, 1) := by decide +kernel
theorem d_Table_numerator_104 : decode prog_7_method_13_code 104 = .ok (.aload_n 1, 1) := by decide +kernel
theorem d_Table_numerator_105 : decode prog_7_method_13_code 105 = .ok (.getfield 71, 3) := by decide +kernel
theorem d_Table_numerator_108 : decode prog_7_method_13_code 108 = .ok (.aload_n 2, 1) := by decide +kernel
theorem d_Table_numerator_109 : decode prog_7_method_13_code 109 = .ok (.getfield 71, 3) := by decide +kernel
theorem d_Table_numerator_112 : decode prog_7_method_13_code 112 = .ok (.invokestatic 49, 3) := by decide +kernel
theorem d_Table_numerator_115 : decode prog_7_method_13_code 115 = .ok (.iload_n 3, 1) := by decide +kernel
theorem d_Table_numerator_116 : decode prog_7_method_13_code 116 = .ok (.invokevirtual 57, 3) := by decide +kernel
theorem d_Table_numerator_119 : decode prog_7_method_13_code 119 = .ok (.imul, 1) := by decide +kernel
theorem d_Table_numerator_120 : decode prog_7_method_13_code 120 = .ok (.iadd, 1) := by decide +kernel
theorem d_Table_numerator_121 : decode prog_7_method_13_code 121 = .ok (.ireturn, 1) := by decide +kernel
theorem d_State_putPoint_0 : decode prog_6_method_10_code 0 = .ok (.aload_n 0, 1) := by decide +kernel
theorem d_State_putPoint_1 : decode prog_6_method_10_code 1 = .ok (.getfield 31, 3) := by decide +kernel
theorem d_State_putPoint_4 : decode prog_6_method_10_code 4 = .ok (.iconst 0, 1) := by decide +kernel
theorem d_State_putPoint_5 : decode prog_6_method_10_code 5 = .ok (.iload_n 1, 1) := by decide +kernel
theorem d_State_putPoint_6 : decode prog_6_method_10_code 6 = .ok (.iastore, 1) := by decide +kernel
theorem d_State_putPoint_7 : decode prog_6_method_10_code 7 = .ok (.aload_n 0, 1) := by decide +kernel
theorem d_State_putPoint_8 : decode prog_6_method_10_code 8 = .ok (.getfield 31, 3) := by decide +kernel
theorem d_State_putPoint_11 : decode prog_6_method_10_code 11 = .ok (.iconst 1, 1) := by decide +kernel
theorem d_State_putPoint_12 : decode prog_6_method_10_code 12 = .ok (.iload_n 2, 1) := by decide +kernel
theorem d_State_putPoint_13 : decode prog_6_method_10_code 13 = .ok (.iastore, 1) := by decide +kernel
theorem d_State_putPoint_14 : decode prog_6_method_10_code 14 = .ok (.aload_n 0, 1) := by decide +kernel
theorem d_State_putPoint_15 : decode prog_6_method_10_code 15 = .ok (.getfield 35, 3) := by decide +kernel
theorem d_State_putPoint_18 : decode prog_6_method_10_code 18 = .ok (.iconst 0, 1) := by decide +kernel
theorem d_State_putPoint_19 : decode prog_6_method_10_code 19 = .ok (.aload_n 0, 1) := by decide +kernel
theorem d_State_putPoint_20 : decode prog_6_method_10_code 20 = .ok (.getfield 12, 3) := by decide +kernel
theorem d_State_putPoint_23 : decode prog_6_method_10_code 23 = .ok (.getfield 86, 3) := by decide +kernel
theorem d_State_putPoint_26 : decode prog_6_method_10_code 26 = .ok (.aload_n 0, 1) := by decide +kernel
theorem d_State_putPoint_27 : decode prog_6_method_10_code 27 = .ok (.getfield 35, 3) := by decide +kernel
theorem d_State_putPoint_30 : decode prog_6_method_10_code 30 = .ok (.iconst 0, 1) := by decide +kernel
theorem d_State_putPoint_31 : decode prog_6_method_10_code 31 = .ok (.iaload, 1) := by decide +kernel
theorem d_State_putPoint_32 : decode prog_6_method_10_code 32 = .ok (.iload_n 1, 1) := by decide +kernel
theorem d_State_putPoint_33 : decode prog_6_method_10_code 33 = .ok (.invokevirtual 115, 3) := by decide +kernel
theorem d_State_putPoint_36 : decode prog_6_method_10_code 36 = .ok (.iastore, 1) := by decide +kernel
theorem d_State_putPoint_37 : decode prog_6_method_10_code 37 = .ok (.aload_n 0, 1) := by decide +kernel
theorem d_State_putPoint_38 : decode prog_6_method_10_code 38 = .ok (.getfield 35, 3) := by decide +kernel
theorem d_State_putPoint_41 : decode prog_6_method_10_code 41 = .ok (.iconst 1, 1) := by decide +kernel
theorem d_State_putPoint_42 : decode prog_6_method_10_code 42 = .ok (.aload_n 0, 1) := by decide +kernel
theorem d_State_putPoint_43 : decode prog_6_method_10_code 43 = .ok (.getfield 12, 3) := by decide +kernel
theorem d_State_putPoint_46 : decode prog_6_method_10_code 46 = .ok (.getfield 96, 3) := by decide +kernel
theorem d_State_putPoint_49 : decode prog_6_method_10_code 49 = .ok (.aload_n 0, 1) := by decide +kernel
theorem d_State_putPoint_50 : decode prog_6_method_10_code 50 = .ok (.getfield 35, 3) := by decide +kernel
theorem d_State_putPoint_53 : decode prog_6_method_10_code 53 = .ok (.iconst 1, 1) := by decide +kernel
theorem d_State_putPoint_54 : decode prog_6_method_10_code 54 = .ok (.iaload, 1) := by decide +kernel
theorem d_State_putPoint_55 : decode prog_6_method_10_code 55 = .ok (.iload_n 2, 1) := by decide +kernel
theorem d_State_putPoint_56 : decode prog_6_method_10_code 56 = .ok (.invokevirtual 115, 3) := by decide +kernel
theorem d_State_putPoint_59 : decode prog_6_method_10_code 59 = .ok (.iastore, 1) := by decide +kernel
theorem d_State_putPoint_60 : decode prog_6_method_10_code 60 = .ok (.return_, 1) := by decide +kernel
theorem d_Borders_zoneAfter_0 : decode prog_3_method_14_code 0 = .ok (.iload_n 1, 1) := by decide +kernel
theorem d_Borders_zoneAfter_1 : decode prog_3_method_14_code 1 = .ok (.istore_n 3, 1) := by decide +kernel
theorem d_Borders_zoneAfter_2 : decode prog_3_method_14_code 2 = .ok (.iconst 0, 1) := by decide +kernel
theorem d_Borders_zoneAfter_3 : decode prog_3_method_14_code 3 = .ok (.istore 4, 2) := by decide +kernel
theorem d_Borders_zoneAfter_5 : decode prog_3_method_14_code 5 = .ok (.iconst 0, 1) := by decide +kernel
theorem d_Borders_zoneAfter_6 : decode prog_3_method_14_code 6 = .ok (.istore 5, 2) := by decide +kernel
theorem d_Borders_zoneAfter_8 : decode prog_3_method_14_code 8 = .ok (.iload 5, 2) := by decide +kernel
theorem d_Borders_zoneAfter_10 : decode prog_3_method_14_code 10 = .ok (.aload_n 0, 1) := by decide +kernel
theorem d_Borders_zoneAfter_11 : decode prog_3_method_14_code 11 = .ok (.getfield 21, 3) := by decide +kernel
theorem d_Borders_zoneAfter_14 : decode prog_3_method_14_code 14 = .ok (.if_icmp .ge 50, 3) := by decide +kernel
theorem d_Borders_zoneAfter_17 : decode prog_3_method_14_code 17 = .ok (.aload_n 0, 1) := by decide +kernel
theorem d_Borders_zoneAfter_18 : decode prog_3_method_14_code 18 = .ok (.getfield 15, 3) := by decide +kernel
theorem d_Borders_zoneAfter_21 : decode prog_3_method_14_code 21 = .ok (.iload 5, 2) := by decide +kernel
theorem d_Borders_zoneAfter_23 : decode prog_3_method_14_code 23 = .ok (.iaload, 1) := by decide +kernel
theorem d_Borders_zoneAfter_24 : decode prog_3_method_14_code 24 = .ok (.ifCond .ne 34, 3) := by decide +kernel
theorem d_Borders_zoneAfter_27 : decode prog_3_method_14_code 27 = .ok (.iload 4, 2) := by decide +kernel
theorem d_Borders_zoneAfter_29 : decode prog_3_method_14_code 29 = .ok (.iload_n 3, 1) := by decide +kernel
theorem d_Borders_zoneAfter_30 : decode prog_3_method_14_code 30 = .ok (.if_icmp .ne 25, 3) := by decide +kernel
theorem d_Borders_zoneAfter_33 : decode prog_3_method_14_code 33 = .ok (.iload_n 2, 1) := by decide +kernel
theorem d_Borders_zoneAfter_34 : decode prog_3_method_14_code 34 = .ok (.aload_n 0, 1) := by decide +kernel
theorem d_Borders_zoneAfter_35 : decode prog_3_method_14_code 35 = .ok (.getfield 9, 3) := by decide +kernel
theorem d_Borders_zoneAfter_38 : decode prog_3_method_14_code 38 = .ok (.iload 5, 2) := by decide +kernel
theorem d_Borders_zoneAfter_40 : decode prog_3_method_14_code 40 = .ok (.iaload, 1) := by decide +kernel
theorem d_Borders_zoneAfter_41 : decode prog_3_method_14_code 41 = .ok (.aload_n 0, 1) := by decide +kernel
theorem d_Borders_zoneAfter_42 : decode prog_3_method_14_code 42 = .ok (.getfield 18, 3) := by decide +kernel
theorem d_Borders_zoneAfter_45 : decode prog_3_method_14_code 45 = .ok (.iload 5, 2) := by decide +kernel
theorem d_Borders_zoneAfter_47 : decode prog_3_method_14_code 47 = .ok (.iaload, 1) := by decide +kernel
theorem d_Borders_zoneAfter_48 : decode prog_3_method_14_code 48 = .ok (.iadd, 1) := by decide +kernel
theorem d_Borders_zoneAfter_49 : decode prog_3_method_14_code 49 = .ok (.if_icmp .lt 6, 3) := by decide +kernel
theorem d_Borders_zoneAfter_52 : decode prog_3_method_14_code 52 = .ok (.iinc 3 1, 3) := by decide +kernel
theorem d_Borders_zoneAfter_55 : decode prog_3_method_14_code 55 = .ok (.iinc 4 1, 3) := by decide +kernel
theorem d_Borders_zoneAfter_58 : decode prog_3_method_14_code 58 = .ok (.iinc 5 1, 3) := by decide +kernel
theorem d_Borders_zoneAfter_61 : decode prog_3_method_14_code 61 = .ok (.goto (-53), 3) := by decide +kernel
theorem d_Borders_zoneAfter_64 : decode prog_3_method_14_code 64 = .ok (.aload_n 0, 1) := by decide +kernel
theorem d_Borders_zoneAfter_65 : decode prog_3_method_14_code 65 = .ok (.getfield 21, 3) := by decide +kernel
theorem d_Borders_zoneAfter_68 : decode prog_3_method_14_code 68 = .ok (.iconst 1, 1) := by decide +kernel
theorem d_Borders_zoneAfter_69 : decode prog_3_method_14_code 69 = .ok (.isub, 1) := by decide +kernel
theorem d_Borders_zoneAfter_70 : decode prog_3_method_14_code 70 = .ok (.istore 5, 2) := by decide +kernel
theorem d_Borders_zoneAfter_72 : decode prog_3_method_14_code 72 = .ok (.iload 5, 2) := by decide +kernel
theorem d_Borders_zoneAfter_74 : decode prog_3_method_14_code 74 = .ok (.ifCond .lt 50, 3) := by decide +kernel
theorem d_Borders_zoneAfter_77 : decode prog_3_method_14_code 77 = .ok (.aload_n 0, 1) := by decide +kernel
theorem d_Borders_zoneAfter_78 : decode prog_3_method_14_code 78 = .ok (.getfield 15, 3) := by decide +kernel
theorem d_Borders_zoneAfter_81 : decode prog_3_method_14_code 81 = .ok (.iload 5, 2) := by decide +kernel
theorem d_Borders_zoneAfter_83 : decode prog_3_method_14_code 83 = .ok (.iaload, 1) := by decide +kernel
theorem d_Borders_zoneAfter_84 : decode prog_3_method_14_code 84 = .ok (.ifCond .ne 34, 3) := by decide +kernel
theorem d_Borders_zoneAfter_87 : decode prog_3_method_14_code 87 = .ok (.iload 4, 2) := by decide +kernel
theorem d_Borders_zoneAfter_89 : decode prog_3_method_14_code 89 = .ok (.iload_n 3, 1) := by decide +kernel
theorem d_Borders_zoneAfter_90 : decode prog_3_method_14_code 90 = .ok (.if_icmp .ne 25, 3) := by decide +kernel
theorem d_Borders_zoneAfter_93 : decode prog_3_method_14_code 93 = .ok (.iload_n 2, 1) := by decide +kernel
theorem d_Borders_zoneAfter_94 : decode prog_3_method_14_code 94 = .ok (.aload_n 0, 1) := by decide +kernel
theorem d_Borders_zoneAfter_95 : decode prog_3_method_14_code 95 = .ok (.getfield 9, 3) := by decide +kernel
theorem d_Borders_zoneAfter_98 : decode prog_3_method_14_code 98 = .ok (.iload 5, 2) := by decide +kernel
theorem d_Borders_zoneAfter_100 : decode prog_3_method_14_code 100 = .ok (.iaload, 1) := by decide +kernel
theorem d_Borders_zoneAfter_101 : decode prog_3_method_14_code 101 = .ok (.aload_n 0, 1) := by decide +kernel
theorem d_Borders_zoneAfter_102 : decode prog_3_method_14_code 102 = .ok (.getfield 18, 3) := by decide +kernel
theorem d_Borders_zoneAfter_105 : decode prog_3_method_14_code 105 = .ok (.iload 5, 2) := by decide +kernel
theorem d_Borders_zoneAfter_107 : decode prog_3_method_14_code 107 = .ok (.iaload, 1) := by decide +kernel
theorem d_Borders_zoneAfter_108 : decode prog_3_method_14_code 108 = .ok (.isub, 1) := by decide +kernel
theorem d_Borders_zoneAfter_109 : decode prog_3_method_14_code 109 = .ok (.if_icmp .ge 6, 3) := by decide +kernel
theorem d_Borders_zoneAfter_112 : decode prog_3_method_14_code 112 = .ok (.iinc 3 (-1), 3) := by decide +kernel
theorem d_Borders_zoneAfter_115 : decode prog_3_method_14_code 115 = .ok (.iinc 4 (-1), 3) := by decide +kernel
theorem d_Borders_zoneAfter_118 : decode prog_3_method_14_code 118 = .ok (.iinc 5 (-1), 3) := by decide +kernel
theorem d_Borders_zoneAfter_121 : decode prog_3_method_14_code 121 = .ok (.goto (-49), 3) := by decide +kernel
theorem d_Borders_zoneAfter_124 : decode prog_3_method_14_code 124 = .ok (.iload_n 3, 1) := by decide +kernel
theorem d_Borders_zoneAfter_125 : decode prog_3_method_14_code 125 = .ok (.ireturn, 1) := by decide +kernel
theorem d_GT_greatestDifference_0 : decode prog_1_method_48_code 0 = .ok (.iconst 0, 1) := by decide +kernel
theorem d_GT_greatestDifference_1 : decode prog_1_method_48_code 1 = .ok (.istore_n 1, 1) := by decide +kernel
theorem d_GT_greatestDifference_2 : decode prog_1_method_48_code 2 = .ok (.iconst 0, 1) := by decide +kernel
theorem d_GT_greatestDifference_3 : decode prog_1_method_48_code 3 = .ok (.istore_n 2, 1) := by decide +kernel
theorem d_GT_greatestDifference_4 : decode prog_1_method_48_code 4 = .ok (.iload_n 2, 1) := by decide +kernel
theorem d_GT_greatestDifference_5 : decode prog_1_method_48_code 5 = .ok (.iconst 3, 1) := by decide +kernel
theorem d_GT_greatestDifference_6 : decode prog_1_method_48_code 6 = .ok (.if_icmp .ge 30, 3) := by decide +kernel
theorem d_GT_greatestDifference_9 : decode prog_1_method_48_code 9 = .ok (.iload_n 1, 1) := by decide +kernel
theorem d_GT_greatestDifference_10 : decode prog_1_method_48_code 10 = .ok (.aload_n 0, 1) := by decide +kernel
theorem d_GT_greatestDifference_11 : decode prog_1_method_48_code 11 = .ok (.getfield 58, 3) := by decide +kernel
theorem d_GT_greatestDifference_14 : decode prog_1_method_48_code 14 = .ok (.iload_n 2, 1) := by decide +kernel
theorem d_GT_greatestDifference_15 : decode prog_1_method_48_code 15 = .ok (.iaload, 1) := by decide +kernel
theorem d_GT_greatestDifference_16 : decode prog_1_method_48_code 16 = .ok (.aload_n 0, 1) := by decide +kernel
theorem d_GT_greatestDifference_17 : decode prog_1_method_48_code 17 = .ok (.getfield 54, 3) := by decide +kernel
theorem d_GT_greatestDifference_20 : decode prog_1_method_48_code 20 = .ok (.iload_n 2, 1) := by decide +kernel
theorem d_GT_greatestDifference_21 : decode prog_1_method_48_code 21 = .ok (.iaload, 1) := by decide +kernel
theorem d_GT_greatestDifference_22 : decode prog_1_method_48_code 22 = .ok (.isub, 1) := by decide +kernel
theorem d_GT_greatestDifference_23 : decode prog_1_method_48_code 23 = .ok (.invokestatic 337, 3) := by decide +kernel
theorem d_GT_greatestDifference_26 : decode prog_1_method_48_code 26 = .ok (.invokestatic 340, 3) := by decide +kernel
theorem d_GT_greatestDifference_29 : decode prog_1_method_48_code 29 = .ok (.istore_n 1, 1) := by decide +kernel
theorem d_GT_greatestDifference_30 : decode prog_1_method_48_code 30 = .ok (.iinc 2 1, 3) := by decide +kernel
theorem d_GT_greatestDifference_33 : decode prog_1_method_48_code 33 = .ok (.goto (-29), 3) := by decide +kernel
theorem d_GT_greatestDifference_36 : decode prog_1_method_48_code 36 = .ok (.iload_n 1, 1) := by decide +kernel
theorem d_GT_greatestDifference_37 : decode prog_1_method_48_code 37 = .ok (.ireturn, 1) := by decide +kernel
theorem d_State_noteEntry_0 : decode prog_6_method_11_code 0 = .ok (.aload_n 0, 1) := by decide +kernel
theorem d_State_noteEntry_1 : decode prog_6_method_11_code 1 = .ok (.getfield 41, 3) := by decide +kernel
theorem d_State_noteEntry_4 : decode prog_6_method_11_code 4 = .ok (.invokevirtual 119, 3) := by decide +kernel
theorem d_State_noteEntry_7 : decode prog_6_method_11_code 7 = .ok (.aload_n 0, 1) := by decide +kernel
theorem d_State_noteEntry_8 : decode prog_6_method_11_code 8 = .ok (.getfield 41, 3) := by decide +kernel
theorem d_State_noteEntry_11 : decode prog_6_method_11_code 11 = .ok (.iconst 0, 1) := by decide +kernel
theorem d_State_noteEntry_12 : decode prog_6_method_11_code 12 = .ok (.aload_n 0, 1) := by decide +kernel
theorem d_State_noteEntry_13 : decode prog_6_method_11_code 13 = .ok (.getfield 31, 3) := by decide +kernel
theorem d_State_noteEntry_16 : decode prog_6_method_11_code 16 = .ok (.iconst 0, 1) := by decide +kernel
theorem d_State_noteEntry_17 : decode prog_6_method_11_code 17 = .ok (.iaload, 1) := by decide +kernel
theorem d_State_noteEntry_18 : decode prog_6_method_11_code 18 = .ok (.invokevirtual 122, 3) := by decide +kernel
theorem d_State_noteEntry_21 : decode prog_6_method_11_code 21 = .ok (.aload_n 0, 1) := by decide +kernel
theorem d_State_noteEntry_22 : decode prog_6_method_11_code 22 = .ok (.getfield 41, 3) := by decide +kernel
theorem d_State_noteEntry_25 : decode prog_6_method_11_code 25 = .ok (.iconst 1, 1) := by decide +kernel
theorem d_State_noteEntry_26 : decode prog_6_method_11_code 26 = .ok (.aload_n 0, 1) := by decide +kernel
theorem d_State_noteEntry_27 : decode prog_6_method_11_code 27 = .ok (.getfield 31, 3) := by decide +kernel
theorem d_State_noteEntry_30 : decode prog_6_method_11_code 30 = .ok (.iconst 1, 1) := by decide +kernel
theorem d_State_noteEntry_31 : decode prog_6_method_11_code 31 = .ok (.iaload, 1) := by decide +kernel
theorem d_State_noteEntry_32 : decode prog_6_method_11_code 32 = .ok (.invokevirtual 122, 3) := by decide +kernel
theorem d_State_noteEntry_35 : decode prog_6_method_11_code 35 = .ok (.aload_n 0, 1) := by decide +kernel
theorem d_State_noteEntry_36 : decode prog_6_method_11_code 36 = .ok (.getfield 41, 3) := by decide +kernel
theorem d_State_noteEntry_39 : decode prog_6_method_11_code 39 = .ok (.iconst 2, 1) := by decide +kernel
theorem d_State_noteEntry_40 : decode prog_6_method_11_code 40 = .ok (.aload_n 0, 1) := by decide +kernel
theorem d_State_noteEntry_41 : decode prog_6_method_11_code 41 = .ok (.getfield 35, 3) := by decide +kernel
theorem d_State_noteEntry_44 : decode prog_6_method_11_code 44 = .ok (.iconst 0, 1) := by decide +kernel
theorem d_State_noteEntry_45 : decode prog_6_method_11_code 45 = .ok (.iaload, 1) := by decide +kernel
theorem d_State_noteEntry_46 : decode prog_6_method_11_code 46 = .ok (.invokevirtual 122, 3) := by decide +kernel
theorem d_State_noteEntry_49 : decode prog_6_method_11_code 49 = .ok (.aload_n 0, 1) := by decide +kernel
theorem d_State_noteEntry_50 : decode prog_6_method_11_code 50 = .ok (.getfield 41, 3) := by decide +kernel
theorem d_State_noteEntry_53 : decode prog_6_method_11_code 53 = .ok (.iconst 3, 1) := by decide +kernel
theorem d_State_noteEntry_54 : decode prog_6_method_11_code 54 = .ok (.aload_n 0, 1) := by decide +kernel
theorem d_State_noteEntry_55 : decode prog_6_method_11_code 55 = .ok (.getfield 35, 3) := by decide +kernel
theorem d_State_noteEntry_58 : decode prog_6_method_11_code 58 = .ok (.iconst 1, 1) := by decide +kernel
theorem d_State_noteEntry_59 : decode prog_6_method_11_code 59 = .ok (.iaload, 1) := by decide +kernel
theorem d_State_noteEntry_60 : decode prog_6_method_11_code 60 = .ok (.invokevirtual 122, 3) := by decide +kernel
theorem d_State_noteEntry_63 : decode prog_6_method_11_code 63 = .ok (.iconst 0, 1) := by decide +kernel
theorem d_State_noteEntry_64 : decode prog_6_method_11_code 64 = .ok (.istore_n 3, 1) := by decide +kernel
theorem d_State_noteEntry_65 : decode prog_6_method_11_code 65 = .ok (.iload_n 3, 1) := by decide +kernel
theorem d_State_noteEntry_66 : decode prog_6_method_11_code 66 = .ok (.aload_n 1, 1) := by decide +kernel
theorem d_State_noteEntry_67 : decode prog_6_method_11_code 67 = .ok (.arraylength, 1) := by decide +kernel
theorem d_State_noteEntry_68 : decode prog_6_method_11_code 68 = .ok (.if_icmp .ge 22, 3) := by decide +kernel
theorem d_State_noteEntry_71 : decode prog_6_method_11_code 71 = .ok (.aload_n 0, 1) := by decide +kernel
theorem d_State_noteEntry_72 : decode prog_6_method_11_code 72 = .ok (.getfield 41, 3) := by decide +kernel
theorem d_State_noteEntry_75 : decode prog_6_method_11_code 75 = .ok (.iconst 4, 1) := by decide +kernel
theorem d_State_noteEntry_76 : decode prog_6_method_11_code 76 = .ok (.iload_n 3, 1) := by decide +kernel
theorem d_State_noteEntry_77 : decode prog_6_method_11_code 77 = .ok (.iadd, 1) := by decide +kernel
theorem d_State_noteEntry_78 : decode prog_6_method_11_code 78 = .ok (.aload_n 1, 1) := by decide +kernel
theorem d_State_noteEntry_79 : decode prog_6_method_11_code 79 = .ok (.iload_n 3, 1) := by decide +kernel
theorem d_State_noteEntry_80 : decode prog_6_method_11_code 80 = .ok (.iaload, 1) := by decide +kernel
theorem d_State_noteEntry_81 : decode prog_6_method_11_code 81 = .ok (.invokevirtual 122, 3) := by decide +kernel
theorem d_State_noteEntry_84 : decode prog_6_method_11_code 84 = .ok (.iinc 3 1, 3) := by decide +kernel
theorem d_State_noteEntry_87 : decode prog_6_method_11_code 87 = .ok (.goto (-22), 3) := by decide +kernel
theorem d_State_noteEntry_90 : decode prog_6_method_11_code 90 = .ok (.aload_n 0, 1) := by decide +kernel
theorem d_State_noteEntry_91 : decode prog_6_method_11_code 91 = .ok (.getfield 41, 3) := by decide +kernel
theorem d_State_noteEntry_94 : decode prog_6_method_11_code 94 = .ok (.bipush 7, 2) := by decide +kernel
theorem d_State_noteEntry_96 : decode prog_6_method_11_code 96 = .ok (.iload_n 2, 1) := by decide +kernel
theorem d_State_noteEntry_97 : decode prog_6_method_11_code 97 = .ok (.invokevirtual 122, 3) := by decide +kernel
theorem d_State_noteEntry_100 : decode prog_6_method_11_code 100 = .ok (.return_, 1) := by decide +kernel
theorem d_Path_startEntry_0 : decode prog_5_method_3_code 0 = .ok (.aload_n 0, 1) := by decide +kernel
theorem d_Path_startEntry_1 : decode prog_5_method_3_code 1 = .ok (.aload_n 0, 1) := by decide +kernel
theorem d_Path_startEntry_2 : decode prog_5_method_3_code 2 = .ok (.getfield 19, 3) := by decide +kernel
theorem d_Path_startEntry_5 : decode prog_5_method_3_code 5 = .ok (.iconst 1, 1) := by decide +kernel
theorem d_Path_startEntry_6 : decode prog_5_method_3_code 6 = .ok (.iadd, 1) := by decide +kernel
theorem d_Path_startEntry_7 : decode prog_5_method_3_code 7 = .ok (.bipush 20, 2) := by decide +kernel
theorem d_Path_startEntry_9 : decode prog_5_method_3_code 9 = .ok (.irem, 1) := by decide +kernel
theorem d_Path_startEntry_10 : decode prog_5_method_3_code 10 = .ok (.putfield 19, 3) := by decide +kernel
theorem d_Path_startEntry_13 : decode prog_5_method_3_code 13 = .ok (.aload_n 0, 1) := by decide +kernel
theorem d_Path_startEntry_14 : decode prog_5_method_3_code 14 = .ok (.aload_n 0, 1) := by decide +kernel
theorem d_Path_startEntry_15 : decode prog_5_method_3_code 15 = .ok (.getfield 15, 3) := by decide +kernel
theorem d_Path_startEntry_18 : decode prog_5_method_3_code 18 = .ok (.iconst 1, 1) := by decide +kernel
theorem d_Path_startEntry_19 : decode prog_5_method_3_code 19 = .ok (.iadd, 1) := by decide +kernel
theorem d_Path_startEntry_20 : decode prog_5_method_3_code 20 = .ok (.bipush 20, 2) := by decide +kernel
theorem d_Path_startEntry_22 : decode prog_5_method_3_code 22 = .ok (.invokestatic 28, 3) := by decide +kernel
theorem d_Path_startEntry_25 : decode prog_5_method_3_code 25 = .ok (.putfield 15, 3) := by decide +kernel
theorem d_Path_startEntry_28 : decode prog_5_method_3_code 28 = .ok (.return_, 1) := by decide +kernel
theorem d_Path_putPart_0 : decode prog_5_method_4_code 0 = .ok (.aload_n 0, 1) := by decide +kernel
theorem d_Path_putPart_1 : decode prog_5_method_4_code 1 = .ok (.getfield 19, 3) := by decide +kernel
theorem d_Path_putPart_4 : decode prog_5_method_4_code 4 = .ok (.bipush 8, 2) := by decide +kernel
theorem d_Path_putPart_6 : decode prog_5_method_4_code 6 = .ok (.imul, 1) := by decide +kernel
theorem d_Path_putPart_7 : decode prog_5_method_4_code 7 = .ok (.iload_n 1, 1) := by decide +kernel
theorem d_Path_putPart_8 : decode prog_5_method_4_code 8 = .ok (.iadd, 1) := by decide +kernel
theorem d_Path_putPart_9 : decode prog_5_method_4_code 9 = .ok (.istore_n 3, 1) := by decide +kernel
theorem d_Path_putPart_10 : decode prog_5_method_4_code 10 = .ok (.iload_n 3, 1) := by decide +kernel
theorem d_Path_putPart_11 : decode prog_5_method_4_code 11 = .ok (.ifCond .lt 19, 3) := by decide +kernel
theorem d_Path_putPart_14 : decode prog_5_method_4_code 14 = .ok (.iload_n 3, 1) := by decide +kernel
theorem d_Path_putPart_15 : decode prog_5_method_4_code 15 = .ok (.aload_n 0, 1) := by decide +kernel
theorem d_Path_putPart_16 : decode prog_5_method_4_code 16 = .ok (.getfield 9, 3) := by decide +kernel
theorem d_Path_putPart_19 : decode prog_5_method_4_code 19 = .ok (.arraylength, 1) := by decide +kernel
theorem d_Path_putPart_20 : decode prog_5_method_4_code 20 = .ok (.if_icmp .ge 10, 3) := by decide +kernel
theorem d_Path_putPart_23 : decode prog_5_method_4_code 23 = .ok (.aload_n 0, 1) := by decide +kernel
theorem d_Path_putPart_24 : decode prog_5_method_4_code 24 = .ok (.getfield 9, 3) := by decide +kernel
theorem d_Path_putPart_27 : decode prog_5_method_4_code 27 = .ok (.iload_n 3, 1) := by decide +kernel
theorem d_Path_putPart_28 : decode prog_5_method_4_code 28 = .ok (.iload_n 2, 1) := by decide +kernel
theorem d_Path_putPart_29 : decode prog_5_method_4_code 29 = .ok (.iastore, 1) := by decide +kernel
theorem d_Path_putPart_30 : decode prog_5_method_4_code 30 = .ok (.return_, 1) := by decide +kernel
theorem d_GT_sweep_0 : decode prog_1_method_11_code 0 = .ok (.iload_n 1, 1) := by decide +kernel
theorem d_GT_sweep_1 : decode prog_1_method_11_code 1 = .ok (.invokestatic 61, 3) := by decide +kernel
theorem d_GT_sweep_4 : decode prog_1_method_11_code 4 = .ok (.ifCond .eq 21, 3) := by decide +kernel
theorem d_GT_sweep_7 : decode prog_1_method_11_code 7 = .ok (.iload_n 2, 1) := by decide +kernel
theorem d_GT_sweep_8 : decode prog_1_method_11_code 8 = .ok (.invokestatic 194, 3) := by decide +kernel
theorem d_GT_sweep_11 : decode prog_1_method_11_code 11 = .ok (.ifCond .eq 14, 3) := by decide +kernel
theorem d_GT_sweep_14 : decode prog_1_method_11_code 14 = .ok (.iload_n 3, 1) := by decide +kernel
theorem d_GT_sweep_15 : decode prog_1_method_11_code 15 = .ok (.iconst 1, 1) := by decide +kernel
theorem d_GT_sweep_16 : decode prog_1_method_11_code 16 = .ok (.sipush 1000, 3) := by decide +kernel
theorem d_GT_sweep_19 : decode prog_1_method_11_code 19 = .ok (.invokestatic 65, 3) := by decide +kernel
theorem d_GT_sweep_22 : decode prog_1_method_11_code 22 = .ok (.ifCond .ne 6, 3) := by decide +kernel
theorem d_GT_sweep_25 : decode prog_1_method_11_code 25 = .ok (.ldc 76, 2) := by decide +kernel
theorem d_GT_sweep_27 : decode prog_1_method_11_code 27 = .ok (.ireturn, 1) := by decide +kernel
theorem d_GT_sweep_28 : decode prog_1_method_11_code 28 = .ok (.aload_n 0, 1) := by decide +kernel
theorem d_GT_sweep_29 : decode prog_1_method_11_code 29 = .ok (.getfield 12, 3) := by decide +kernel
theorem d_GT_sweep_32 : decode prog_1_method_11_code 32 = .ok (.getfield 200, 3) := by decide +kernel
theorem d_GT_sweep_35 : decode prog_1_method_11_code 35 = .ok (.iload_n 1, 1) := by decide +kernel
theorem d_GT_sweep_36 : decode prog_1_method_11_code 36 = .ok (.iaload, 1) := by decide +kernel
theorem d_GT_sweep_37 : decode prog_1_method_11_code 37 = .ok (.istore 4, 2) := by decide +kernel
theorem d_GT_sweep_39 : decode prog_1_method_11_code 39 = .ok (.iload 4, 2) := by decide +kernel
theorem d_GT_sweep_41 : decode prog_1_method_11_code 41 = .ok (.iload_n 2, 1) := by decide +kernel
theorem d_GT_sweep_42 : decode prog_1_method_11_code 42 = .ok (.if_icmp .ne 6, 3) := by decide +kernel
theorem d_GT_sweep_45 : decode prog_1_method_11_code 45 = .ok (.ldc 87, 2) := by decide +kernel
theorem d_GT_sweep_47 : decode prog_1_method_11_code 47 = .ok (.ireturn, 1) := by decide +kernel
theorem d_GT_sweep_48 : decode prog_1_method_11_code 48 = .ok (.aload_n 0, 1) := by decide +kernel
theorem d_GT_sweep_49 : decode prog_1_method_11_code 49 = .ok (.getfield 19, 3) := by decide +kernel
theorem d_GT_sweep_52 : decode prog_1_method_11_code 52 = .ok (.aload_n 0, 1) := by decide +kernel
theorem d_GT_sweep_53 : decode prog_1_method_11_code 53 = .ok (.getfield 12, 3) := by decide +kernel
theorem d_GT_sweep_56 : decode prog_1_method_11_code 56 = .ok (.invokevirtual 93, 3) := by decide +kernel
theorem d_GT_sweep_59 : decode prog_1_method_11_code 59 = .ok (.iconst 0, 1) := by decide +kernel
theorem d_GT_sweep_60 : decode prog_1_method_11_code 60 = .ok (.istore 5, 2) := by decide +kernel
theorem d_GT_sweep_62 : decode prog_1_method_11_code 62 = .ok (.iconst 0, 1) := by decide +kernel
theorem d_GT_sweep_63 : decode prog_1_method_11_code 63 = .ok (.istore 6, 2) := by decide +kernel
theorem d_GT_sweep_65 : decode prog_1_method_11_code 65 = .ok (.iload 6, 2) := by decide +kernel
theorem d_GT_sweep_67 : decode prog_1_method_11_code 67 = .ok (.sipush 1000, 3) := by decide +kernel
theorem d_GT_sweep_70 : decode prog_1_method_11_code 70 = .ok (.if_icmp .ge 91, 3) := by decide +kernel
theorem d_GT_sweep_73 : decode prog_1_method_11_code 73 = .ok (.iload 4, 2) := by decide +kernel
theorem d_GT_sweep_75 : decode prog_1_method_11_code 75 = .ok (.iload_n 2, 1) := by decide +kernel
theorem d_GT_sweep_76 : decode prog_1_method_11_code 76 = .ok (.if_icmp .eq 85, 3) := by decide +kernel
theorem d_GT_sweep_79 : decode prog_1_method_11_code 79 = .ok (.iload 4, 2) := by decide +kernel
theorem d_GT_sweep_81 : decode prog_1_method_11_code 81 = .ok (.iload_n 2, 1) := by decide +kernel
theorem d_GT_sweep_82 : decode prog_1_method_11_code 82 = .ok (.iload_n 3, 1) := by decide +kernel
theorem d_GT_sweep_83 : decode prog_1_method_11_code 83 = .ok (.invokestatic 203, 3) := by decide +kernel
theorem d_GT_sweep_86 : decode prog_1_method_11_code 86 = .ok (.istore 4, 2) := by decide +kernel
theorem d_GT_sweep_88 : decode prog_1_method_11_code 88 = .ok (.aload_n 0, 1) := by decide +kernel
theorem d_GT_sweep_89 : decode prog_1_method_11_code 89 = .ok (.getfield 12, 3) := by decide +kernel
theorem d_GT_sweep_92 : decode prog_1_method_11_code 92 = .ok (.getfield 207, 3) := by decide +kernel
theorem d_GT_sweep_95 : decode prog_1_method_11_code 95 = .ok (.iload_n 1, 1) := by decide +kernel
theorem d_GT_sweep_96 : decode prog_1_method_11_code 96 = .ok (.iaload, 1) := by decide +kernel
theorem d_GT_sweep_97 : decode prog_1_method_11_code 97 = .ok (.istore 7, 2) := by decide +kernel
theorem d_GT_sweep_99 : decode prog_1_method_11_code 99 = .ok (.iload_n 1, 1) := by decide +kernel
theorem d_GT_sweep_100 : decode prog_1_method_11_code 100 = .ok (.ifCond .ne 22, 3) := by decide +kernel
theorem d_GT_sweep_103 : decode prog_1_method_11_code 103 = .ok (.aload_n 0, 1) := by decide +kernel
theorem d_GT_sweep_104 : decode prog_1_method_11_code 104 = .ok (.iload 4, 2) := by decide +kernel
theorem d_GT_sweep_106 : decode prog_1_method_11_code 106 = .ok (.aload_n 0, 1) := by decide +kernel
theorem d_GT_sweep_107 : decode prog_1_method_11_code 107 = .ok (.getfield 12, 3) := by decide +kernel
theorem d_GT_sweep_110 : decode prog_1_method_11_code 110 = .ok (.getfield 200, 3) := by decide +kernel
theorem d_GT_sweep_113 : decode prog_1_method_11_code 113 = .ok (.iconst 1, 1) := by decide +kernel
theorem d_GT_sweep_114 : decode prog_1_method_11_code 114 = .ok (.iaload, 1) := by decide +kernel
theorem d_GT_sweep_115 : decode prog_1_method_11_code 115 = .ok (.invokevirtual 197, 3) := by decide +kernel
theorem d_GT_sweep_118 : decode prog_1_method_11_code 118 = .ok (.pop, 1) := by decide +kernel
theorem d_GT_sweep_119 : decode prog_1_method_11_code 119 = .ok (.goto 19, 3) := by decide +kernel
theorem d_GT_sweep_122 : decode prog_1_method_11_code 122 = .ok (.aload_n 0, 1) := by decide +kernel
theorem d_GT_sweep_123 : decode prog_1_method_11_code 123 = .ok (.aload_n 0, 1) := by decide +kernel
theorem d_GT_sweep_124 : decode prog_1_method_11_code 124 = .ok (.getfield 12, 3) := by decide +kernel
theorem d_GT_sweep_127 : decode prog_1_method_11_code 127 = .ok (.getfield 200, 3) := by decide +kernel
theorem d_GT_sweep_130 : decode prog_1_method_11_code 130 = .ok (.iconst 0, 1) := by decide +kernel
theorem d_GT_sweep_131 : decode prog_1_method_11_code 131 = .ok (.iaload, 1) := by decide +kernel
theorem d_GT_sweep_132 : decode prog_1_method_11_code 132 = .ok (.iload 4, 2) := by decide +kernel
theorem d_GT_sweep_134 : decode prog_1_method_11_code 134 = .ok (.invokevirtual 197, 3) := by decide +kernel
theorem d_GT_sweep_137 : decode prog_1_method_11_code 137 = .ok (.pop, 1) := by decide +kernel
theorem d_GT_sweep_138 : decode prog_1_method_11_code 138 = .ok (.aload_n 0, 1) := by decide +kernel
theorem d_GT_sweep_139 : decode prog_1_method_11_code 139 = .ok (.getfield 12, 3) := by decide +kernel
theorem d_GT_sweep_142 : decode prog_1_method_11_code 142 = .ok (.getfield 207, 3) := by decide +kernel
theorem d_GT_sweep_145 : decode prog_1_method_11_code 145 = .ok (.iload_n 1, 1) := by decide +kernel
theorem d_GT_sweep_146 : decode prog_1_method_11_code 146 = .ok (.iaload, 1) := by decide +kernel
theorem d_GT_sweep_147 : decode prog_1_method_11_code 147 = .ok (.iload 7, 2) := by decide +kernel
theorem d_GT_sweep_149 : decode prog_1_method_11_code 149 = .ok (.if_icmp .eq 6, 3) := by decide +kernel
theorem d_GT_sweep_152 : decode prog_1_method_11_code 152 = .ok (.iinc 5 1, 3) := by decide +kernel
theorem d_GT_sweep_155 : decode prog_1_method_11_code 155 = .ok (.iinc 6 1, 3) := by decide +kernel
theorem d_GT_sweep_158 : decode prog_1_method_11_code 158 = .ok (.goto (-93), 3) := by decide +kernel
theorem d_GT_sweep_161 : decode prog_1_method_11_code 161 = .ok (.iload 5, 2) := by decide +kernel
theorem d_GT_sweep_163 : decode prog_1_method_11_code 163 = .ok (.ireturn, 1) := by decide +kernel
theorem d_GT_placeTowards_0 : decode prog_1_method_43_code 0 = .ok (.iload_n 0, 1) := by decide +kernel
theorem d_GT_placeTowards_1 : decode prog_1_method_43_code 1 = .ok (.iload_n 1, 1) := by decide +kernel
theorem d_GT_placeTowards_2 : decode prog_1_method_43_code 2 = .ok (.if_icmp .ge 13, 3) := by decide +kernel
theorem d_GT_placeTowards_5 : decode prog_1_method_43_code 5 = .ok (.iload_n 0, 1) := by decide +kernel
theorem d_GT_placeTowards_6 : decode prog_1_method_43_code 6 = .ok (.iload_n 2, 1) := by decide +kernel
theorem d_GT_placeTowards_7 : decode prog_1_method_43_code 7 = .ok (.iadd, 1) := by decide +kernel
theorem d_GT_placeTowards_8 : decode prog_1_method_43_code 8 = .ok (.iload_n 1, 1) := by decide +kernel
theorem d_GT_placeTowards_9 : decode prog_1_method_43_code 9 = .ok (.invokestatic 173, 3) := by decide +kernel
theorem d_GT_placeTowards_12 : decode prog_1_method_43_code 12 = .ok (.goto 10, 3) := by decide +kernel
theorem d_GT_placeTowards_15 : decode prog_1_method_43_code 15 = .ok (.iload_n 0, 1) := by decide +kernel
theorem d_GT_placeTowards_16 : decode prog_1_method_43_code 16 = .ok (.iload_n 2, 1) := by decide +kernel
theorem d_GT_placeTowards_17 : decode prog_1_method_43_code 17 = .ok (.isub, 1) := by decide +kernel
theorem d_GT_placeTowards_18 : decode prog_1_method_43_code 18 = .ok (.iload_n 1, 1) := by decide +kernel
theorem d_GT_placeTowards_19 : decode prog_1_method_43_code 19 = .ok (.invokestatic 340, 3) := by decide +kernel
theorem d_GT_placeTowards_22 : decode prog_1_method_43_code 22 = .ok (.ireturn, 1) := by decide +kernel
theorem d_GT_take_0 : decode prog_1_method_12_code 0 = .ok (.iload_n 1, 1) := by decide +kernel
theorem d_GT_take_1 : decode prog_1_method_12_code 1 = .ok (.invokestatic 210, 3) := by decide +kernel
theorem d_GT_take_4 : decode prog_1_method_12_code 4 = .ok (.ifCond .ne 6, 3) := by decide +kernel
theorem d_GT_take_7 : decode prog_1_method_12_code 7 = .ok (.ldc 76, 2) := by decide +kernel
theorem d_GT_take_9 : decode prog_1_method_12_code 9 = .ok (.ireturn, 1) := by decide +kernel
theorem d_GT_take_10 : decode prog_1_method_12_code 10 = .ok (.aload_n 0, 1) := by decide +kernel
theorem d_GT_take_11 : decode prog_1_method_12_code 11 = .ok (.getfield 19, 3) := by decide +kernel
theorem d_GT_take_14 : decode prog_1_method_12_code 14 = .ok (.aload_n 0, 1) := by decide +kernel
theorem d_GT_take_15 : decode prog_1_method_12_code 15 = .ok (.getfield 12, 3) := by decide +kernel
theorem d_GT_take_18 : decode prog_1_method_12_code 18 = .ok (.invokevirtual 93, 3) := by decide +kernel
theorem d_GT_take_21 : decode prog_1_method_12_code 21 = .ok (.aload_n 0, 1) := by decide +kernel
theorem d_GT_take_22 : decode prog_1_method_12_code 22 = .ok (.getfield 12, 3) := by decide +kernel
theorem d_GT_take_25 : decode prog_1_method_12_code 25 = .ok (.iload_n 1, 1) := by decide +kernel
theorem d_GT_take_26 : decode prog_1_method_12_code 26 = .ok (.invokevirtual 213, 3) := by decide +kernel
theorem d_GT_take_29 : decode prog_1_method_12_code 29 = .ok (.aload_n 0, 1) := by decide +kernel
theorem d_GT_take_30 : decode prog_1_method_12_code 30 = .ok (.getfield 12, 3) := by decide +kernel
theorem d_GT_take_33 : decode prog_1_method_12_code 33 = .ok (.getfield 77, 3) := by decide +kernel
theorem d_GT_take_36 : decode prog_1_method_12_code 36 = .ok (.invokevirtual 217, 3) := by decide +kernel
theorem d_GT_take_39 : decode prog_1_method_12_code 39 = .ok (.aload_n 0, 1) := by decide +kernel
theorem d_GT_take_40 : decode prog_1_method_12_code 40 = .ok (.getfield 12, 3) := by decide +kernel
theorem d_GT_take_43 : decode prog_1_method_12_code 43 = .ok (.getfield 221, 3) := by decide +kernel
theorem d_GT_take_46 : decode prog_1_method_12_code 46 = .ok (.iload_n 1, 1) := by decide +kernel
theorem d_GT_take_47 : decode prog_1_method_12_code 47 = .ok (.iconst 1, 1) := by decide +kernel
theorem d_GT_take_48 : decode prog_1_method_12_code 48 = .ok (.bastore, 1) := by decide +kernel
theorem d_GT_take_49 : decode prog_1_method_12_code 49 = .ok (.aload_n 0, 1) := by decide +kernel
theorem d_GT_take_50 : decode prog_1_method_12_code 50 = .ok (.getfield 12, 3) := by decide +kernel
theorem d_GT_take_53 : decode prog_1_method_12_code 53 = .ok (.getfield 77, 3) := by decide +kernel
theorem d_GT_take_56 : decode prog_1_method_12_code 56 = .ok (.invokevirtual 225, 3) := by decide +kernel
theorem d_GT_take_59 : decode prog_1_method_12_code 59 = .ok (.ireturn, 1) := by decide +kernel
theorem d_GT_isPlace_0 : decode prog_1_method_37_code 0 = .ok (.iload_n 0, 1) := by decide +kernel
theorem d_GT_isPlace_1 : decode prog_1_method_37_code 1 = .ok (.iconst 0, 1) := by decide +kernel
theorem d_GT_isPlace_2 : decode prog_1_method_37_code 2 = .ok (.iconst 2, 1) := by decide +kernel
theorem d_GT_isPlace_3 : decode prog_1_method_37_code 3 = .ok (.invokestatic 65, 3) := by decide +kernel
theorem d_GT_isPlace_6 : decode prog_1_method_37_code 6 = .ok (.ireturn, 1) := by decide +kernel
theorem d_State_snapshotAt_0 : decode prog_6_method_3_code 0 = .ok (.iload_n 1, 1) := by decide +kernel
theorem d_State_snapshotAt_1 : decode prog_6_method_3_code 1 = .ok (.ifCond .ne 8, 3) := by decide +kernel
theorem d_State_snapshotAt_4 : decode prog_6_method_3_code 4 = .ok (.aload_n 0, 1) := by decide +kernel
theorem d_State_snapshotAt_5 : decode prog_6_method_3_code 5 = .ok (.getfield 18, 3) := by decide +kernel
theorem d_State_snapshotAt_8 : decode prog_6_method_3_code 8 = .ok (.areturn, 1) := by decide +kernel
theorem d_State_snapshotAt_9 : decode prog_6_method_3_code 9 = .ok (.iload_n 1, 1) := by decide +kernel
theorem d_State_snapshotAt_10 : decode prog_6_method_3_code 10 = .ok (.iconst 1, 1) := by decide +kernel
theorem d_State_snapshotAt_11 : decode prog_6_method_3_code 11 = .ok (.if_icmp .ne 10, 3) := by decide +kernel
theorem d_State_snapshotAt_14 : decode prog_6_method_3_code 14 = .ok (.aload_n 0, 1) := by decide +kernel
theorem d_State_snapshotAt_15 : decode prog_6_method_3_code 15 = .ok (.getfield 21, 3) := by decide +kernel
theorem d_State_snapshotAt_18 : decode prog_6_method_3_code 18 = .ok (.goto 7, 3) := by decide +kernel
theorem d_State_snapshotAt_21 : decode prog_6_method_3_code 21 = .ok (.aload_n 0, 1) := by decide +kernel
theorem d_State_snapshotAt_22 : decode prog_6_method_3_code 22 = .ok (.getfield 24, 3) := by decide +kernel
theorem d_State_snapshotAt_25 : decode prog_6_method_3_code 25 = .ok (.areturn, 1) := by decide +kernel
theorem d_Table_regions_0 : decode prog_7_method_5_code 0 = .ok (.aload_n 0, 1) := by decide +kernel
theorem d_Table_regions_1 : decode prog_7_method_5_code 1 = .ok (.getfield 12, 3) := by decide +kernel
theorem d_Table_regions_4 : decode prog_7_method_5_code 4 = .ok (.getfield 35, 3) := by decide +kernel
theorem d_Table_regions_7 : decode prog_7_method_5_code 7 = .ok (.iconst 1, 1) := by decide +kernel
theorem d_Table_regions_8 : decode prog_7_method_5_code 8 = .ok (.iadd, 1) := by decide +kernel
theorem d_Table_regions_9 : decode prog_7_method_5_code 9 = .ok (.aload_n 0, 1) := by decide +kernel
theorem d_Table_regions_10 : decode prog_7_method_5_code 10 = .ok (.getfield 18, 3) := by decide +kernel
theorem d_Table_regions_13 : decode prog_7_method_5_code 13 = .ok (.getfield 35, 3) := by decide +kernel
theorem d_Table_regions_16 : decode prog_7_method_5_code 16 = .ok (.iconst 1, 1) := by decide +kernel
theorem d_Table_regions_17 : decode prog_7_method_5_code 17 = .ok (.iadd, 1) := by decide +kernel
theorem d_Table_regions_18 : decode prog_7_method_5_code 18 = .ok (.imul, 1) := by decide +kernel
theorem d_Table_regions_19 : decode prog_7_method_5_code 19 = .ok (.ireturn, 1) := by decide +kernel
theorem d_GT_restore_0 : decode prog_1_method_13_code 0 = .ok (.iload_n 1, 1) := by decide +kernel
theorem d_GT_restore_1 : decode prog_1_method_13_code 1 = .ok (.invokestatic 210, 3) := by decide +kernel
theorem d_GT_restore_4 : decode prog_1_method_13_code 4 = .ok (.ifCond .ne 6, 3) := by decide +kernel
theorem d_GT_restore_7 : decode prog_1_method_13_code 7 = .ok (.ldc 76, 2) := by decide +kernel
theorem d_GT_restore_9 : decode prog_1_method_13_code 9 = .ok (.ireturn, 1) := by decide +kernel
theorem d_GT_restore_10 : decode prog_1_method_13_code 10 = .ok (.aload_n 0, 1) := by decide +kernel
theorem d_GT_restore_11 : decode prog_1_method_13_code 11 = .ok (.getfield 12, 3) := by decide +kernel
theorem d_GT_restore_14 : decode prog_1_method_13_code 14 = .ok (.getfield 221, 3) := by decide +kernel
theorem d_GT_restore_17 : decode prog_1_method_13_code 17 = .ok (.iload_n 1, 1) := by decide +kernel
theorem d_GT_restore_18 : decode prog_1_method_13_code 18 = .ok (.baload, 1) := by decide +kernel
theorem d_GT_restore_19 : decode prog_1_method_13_code 19 = .ok (.ifCond .ne 6, 3) := by decide +kernel
theorem d_GT_restore_22 : decode prog_1_method_13_code 22 = .ok (.ldc 87, 2) := by decide +kernel
theorem d_GT_restore_24 : decode prog_1_method_13_code 24 = .ok (.ireturn, 1) := by decide +kernel
theorem d_GT_restore_25 : decode prog_1_method_13_code 25 = .ok (.aload_n 0, 1) := by decide +kernel
theorem d_GT_restore_26 : decode prog_1_method_13_code 26 = .ok (.getfield 19, 3) := by decide +kernel
theorem d_GT_restore_29 : decode prog_1_method_13_code 29 = .ok (.aload_n 0, 1) := by decide +kernel
theorem d_GT_restore_30 : decode prog_1_method_13_code 30 = .ok (.getfield 12, 3) := by decide +kernel
theorem d_GT_restore_33 : decode prog_1_method_13_code 33 = .ok (.invokevirtual 93, 3) := by decide +kernel
theorem d_GT_restore_36 : decode prog_1_method_13_code 36 = .ok (.aload_n 0, 1) := by decide +kernel
theorem d_GT_restore_37 : decode prog_1_method_13_code 37 = .ok (.getfield 12, 3) := by decide +kernel
theorem d_GT_restore_40 : decode prog_1_method_13_code 40 = .ok (.aload_n 0, 1) := by decide +kernel
theorem d_GT_restore_41 : decode prog_1_method_13_code 41 = .ok (.getfield 12, 3) := by decide +kernel
theorem d_GT_restore_44 : decode prog_1_method_13_code 44 = .ok (.iload_n 1, 1) := by decide +kernel
theorem d_GT_restore_45 : decode prog_1_method_13_code 45 = .ok (.invokevirtual 213, 3) := by decide +kernel
theorem d_GT_restore_48 : decode prog_1_method_13_code 48 = .ok (.invokevirtual 228, 3) := by decide +kernel
theorem d_GT_restore_51 : decode prog_1_method_13_code 51 = .ok (.aload_n 0, 1) := by decide +kernel
theorem d_GT_restore_52 : decode prog_1_method_13_code 52 = .ok (.getfield 12, 3) := by decide +kernel
theorem d_GT_restore_55 : decode prog_1_method_13_code 55 = .ok (.getfield 77, 3) := by decide +kernel
theorem d_GT_restore_58 : decode prog_1_method_13_code 58 = .ok (.invokevirtual 225, 3) := by decide +kernel
theorem d_GT_restore_61 : decode prog_1_method_13_code 61 = .ok (.ireturn, 1) := by decide +kernel
theorem d_State_replaceTable_0 : decode prog_6_method_8_code 0 = .ok (.aload_n 0, 1) := by decide +kernel
theorem d_State_replaceTable_1 : decode prog_6_method_8_code 1 = .ok (.getfield 12, 3) := by decide +kernel
theorem d_State_replaceTable_4 : decode prog_6_method_8_code 4 = .ok (.invokevirtual 99, 3) := by decide +kernel
theorem d_State_replaceTable_7 : decode prog_6_method_8_code 7 = .ok (.istore_n 2, 1) := by decide +kernel
theorem d_State_replaceTable_8 : decode prog_6_method_8_code 8 = .ok (.aload_n 0, 1) := by decide +kernel
theorem d_State_replaceTable_9 : decode prog_6_method_8_code 9 = .ok (.getfield 12, 3) := by decide +kernel
theorem d_State_replaceTable_12 : decode prog_6_method_8_code 12 = .ok (.aload_n 1, 1) := by decide +kernel
theorem d_State_replaceTable_13 : decode prog_6_method_8_code 13 = .ok (.invokevirtual 63, 3) := by decide +kernel
theorem d_State_replaceTable_16 : decode prog_6_method_8_code 16 = .ok (.aload_n 0, 1) := by decide +kernel
theorem d_State_replaceTable_17 : decode prog_6_method_8_code 17 = .ok (.iload_n 2, 1) := by decide +kernel
theorem d_State_replaceTable_18 : decode prog_6_method_8_code 18 = .ok (.invokevirtual 106, 3) := by decide +kernel
theorem d_State_replaceTable_21 : decode prog_6_method_8_code 21 = .ok (.return_, 1) := by decide +kernel
theorem d_GT_undo_0 : decode prog_1_method_14_code 0 = .ok (.aload_n 0, 1) := by decide +kernel
theorem d_GT_undo_1 : decode prog_1_method_14_code 1 = .ok (.getfield 19, 3) := by decide +kernel
theorem d_GT_undo_4 : decode prog_1_method_14_code 4 = .ok (.getfield 231, 3) := by decide +kernel
theorem d_GT_undo_7 : decode prog_1_method_14_code 7 = .ok (.ifCond .ne 6, 3) := by decide +kernel
theorem d_GT_undo_10 : decode prog_1_method_14_code 10 = .ok (.ldc 87, 2) := by decide +kernel
theorem d_GT_undo_12 : decode prog_1_method_14_code 12 = .ok (.ireturn, 1) := by decide +kernel
theorem d_GT_undo_13 : decode prog_1_method_14_code 13 = .ok (.aload_n 0, 1) := by decide +kernel
theorem d_GT_undo_14 : decode prog_1_method_14_code 14 = .ok (.getfield 19, 3) := by decide +kernel
theorem d_GT_undo_17 : decode prog_1_method_14_code 17 = .ok (.aload_n 0, 1) := by decide +kernel
theorem d_GT_undo_18 : decode prog_1_method_14_code 18 = .ok (.getfield 12, 3) := by decide +kernel
theorem d_GT_undo_21 : decode prog_1_method_14_code 21 = .ok (.invokevirtual 232, 3) := by decide +kernel
theorem d_GT_undo_24 : decode prog_1_method_14_code 24 = .ok (.aload_n 0, 1) := by decide +kernel
theorem d_GT_undo_25 : decode prog_1_method_14_code 25 = .ok (.getfield 19, 3) := by decide +kernel
theorem d_GT_undo_28 : decode prog_1_method_14_code 28 = .ok (.getfield 231, 3) := by decide +kernel
theorem d_GT_undo_31 : decode prog_1_method_14_code 31 = .ok (.ireturn, 1) := by decide +kernel
theorem d_History_bringBack_0 : decode prog_4_method_3_code 0 = .ok (.aload_n 0, 1) := by decide +kernel
theorem d_History_bringBack_1 : decode prog_4_method_3_code 1 = .ok (.getfield 18, 3) := by decide +kernel
theorem d_History_bringBack_4 : decode prog_4_method_3_code 4 = .ok (.ifCond .gt 4, 3) := by decide +kernel
theorem d_History_bringBack_7 : decode prog_4_method_3_code 7 = .ok (.return_, 1) := by decide +kernel
theorem d_History_bringBack_8 : decode prog_4_method_3_code 8 = .ok (.aload_n 0, 1) := by decide +kernel
theorem d_History_bringBack_9 : decode prog_4_method_3_code 9 = .ok (.dup, 1) := by decide +kernel
theorem d_History_bringBack_10 : decode prog_4_method_3_code 10 = .ok (.getfield 18, 3) := by decide +kernel
theorem d_History_bringBack_13 : decode prog_4_method_3_code 13 = .ok (.iconst 1, 1) := by decide +kernel
theorem d_History_bringBack_14 : decode prog_4_method_3_code 14 = .ok (.isub, 1) := by decide +kernel
theorem d_History_bringBack_15 : decode prog_4_method_3_code 15 = .ok (.putfield 18, 3) := by decide +kernel
theorem d_History_bringBack_18 : decode prog_4_method_3_code 18 = .ok (.aload_n 0, 1) := by decide +kernel
theorem d_History_bringBack_19 : decode prog_4_method_3_code 19 = .ok (.getfield 11, 3) := by decide +kernel
theorem d_History_bringBack_22 : decode prog_4_method_3_code 22 = .ok (.aload_n 0, 1) := by decide +kernel
theorem d_History_bringBack_23 : decode prog_4_method_3_code 23 = .ok (.getfield 22, 3) := by decide +kernel
theorem d_History_bringBack_26 : decode prog_4_method_3_code 26 = .ok (.aload_n 0, 1) := by decide +kernel
theorem d_History_bringBack_27 : decode prog_4_method_3_code 27 = .ok (.getfield 18, 3) := by decide +kernel
theorem d_History_bringBack_30 : decode prog_4_method_3_code 30 = .ok (.iadd, 1) := by decide +kernel
theorem d_History_bringBack_31 : decode prog_4_method_3_code 31 = .ok (.iconst 5, 1) := by decide +kernel
theorem d_History_bringBack_32 : decode prog_4_method_3_code 32 = .ok (.irem, 1) := by decide +kernel
theorem d_History_bringBack_33 : decode prog_4_method_3_code 33 = .ok (.aaload, 1) := by decide +kernel
theorem d_History_bringBack_34 : decode prog_4_method_3_code 34 = .ok (.astore_n 2, 1) := by decide +kernel
theorem d_History_bringBack_35 : decode prog_4_method_3_code 35 = .ok (.aload_n 2, 1) := by decide +kernel
theorem d_History_bringBack_36 : decode prog_4_method_3_code 36 = .ok (.ifnull 8, 3) := by decide +kernel
theorem d_History_bringBack_39 : decode prog_4_method_3_code 39 = .ok (.aload_n 1, 1) := by decide +kernel
theorem d_History_bringBack_40 : decode prog_4_method_3_code 40 = .ok (.aload_n 2, 1) := by decide +kernel
theorem d_History_bringBack_41 : decode prog_4_method_3_code 41 = .ok (.invokevirtual 25, 3) := by decide +kernel
theorem d_History_bringBack_44 : decode prog_4_method_3_code 44 = .ok (.return_, 1) := by decide +kernel
theorem d_GT_append_0 : decode prog_1_method_15_code 0 = .ok (.iload_n 1, 1) := by decide +kernel
theorem d_GT_append_1 : decode prog_1_method_15_code 1 = .ok (.iconst 1, 1) := by decide +kernel
theorem d_GT_append_2 : decode prog_1_method_15_code 2 = .ok (.sipush 255, 3) := by decide +kernel
theorem d_GT_append_5 : decode prog_1_method_15_code 5 = .ok (.invokestatic 65, 3) := by decide +kernel
theorem d_GT_append_8 : decode prog_1_method_15_code 8 = .ok (.ifCond .ne 6, 3) := by decide +kernel
theorem d_GT_append_11 : decode prog_1_method_15_code 11 = .ok (.ldc 76, 2) := by decide +kernel
theorem d_GT_append_13 : decode prog_1_method_15_code 13 = .ok (.ireturn, 1) := by decide +kernel
theorem d_GT_append_14 : decode prog_1_method_15_code 14 = .ok (.aload_n 0, 1) := by decide +kernel
theorem d_GT_append_15 : decode prog_1_method_15_code 15 = .ok (.getfield 26, 3) := by decide +kernel
theorem d_GT_append_18 : decode prog_1_method_15_code 18 = .ok (.getfield 235, 3) := by decide +kernel
theorem d_GT_append_21 : decode prog_1_method_15_code 21 = .ok (.sipush 160, 3) := by decide +kernel
theorem d_GT_append_24 : decode prog_1_method_15_code 24 = .ok (.if_icmp .lt 6, 3) := by decide +kernel
theorem d_GT_append_27 : decode prog_1_method_15_code 27 = .ok (.ldc 92, 2) := by decide +kernel
theorem d_GT_append_29 : decode prog_1_method_15_code 29 = .ok (.ireturn, 1) := by decide +kernel
theorem d_GT_append_30 : decode prog_1_method_15_code 30 = .ok (.aload_n 0, 1) := by decide +kernel
theorem d_GT_append_31 : decode prog_1_method_15_code 31 = .ok (.getfield 26, 3) := by decide +kernel
theorem d_GT_append_34 : decode prog_1_method_15_code 34 = .ok (.iload_n 1, 1) := by decide +kernel
theorem d_GT_append_35 : decode prog_1_method_15_code 35 = .ok (.i2c, 1) := by decide +kernel
theorem d_GT_append_36 : decode prog_1_method_15_code 36 = .ok (.invokevirtual 238, 3) := by decide +kernel
theorem d_GT_append_39 : decode prog_1_method_15_code 39 = .ok (.aload_n 0, 1) := by decide +kernel
theorem d_GT_append_40 : decode prog_1_method_15_code 40 = .ok (.getfield 26, 3) := by decide +kernel
theorem d_GT_append_43 : decode prog_1_method_15_code 43 = .ok (.getfield 235, 3) := by decide +kernel
theorem d_GT_append_46 : decode prog_1_method_15_code 46 = .ok (.ireturn, 1) := by decide +kernel
theorem d_Text_put_0 : decode prog_8_method_2_code 0 = .ok (.aload_n 0, 1) := by decide +kernel
theorem d_Text_put_1 : decode prog_8_method_2_code 1 = .ok (.getfield 19, 3) := by decide +kernel
theorem d_Text_put_4 : decode prog_8_method_2_code 4 = .ok (.sipush 160, 3) := by decide +kernel
theorem d_Text_put_7 : decode prog_8_method_2_code 7 = .ok (.if_icmp .ge 23, 3) := by decide +kernel
theorem d_Text_put_10 : decode prog_8_method_2_code 10 = .ok (.aload_n 0, 1) := by decide +kernel
theorem d_Text_put_11 : decode prog_8_method_2_code 11 = .ok (.getfield 15, 3) := by decide +kernel
theorem d_Text_put_14 : decode prog_8_method_2_code 14 = .ok (.aload_n 0, 1) := by decide +kernel
theorem d_Text_put_15 : decode prog_8_method_2_code 15 = .ok (.getfield 19, 3) := by decide +kernel
theorem d_Text_put_18 : decode prog_8_method_2_code 18 = .ok (.iload_n 1, 1) := by decide +kernel
theorem d_Text_put_19 : decode prog_8_method_2_code 19 = .ok (.castore, 1) := by decide +kernel
theorem d_Text_put_20 : decode prog_8_method_2_code 20 = .ok (.aload_n 0, 1) := by decide +kernel
theorem d_Text_put_21 : decode prog_8_method_2_code 21 = .ok (.dup, 1) := by decide +kernel
theorem d_Text_put_22 : decode prog_8_method_2_code 22 = .ok (.getfield 19, 3) := by decide +kernel
theorem d_Text_put_25 : decode prog_8_method_2_code 25 = .ok (.iconst 1, 1) := by decide +kernel
theorem d_Text_put_26 : decode prog_8_method_2_code 26 = .ok (.iadd, 1) := by decide +kernel
theorem d_Text_put_27 : decode prog_8_method_2_code 27 = .ok (.putfield 19, 3) := by decide +kernel
theorem d_Text_put_30 : decode prog_8_method_2_code 30 = .ok (.return_, 1) := by decide +kernel
theorem d_GT_clearText_0 : decode prog_1_method_16_code 0 = .ok (.aload_n 0, 1) := by decide +kernel
theorem d_GT_clearText_1 : decode prog_1_method_16_code 1 = .ok (.getfield 26, 3) := by decide +kernel
theorem d_GT_clearText_4 : decode prog_1_method_16_code 4 = .ok (.getfield 235, 3) := by decide +kernel
theorem d_GT_clearText_7 : decode prog_1_method_16_code 7 = .ok (.istore_n 1, 1) := by decide +kernel
theorem d_GT_clearText_8 : decode prog_1_method_16_code 8 = .ok (.aload_n 0, 1) := by decide +kernel
theorem d_GT_clearText_9 : decode prog_1_method_16_code 9 = .ok (.getfield 26, 3) := by decide +kernel
theorem d_GT_clearText_12 : decode prog_1_method_16_code 12 = .ok (.iconst 0, 1) := by decide +kernel
theorem d_GT_clearText_13 : decode prog_1_method_16_code 13 = .ok (.putfield 235, 3) := by decide +kernel
theorem d_GT_clearText_16 : decode prog_1_method_16_code 16 = .ok (.iload_n 1, 1) := by decide +kernel
theorem d_GT_clearText_17 : decode prog_1_method_16_code 17 = .ok (.ireturn, 1) := by decide +kernel
theorem d_GT_load_0 : decode prog_1_method_17_code 0 = .ok (.aload_n 0, 1) := by decide +kernel
theorem d_GT_load_1 : decode prog_1_method_17_code 1 = .ok (.getfield 26, 3) := by decide +kernel
theorem d_GT_load_4 : decode prog_1_method_17_code 4 = .ok (.aload_n 0, 1) := by decide +kernel
theorem d_GT_load_5 : decode prog_1_method_17_code 5 = .ok (.getfield 33, 3) := by decide +kernel
theorem d_GT_load_8 : decode prog_1_method_17_code 8 = .ok (.invokevirtual 242, 3) := by decide +kernel
theorem d_GT_load_11 : decode prog_1_method_17_code 11 = .ok (.istore_n 1, 1) := by decide +kernel
theorem d_GT_load_12 : decode prog_1_method_17_code 12 = .ok (.aload_n 0, 1) := by decide +kernel
theorem d_GT_load_13 : decode prog_1_method_17_code 13 = .ok (.getfield 26, 3) := by decide +kernel
theorem d_GT_load_16 : decode prog_1_method_17_code 16 = .ok (.getfield 246, 3) := by decide +kernel
theorem d_GT_load_19 : decode prog_1_method_17_code 19 = .ok (.iconst (-1), 1) := by decide +kernel
theorem d_GT_load_20 : decode prog_1_method_17_code 20 = .ok (.if_icmp .eq 14, 3) := by decide +kernel
theorem d_GT_load_23 : decode prog_1_method_17_code 23 = .ok (.ldc 249, 2) := by decide +kernel
theorem d_GT_load_25 : decode prog_1_method_17_code 25 = .ok (.aload_n 0, 1) := by decide +kernel
theorem d_GT_load_26 : decode prog_1_method_17_code 26 = .ok (.getfield 26, 3) := by decide +kernel
theorem d_GT_load_29 : decode prog_1_method_17_code 29 = .ok (.getfield 246, 3) := by decide +kernel
theorem d_GT_load_32 : decode prog_1_method_17_code 32 = .ok (.isub, 1) := by decide +kernel
theorem d_GT_load_33 : decode prog_1_method_17_code 33 = .ok (.ireturn, 1) := by decide +kernel
theorem d_GT_load_34 : decode prog_1_method_17_code 34 = .ok (.aload_n 0, 1) := by decide +kernel
theorem d_GT_load_35 : decode prog_1_method_17_code 35 = .ok (.getfield 19, 3) := by decide +kernel
theorem d_GT_load_38 : decode prog_1_method_17_code 38 = .ok (.aload_n 0, 1) := by decide +kernel
theorem d_GT_load_39 : decode prog_1_method_17_code 39 = .ok (.getfield 12, 3) := by decide +kernel
theorem d_GT_load_42 : decode prog_1_method_17_code 42 = .ok (.invokevirtual 93, 3) := by decide +kernel
theorem d_GT_load_45 : decode prog_1_method_17_code 45 = .ok (.aload_n 0, 1) := by decide +kernel
theorem d_GT_load_46 : decode prog_1_method_17_code 46 = .ok (.getfield 12, 3) := by decide +kernel
theorem d_GT_load_49 : decode prog_1_method_17_code 49 = .ok (.aload_n 0, 1) := by decide +kernel
theorem d_GT_load_50 : decode prog_1_method_17_code 50 = .ok (.getfield 33, 3) := by decide +kernel
theorem d_GT_load_53 : decode prog_1_method_17_code 53 = .ok (.invokevirtual 228, 3) := by decide +kernel
theorem d_GT_load_56 : decode prog_1_method_17_code 56 = .ok (.aload_n 0, 1) := by decide +kernel
theorem d_GT_load_57 : decode prog_1_method_17_code 57 = .ok (.getfield 26, 3) := by decide +kernel
theorem d_GT_load_60 : decode prog_1_method_17_code 60 = .ok (.iconst 0, 1) := by decide +kernel
theorem d_GT_load_61 : decode prog_1_method_17_code 61 = .ok (.putfield 235, 3) := by decide +kernel
theorem d_GT_load_64 : decode prog_1_method_17_code 64 = .ok (.iload_n 1, 1) := by decide +kernel
theorem d_GT_load_65 : decode prog_1_method_17_code 65 = .ok (.ireturn, 1) := by decide +kernel
theorem d_Text_readInto_0 : decode prog_8_method_3_code 0 = .ok (.aload_n 1, 1) := by decide +kernel
theorem d_Text_readInto_1 : decode prog_8_method_3_code 1 = .ok (.invokevirtual 22, 3) := by decide +kernel
theorem d_Text_readInto_4 : decode prog_8_method_3_code 4 = .ok (.aload_n 0, 1) := by decide +kernel
theorem d_Text_readInto_5 : decode prog_8_method_3_code 5 = .ok (.iconst 0, 1) := by decide +kernel
theorem d_Text_readInto_6 : decode prog_8_method_3_code 6 = .ok (.putfield 27, 3) := by decide +kernel
theorem d_Text_readInto_9 : decode prog_8_method_3_code 9 = .ok (.aload_n 0, 1) := by decide +kernel
theorem d_Text_readInto_10 : decode prog_8_method_3_code 10 = .ok (.iconst (-1), 1) := by decide +kernel
theorem d_Text_readInto_11 : decode prog_8_method_3_code 11 = .ok (.putfield 11, 3) := by decide +kernel
theorem d_Text_readInto_14 : decode prog_8_method_3_code 14 = .ok (.iconst 0, 1) := by decide +kernel
theorem d_Text_readInto_15 : decode prog_8_method_3_code 15 = .ok (.istore_n 2, 1) := by decide +kernel
theorem d_Text_readInto_16 : decode prog_8_method_3_code 16 = .ok (.iload_n 2, 1) := by decide +kernel
theorem d_Text_readInto_17 : decode prog_8_method_3_code 17 = .ok (.sipush 160, 3) := by decide +kernel
theorem d_Text_readInto_20 : decode prog_8_method_3_code 20 = .ok (.if_icmp .ge 29, 3) := by decide +kernel
theorem d_Text_readInto_23 : decode prog_8_method_3_code 23 = .ok (.aload_n 0, 1) := by decide +kernel
theorem d_Text_readInto_24 : decode prog_8_method_3_code 24 = .ok (.getfield 11, 3) := by decide +kernel
theorem d_Text_readInto_27 : decode prog_8_method_3_code 27 = .ok (.iconst (-1), 1) := by decide +kernel
theorem d_Text_readInto_28 : decode prog_8_method_3_code 28 = .ok (.if_icmp .ne 21, 3) := by decide +kernel
theorem d_Text_readInto_31 : decode prog_8_method_3_code 31 = .ok (.aload_n 0, 1) := by decide +kernel
theorem d_Text_readInto_32 : decode prog_8_method_3_code 32 = .ok (.invokevirtual 30, 3) := by decide +kernel
theorem d_Text_readInto_35 : decode prog_8_method_3_code 35 = .ok (.ifCond .eq 14, 3) := by decide +kernel
theorem d_Text_readInto_38 : decode prog_8_method_3_code 38 = .ok (.aload_n 0, 1) := by decide +kernel
theorem d_Text_readInto_39 : decode prog_8_method_3_code 39 = .ok (.aload_n 1, 1) := by decide +kernel
theorem d_Text_readInto_40 : decode prog_8_method_3_code 40 = .ok (.invokevirtual 34, 3) := by decide +kernel
theorem d_Text_readInto_43 : decode prog_8_method_3_code 43 = .ok (.iinc 2 1, 3) := by decide +kernel
theorem d_Text_readInto_46 : decode prog_8_method_3_code 46 = .ok (.goto (-30), 3) := by decide +kernel
theorem d_Text_readInto_49 : decode prog_8_method_3_code 49 = .ok (.iload_n 2, 1) := by decide +kernel
theorem d_Text_readInto_50 : decode prog_8_method_3_code 50 = .ok (.ireturn, 1) := by decide +kernel
theorem d_Table_clear_0 : decode prog_7_method_2_code 0 = .ok (.aload_n 0, 1) := by decide +kernel
theorem d_Table_clear_1 : decode prog_7_method_2_code 1 = .ok (.getfield 12, 3) := by decide +kernel
theorem d_Table_clear_4 : decode prog_7_method_2_code 4 = .ok (.iconst 0, 1) := by decide +kernel
theorem d_Table_clear_5 : decode prog_7_method_2_code 5 = .ok (.putfield 35, 3) := by decide +kernel
theorem d_Table_clear_8 : decode prog_7_method_2_code 8 = .ok (.aload_n 0, 1) := by decide +kernel
theorem d_Table_clear_9 : decode prog_7_method_2_code 9 = .ok (.getfield 18, 3) := by decide +kernel
theorem d_Table_clear_12 : decode prog_7_method_2_code 12 = .ok (.iconst 0, 1) := by decide +kernel
theorem d_Table_clear_13 : decode prog_7_method_2_code 13 = .ok (.putfield 35, 3) := by decide +kernel
theorem d_Table_clear_16 : decode prog_7_method_2_code 16 = .ok (.aload_n 0, 1) := by decide +kernel
theorem d_Table_clear_17 : decode prog_7_method_2_code 17 = .ok (.getfield 21, 3) := by decide +kernel
theorem d_Table_clear_20 : decode prog_7_method_2_code 20 = .ok (.iconst 0, 1) := by decide +kernel
theorem d_Table_clear_21 : decode prog_7_method_2_code 21 = .ok (.invokestatic 29, 3) := by decide +kernel
theorem d_Table_clear_24 : decode prog_7_method_2_code 24 = .ok (.aload_n 0, 1) := by decide +kernel
theorem d_Table_clear_25 : decode prog_7_method_2_code 25 = .ok (.getfield 25, 3) := by decide +kernel
theorem d_Table_clear_28 : decode prog_7_method_2_code 28 = .ok (.ldc 28, 2) := by decide +kernel
theorem d_Table_clear_30 : decode prog_7_method_2_code 30 = .ok (.invokestatic 29, 3) := by decide +kernel
theorem d_Table_clear_33 : decode prog_7_method_2_code 33 = .ok (.return_, 1) := by decide +kernel
theorem d_Text_peek_0 : decode prog_8_method_9_code 0 = .ok (.aload_n 0, 1) := by decide +kernel
theorem d_Text_peek_1 : decode prog_8_method_9_code 1 = .ok (.getfield 27, 3) := by decide +kernel
theorem d_Text_peek_4 : decode prog_8_method_9_code 4 = .ok (.aload_n 0, 1) := by decide +kernel
theorem d_Text_peek_5 : decode prog_8_method_9_code 5 = .ok (.getfield 19, 3) := by decide +kernel
theorem d_Text_peek_8 : decode prog_8_method_9_code 8 = .ok (.if_icmp .ge 29, 3) := by decide +kernel
theorem d_Text_peek_11 : decode prog_8_method_9_code 11 = .ok (.aload_n 0, 1) := by decide +kernel
theorem d_Text_peek_12 : decode prog_8_method_9_code 12 = .ok (.aload_n 0, 1) := by decide +kernel
theorem d_Text_peek_13 : decode prog_8_method_9_code 13 = .ok (.getfield 27, 3) := by decide +kernel
theorem d_Text_peek_16 : decode prog_8_method_9_code 16 = .ok (.invokevirtual 94, 3) := by decide +kernel
theorem d_Text_peek_19 : decode prog_8_method_9_code 19 = .ok (.bipush 32, 2) := by decide +kernel
theorem d_Text_peek_21 : decode prog_8_method_9_code 21 = .ok (.if_icmp .ne 16, 3) := by decide +kernel
theorem d_Text_peek_24 : decode prog_8_method_9_code 24 = .ok (.aload_n 0, 1) := by decide +kernel
theorem d_Text_peek_25 : decode prog_8_method_9_code 25 = .ok (.dup, 1) := by decide +kernel
theorem d_Text_peek_26 : decode prog_8_method_9_code 26 = .ok (.getfield 27, 3) := by decide +kernel
theorem d_Text_peek_29 : decode prog_8_method_9_code 29 = .ok (.iconst 1, 1) := by decide +kernel
theorem d_Text_peek_30 : decode prog_8_method_9_code 30 = .ok (.iadd, 1) := by decide +kernel
theorem d_Text_peek_31 : decode prog_8_method_9_code 31 = .ok (.putfield 27, 3) := by decide +kernel
theorem d_Text_peek_34 : decode prog_8_method_9_code 34 = .ok (.goto (-34), 3) := by decide +kernel
theorem d_Text_peek_37 : decode prog_8_method_9_code 37 = .ok (.aload_n 0, 1) := by decide +kernel
theorem d_Text_peek_38 : decode prog_8_method_9_code 38 = .ok (.aload_n 0, 1) := by decide +kernel
theorem d_Text_peek_39 : decode prog_8_method_9_code 39 = .ok (.getfield 27, 3) := by decide +kernel
theorem d_Text_peek_42 : decode prog_8_method_9_code 42 = .ok (.invokevirtual 94, 3) := by decide +kernel
theorem d_Text_peek_45 : decode prog_8_method_9_code 45 = .ok (.ireturn, 1) := by decide +kernel
theorem d_Text_characterAt_0 : decode prog_8_method_10_code 0 = .ok (.iload_n 1, 1) := by decide +kernel
theorem d_Text_characterAt_1 : decode prog_8_method_10_code 1 = .ok (.ifCond .lt 27, 3) := by decide +kernel
theorem d_Text_characterAt_4 : decode prog_8_method_10_code 4 = .ok (.iload_n 1, 1) := by decide +kernel
theorem d_Text_characterAt_5 : decode prog_8_method_10_code 5 = .ok (.aload_n 0, 1) := by decide +kernel
theorem d_Text_characterAt_6 : decode prog_8_method_10_code 6 = .ok (.getfield 19, 3) := by decide +kernel
theorem d_Text_characterAt_9 : decode prog_8_method_10_code 9 = .ok (.if_icmp .ge 19, 3) := by decide +kernel
theorem d_Text_characterAt_12 : decode prog_8_method_10_code 12 = .ok (.iload_n 1, 1) := by decide +kernel
theorem d_Text_characterAt_13 : decode prog_8_method_10_code 13 = .ok (.sipush 160, 3) := by decide +kernel
theorem d_Text_characterAt_16 : decode prog_8_method_10_code 16 = .ok (.if_icmp .ge 12, 3) := by decide +kernel
theorem d_Text_characterAt_19 : decode prog_8_method_10_code 19 = .ok (.aload_n 0, 1) := by decide +kernel
theorem d_Text_characterAt_20 : decode prog_8_method_10_code 20 = .ok (.getfield 15, 3) := by decide +kernel
theorem d_Text_characterAt_23 : decode prog_8_method_10_code 23 = .ok (.iload_n 1, 1) := by decide +kernel
theorem d_Text_characterAt_24 : decode prog_8_method_10_code 24 = .ok (.caload, 1) := by decide +kernel
theorem d_Text_characterAt_25 : decode prog_8_method_10_code 25 = .ok (.goto 4, 3) := by decide +kernel
theorem d_Text_characterAt_28 : decode prog_8_method_10_code 28 = .ok (.iconst 0, 1) := by decide +kernel
theorem d_Text_characterAt_29 : decode prog_8_method_10_code 29 = .ok (.ireturn, 1) := by decide +kernel
theorem d_Text_readItem_0 : decode prog_8_method_4_code 0 = .ok (.aload_n 0, 1) := by decide +kernel
theorem d_Text_readItem_1 : decode prog_8_method_4_code 1 = .ok (.invokevirtual 30, 3) := by decide +kernel
theorem d_Text_readItem_4 : decode prog_8_method_4_code 4 = .ok (.istore_n 2, 1) := by decide +kernel
theorem d_Text_readItem_5 : decode prog_8_method_4_code 5 = .ok (.iload_n 2, 1) := by decide +kernel
theorem d_Text_readItem_6 : decode prog_8_method_4_code 6 = .ok (.bipush 120, 2) := by decide +kernel
theorem d_Text_readItem_8 : decode prog_8_method_4_code 8 = .ok (.if_icmp .ne 12, 3) := by decide +kernel
theorem d_Text_readItem_11 : decode prog_8_method_4_code 11 = .ok (.aload_n 0, 1) := by decide +kernel
theorem d_Text_readItem_12 : decode prog_8_method_4_code 12 = .ok (.aload_n 1, 1) := by decide +kernel
theorem d_Text_readItem_13 : decode prog_8_method_4_code 13 = .ok (.iconst 0, 1) := by decide +kernel
theorem d_Text_readItem_14 : decode prog_8_method_4_code 14 = .ok (.invokevirtual 38, 3) := by decide +kernel
theorem d_Text_readItem_17 : decode prog_8_method_4_code 17 = .ok (.goto 40, 3) := by decide +kernel
theorem d_Text_readItem_20 : decode prog_8_method_4_code 20 = .ok (.iload_n 2, 1) := by decide +kernel
theorem d_Text_readItem_21 : decode prog_8_method_4_code 21 = .ok (.bipush 121, 2) := by decide +kernel
theorem d_Text_readItem_23 : decode prog_8_method_4_code 23 = .ok (.if_icmp .ne 12, 3) := by decide +kernel
theorem d_Text_readItem_26 : decode prog_8_method_4_code 26 = .ok (.aload_n 0, 1) := by decide +kernel
theorem d_Text_readItem_27 : decode prog_8_method_4_code 27 = .ok (.aload_n 1, 1) := by decide +kernel
theorem d_Text_readItem_28 : decode prog_8_method_4_code 28 = .ok (.iconst 1, 1) := by decide +kernel
theorem d_Text_readItem_29 : decode prog_8_method_4_code 29 = .ok (.invokevirtual 38, 3) := by decide +kernel
theorem d_Text_readItem_32 : decode prog_8_method_4_code 32 = .ok (.goto 25, 3) := by decide +kernel
theorem d_Text_readItem_35 : decode prog_8_method_4_code 35 = .ok (.iload_n 2, 1) := by decide +kernel
theorem d_Text_readItem_36 : decode prog_8_method_4_code 36 = .ok (.bipush 103, 2) := by decide +kernel
theorem d_Text_readItem_38 : decode prog_8_method_4_code 38 = .ok (.if_icmp .ne 11, 3) := by decide +kernel
theorem d_Text_readItem_41 : decode prog_8_method_4_code 41 = .ok (.aload_n 0, 1) := by decide +kernel
theorem d_Text_readItem_42 : decode prog_8_method_4_code 42 = .ok (.aload_n 1, 1) := by decide +kernel
theorem d_Text_readItem_43 : decode prog_8_method_4_code 43 = .ok (.invokevirtual 42, 3) := by decide +kernel
theorem d_Text_readItem_46 : decode prog_8_method_4_code 46 = .ok (.goto 11, 3) := by decide +kernel
theorem d_Text_readItem_49 : decode prog_8_method_4_code 49 = .ok (.aload_n 0, 1) := by decide +kernel
theorem d_Text_readItem_50 : decode prog_8_method_4_code 50 = .ok (.aload_n 0, 1) := by decide +kernel
theorem d_Text_readItem_51 : decode prog_8_method_4_code 51 = .ok (.getfield 27, 3) := by decide +kernel
theorem d_Text_readItem_54 : decode prog_8_method_4_code 54 = .ok (.putfield 11, 3) := by decide +kernel
theorem d_Text_readItem_57 : decode prog_8_method_4_code 57 = .ok (.return_, 1) := by decide +kernel
theorem d_Text_readBorder_0 : decode prog_8_method_5_code 0 = .ok (.aload_n 0, 1) := by decide +kernel
theorem d_Text_readBorder_1 : decode prog_8_method_5_code 1 = .ok (.getfield 27, 3) := by decide +kernel
theorem d_Text_readBorder_4 : decode prog_8_method_5_code 4 = .ok (.istore_n 3, 1) := by decide +kernel
theorem d_Text_readBorder_5 : decode prog_8_method_5_code 5 = .ok (.aload_n 0, 1) := by decide +kernel
theorem d_Text_readBorder_6 : decode prog_8_method_5_code 6 = .ok (.dup, 1) := by decide +kernel
theorem d_Text_readBorder_7 : decode prog_8_method_5_code 7 = .ok (.getfield 27, 3) := by decide +kernel
theorem d_Text_readBorder_10 : decode prog_8_method_5_code 10 = .ok (.iconst 1, 1) := by decide +kernel
theorem d_Text_readBorder_11 : decode prog_8_method_5_code 11 = .ok (.iadd, 1) := by decide +kernel
theorem d_Text_readBorder_12 : decode prog_8_method_5_code 12 = .ok (.putfield 27, 3) := by decide +kernel
theorem d_Text_readBorder_15 : decode prog_8_method_5_code 15 = .ok (.aload_n 0, 1) := by decide +kernel
theorem d_Text_readBorder_16 : decode prog_8_method_5_code 16 = .ok (.iconst 1, 1) := by decide +kernel
theorem d_Text_readBorder_17 : decode prog_8_method_5_code 17 = .ok (.sipush 999, 3) := by decide +kernel
theorem d_Text_readBorder_20 : decode prog_8_method_5_code 20 = .ok (.invokevirtual 45, 3) := by decide +kernel
theorem d_Text_readBorder_23 : decode prog_8_method_5_code 23 = .ok (.istore 4, 2) := by decide +kernel
theorem d_Text_readBorder_25 : decode prog_8_method_5_code 25 = .ok (.aload_n 0, 1) := by decide +kernel
theorem d_Text_readBorder_26 : decode prog_8_method_5_code 26 = .ok (.iconst 0, 1) := by decide +kernel
theorem d_Text_readBorder_27 : decode prog_8_method_5_code 27 = .ok (.bipush 100, 2) := by decide +kernel
theorem d_Text_readBorder_29 : decode prog_8_method_5_code 29 = .ok (.invokevirtual 45, 3) := by decide +kernel
theorem d_Text_readBorder_32 : decode prog_8_method_5_code 32 = .ok (.istore 5, 2) := by decide +kernel
theorem d_Text_readBorder_34 : decode prog_8_method_5_code 34 = .ok (.iconst 0, 1) := by decide +kernel
theorem d_Text_readBorder_35 : decode prog_8_method_5_code 35 = .ok (.istore 6, 2) := by decide +kernel
theorem d_Text_readBorder_37 : decode prog_8_method_5_code 37 = .ok (.aload_n 0, 1) := by decide +kernel
theorem d_Text_readBorder_38 : decode prog_8_method_5_code 38 = .ok (.getfield 11, 3) := by decide +kernel
theorem d_Text_readBorder_41 : decode prog_8_method_5_code 41 = .ok (.iconst (-1), 1) := by decide +kernel
theorem d_Text_readBorder_42 : decode prog_8_method_5_code 42 = .ok (.if_icmp .ne 25, 3) := by decide +kernel
theorem d_Text_readBorder_45 : decode prog_8_method_5_code 45 = .ok (.aload_n 0, 1) := by decide +kernel
theorem d_Text_readBorder_46 : decode prog_8_method_5_code 46 = .ok (.invokevirtual 30, 3) := by decide +kernel
theorem d_Text_readBorder_49 : decode prog_8_method_5_code 49 = .ok (.bipush 126, 2) := by decide +kernel
theorem d_Text_readBorder_51 : decode prog_8_method_5_code 51 = .ok (.if_icmp .ne 16, 3) := by decide +kernel
theorem d_Text_readBorder_54 : decode prog_8_method_5_code 54 = .ok (.iconst 1, 1) := by decide +kernel
theorem d_Text_readBorder_55 : decode prog_8_method_5_code 55 = .ok (.istore 6, 2) := by decide +kernel
theorem d_Text_readBorder_57 : decode prog_8_method_5_code 57 = .ok (.aload_n 0, 1) := by decide +kernel
theorem d_Text_readBorder_58 : decode prog_8_method_5_code 58 = .ok (.dup, 1) := by decide +kernel
theorem d_Text_readBorder_59 : decode prog_8_method_5_code 59 = .ok (.getfield 27, 3) := by decide +kernel
theorem d_Text_readBorder_62 : decode prog_8_method_5_code 62 = .ok (.iconst 1, 1) := by decide +kernel
theorem d_Text_readBorder_63 : decode prog_8_method_5_code 63 = .ok (.iadd, 1) := by decide +kernel
theorem d_Text_readBorder_64 : decode prog_8_method_5_code 64 = .ok (.putfield 27, 3) := by decide +kernel
theorem d_Text_readBorder_67 : decode prog_8_method_5_code 67 = .ok (.aload_n 0, 1) := by decide +kernel
theorem d_Text_readBorder_68 : decode prog_8_method_5_code 68 = .ok (.invokevirtual 49, 3) := by decide +kernel
theorem d_Text_readBorder_71 : decode prog_8_method_5_code 71 = .ok (.aload_n 0, 1) := by decide +kernel
theorem d_Text_readBorder_72 : decode prog_8_method_5_code 72 = .ok (.getfield 11, 3) := by decide +kernel
theorem d_Text_readBorder_75 : decode prog_8_method_5_code 75 = .ok (.iconst (-1), 1) := by decide +kernel
theorem d_Text_readBorder_76 : decode prog_8_method_5_code 76 = .ok (.if_icmp .eq 4, 3) := by decide +kernel
theorem d_Text_readBorder_79 : decode prog_8_method_5_code 79 = .ok (.return_, 1) := by decide +kernel
theorem d_Text_readBorder_80 : decode prog_8_method_5_code 80 = .ok (.aload_n 1, 1) := by decide +kernel
theorem d_Text_readBorder_81 : decode prog_8_method_5_code 81 = .ok (.iload_n 2, 1) := by decide +kernel
theorem d_Text_readBorder_82 : decode prog_8_method_5_code 82 = .ok (.invokevirtual 52, 3) := by decide +kernel
theorem d_Text_readBorder_85 : decode prog_8_method_5_code 85 = .ok (.astore 7, 2) := by decide +kernel
theorem d_Text_readBorder_87 : decode prog_8_method_5_code 87 = .ok (.iload 6, 2) := by decide +kernel
theorem d_Text_readBorder_89 : decode prog_8_method_5_code 89 = .ok (.iload 5, 2) := by decide +kernel
theorem d_Text_readBorder_91 : decode prog_8_method_5_code 91 = .ok (.invokestatic 56, 3) := by decide +kernel
theorem d_Text_readBorder_94 : decode prog_8_method_5_code 94 = .ok (.ifCond .eq 49, 3) := by decide +kernel
theorem d_Text_readBorder_97 : decode prog_8_method_5_code 97 = .ok (.iload 4, 2) := by decide +kernel
theorem d_Text_readBorder_99 : decode prog_8_method_5_code 99 = .ok (.iload 5, 2) := by decide +kernel
theorem d_Text_readBorder_101 : decode prog_8_method_5_code 101 = .ok (.invokestatic 60, 3) := by decide +kernel
theorem d_Text_readBorder_104 : decode prog_8_method_5_code 104 = .ok (.ifCond .eq 39, 3) := by decide +kernel
theorem d_Text_readBorder_107 : decode prog_8_method_5_code 107 = .ok (.aload 7, 2) := by decide +kernel
theorem d_Text_readBorder_109 : decode prog_8_method_5_code 109 = .ok (.iload 4, 2) := by decide +kernel
theorem d_Text_readBorder_111 : decode prog_8_method_5_code 111 = .ok (.iload 5, 2) := by decide +kernel
theorem d_Text_readBorder_113 : decode prog_8_method_5_code 113 = .ok (.iconst (-1), 1) := by decide +kernel
theorem d_Text_readBorder_114 : decode prog_8_method_5_code 114 = .ok (.invokevirtual 65, 3) := by decide +kernel
theorem d_Text_readBorder_117 : decode prog_8_method_5_code 117 = .ok (.ifCond .eq 26, 3) := by decide +kernel
theorem d_Text_readBorder_120 : decode prog_8_method_5_code 120 = .ok (.aload 7, 2) := by decide +kernel
theorem d_Text_readBorder_122 : decode prog_8_method_5_code 122 = .ok (.invokevirtual 69, 3) := by decide +kernel
theorem d_Text_readBorder_125 : decode prog_8_method_5_code 125 = .ok (.ifCond .ne 18, 3) := by decide +kernel
theorem d_Text_readBorder_128 : decode prog_8_method_5_code 128 = .ok (.aload_n 1, 1) := by decide +kernel
theorem d_Text_readBorder_129 : decode prog_8_method_5_code 129 = .ok (.iload_n 2, 1) := by decide +kernel
theorem d_Text_readBorder_130 : decode prog_8_method_5_code 130 = .ok (.iload 4, 2) := by decide +kernel
theorem d_Text_readBorder_132 : decode prog_8_method_5_code 132 = .ok (.iload 6, 2) := by decide +kernel
theorem d_Text_readBorder_134 : decode prog_8_method_5_code 134 = .ok (.iload 5, 2) := by decide +kernel
theorem d_Text_readBorder_136 : decode prog_8_method_5_code 136 = .ok (.invokevirtual 73, 3) := by decide +kernel
theorem d_Text_readBorder_139 : decode prog_8_method_5_code 139 = .ok (.pop, 1) := by decide +kernel
theorem d_Text_readBorder_140 : decode prog_8_method_5_code 140 = .ok (.goto 8, 3) := by decide +kernel
theorem d_Text_readBorder_143 : decode prog_8_method_5_code 143 = .ok (.aload_n 0, 1) := by decide +kernel
theorem d_Text_readBorder_144 : decode prog_8_method_5_code 144 = .ok (.iload_n 3, 1) := by decide +kernel
theorem d_Text_readBorder_145 : decode prog_8_method_5_code 145 = .ok (.putfield 11, 3) := by decide +kernel
theorem d_Text_readBorder_148 : decode prog_8_method_5_code 148 = .ok (.return_, 1) := by decide +kernel
theorem d_Text_readNumber_0 : decode prog_8_method_7_code 0 = .ok (.aload_n 0, 1) := by decide +kernel
theorem d_Text_readNumber_1 : decode prog_8_method_7_code 1 = .ok (.getfield 11, 3) := by decide +kernel
theorem d_Text_readNumber_4 : decode prog_8_method_7_code 4 = .ok (.iconst (-1), 1) := by decide +kernel
theorem d_Text_readNumber_5 : decode prog_8_method_7_code 5 = .ok (.if_icmp .eq 5, 3) := by decide +kernel
theorem d_Text_readNumber_8 : decode prog_8_method_7_code 8 = .ok (.iconst 0, 1) := by decide +kernel
theorem d_Text_readNumber_9 : decode prog_8_method_7_code 9 = .ok (.ireturn, 1) := by decide +kernel
theorem d_Text_readNumber_10 : decode prog_8_method_7_code 10 = .ok (.aload_n 0, 1) := by decide +kernel
theorem d_Text_readNumber_11 : decode prog_8_method_7_code 11 = .ok (.invokevirtual 30, 3) := by decide +kernel
theorem d_Text_readNumber_14 : decode prog_8_method_7_code 14 = .ok (.bipush 48, 2) := by decide +kernel
theorem d_Text_readNumber_16 : decode prog_8_method_7_code 16 = .ok (.if_icmp .ne 7, 3) := by decide +kernel
theorem d_Text_readNumber_19 : decode prog_8_method_7_code 19 = .ok (.iconst 1, 1) := by decide +kernel
theorem d_Text_readNumber_20 : decode prog_8_method_7_code 20 = .ok (.goto 4, 3) := by decide +kernel
theorem d_Text_readNumber_23 : decode prog_8_method_7_code 23 = .ok (.iconst 0, 1) := by decide +kernel
theorem d_Text_readNumber_24 : decode prog_8_method_7_code 24 = .ok (.istore_n 3, 1) := by decide +kernel
theorem d_Text_readNumber_25 : decode prog_8_method_7_code 25 = .ok (.aload_n 0, 1) := by decide +kernel
theorem d_Text_readNumber_26 : decode prog_8_method_7_code 26 = .ok (.getfield 27, 3) := by decide +kernel
theorem d_Text_readNumber_29 : decode prog_8_method_7_code 29 = .ok (.istore 4, 2) := by decide +kernel
theorem d_Text_readNumber_31 : decode prog_8_method_7_code 31 = .ok (.iconst 0, 1) := by decide +kernel
theorem d_Text_readNumber_32 : decode prog_8_method_7_code 32 = .ok (.istore 5, 2) := by decide +kernel
theorem d_Text_readNumber_34 : decode prog_8_method_7_code 34 = .ok (.aload_n 0, 1) := by decide +kernel
theorem d_Text_readNumber_35 : decode prog_8_method_7_code 35 = .ok (.getfield 27, 3) := by decide +kernel
theorem d_Text_readNumber_38 : decode prog_8_method_7_code 38 = .ok (.aload_n 0, 1) := by decide +kernel
theorem d_Text_readNumber_39 : decode prog_8_method_7_code 39 = .ok (.getfield 19, 3) := by decide +kernel
theorem d_Text_readNumber_42 : decode prog_8_method_7_code 42 = .ok (.if_icmp .ge 54, 3) := by decide +kernel
theorem d_Text_readNumber_45 : decode prog_8_method_7_code 45 = .ok (.aload_n 0, 1) := by decide +kernel
theorem d_Text_readNumber_46 : decode prog_8_method_7_code 46 = .ok (.aload_n 0, 1) := by decide +kernel
theorem d_Text_readNumber_47 : decode prog_8_method_7_code 47 = .ok (.getfield 27, 3) := by decide +kernel
theorem d_Text_readNumber_50 : decode prog_8_method_7_code 50 = .ok (.invokevirtual 94, 3) := by decide +kernel
theorem d_Text_readNumber_53 : decode prog_8_method_7_code 53 = .ok (.invokestatic 98, 3) := by decide +kernel
theorem d_Text_readNumber_56 : decode prog_8_method_7_code 56 = .ok (.ifCond .eq 40, 3) := by decide +kernel
theorem d_Text_readNumber_59 : decode prog_8_method_7_code 59 = .ok (.iload 5, 2) := by decide +kernel
theorem d_Text_readNumber_61 : decode prog_8_method_7_code 61 = .ok (.bipush 10, 2) := by decide +kernel
theorem d_Text_readNumber_63 : decode prog_8_method_7_code 63 = .ok (.imul, 1) := by decide +kernel
theorem d_Text_readNumber_64 : decode prog_8_method_7_code 64 = .ok (.aload_n 0, 1) := by decide +kernel
theorem d_Text_readNumber_65 : decode prog_8_method_7_code 65 = .ok (.aload_n 0, 1) := by decide +kernel
theorem d_Text_readNumber_66 : decode prog_8_method_7_code 66 = .ok (.getfield 27, 3) := by decide +kernel
theorem d_Text_readNumber_69 : decode prog_8_method_7_code 69 = .ok (.invokevirtual 94, 3) := by decide +kernel
theorem d_Text_readNumber_72 : decode prog_8_method_7_code 72 = .ok (.iadd, 1) := by decide +kernel
theorem d_Text_readNumber_73 : decode prog_8_method_7_code 73 = .ok (.bipush 48, 2) := by decide +kernel
theorem d_Text_readNumber_75 : decode prog_8_method_7_code 75 = .ok (.isub, 1) := by decide +kernel
theorem d_Text_readNumber_76 : decode prog_8_method_7_code 76 = .ok (.ldc 102, 2) := by decide +kernel
theorem d_Text_readNumber_78 : decode prog_8_method_7_code 78 = .ok (.invokestatic 103, 3) := by decide +kernel
theorem d_Text_readNumber_81 : decode prog_8_method_7_code 81 = .ok (.istore 5, 2) := by decide +kernel
theorem d_Text_readNumber_83 : decode prog_8_method_7_code 83 = .ok (.aload_n 0, 1) := by decide +kernel
theorem d_Text_readNumber_84 : decode prog_8_method_7_code 84 = .ok (.dup, 1) := by decide +kernel
theorem d_Text_readNumber_85 : decode prog_8_method_7_code 85 = .ok (.getfield 27, 3) := by decide +kernel
theorem d_Text_readNumber_88 : decode prog_8_method_7_code 88 = .ok (.iconst 1, 1) := by decide +kernel
theorem d_Text_readNumber_89 : decode prog_8_method_7_code 89 = .ok (.iadd, 1) := by decide +kernel
theorem d_Text_readNumber_90 : decode prog_8_method_7_code 90 = .ok (.putfield 27, 3) := by decide +kernel
theorem d_Text_readNumber_93 : decode prog_8_method_7_code 93 = .ok (.goto (-59), 3) := by decide +kernel
theorem d_Text_readNumber_96 : decode prog_8_method_7_code 96 = .ok (.aload_n 0, 1) := by decide +kernel
theorem d_Text_readNumber_97 : decode prog_8_method_7_code 97 = .ok (.getfield 27, 3) := by decide +kernel
theorem d_Text_readNumber_100 : decode prog_8_method_7_code 100 = .ok (.iload 4, 2) := by decide +kernel
theorem d_Text_readNumber_102 : decode prog_8_method_7_code 102 = .ok (.isub, 1) := by decide +kernel
theorem d_Text_readNumber_103 : decode prog_8_method_7_code 103 = .ok (.istore 6, 2) := by decide +kernel
theorem d_Text_readNumber_105 : decode prog_8_method_7_code 105 = .ok (.iload 6, 2) := by decide +kernel
theorem d_Text_readNumber_107 : decode prog_8_method_7_code 107 = .ok (.ifCond .eq 23, 3) := by decide +kernel
theorem d_Text_readNumber_110 : decode prog_8_method_7_code 110 = .ok (.iload 6, 2) := by decide +kernel
theorem d_Text_readNumber_112 : decode prog_8_method_7_code 112 = .ok (.iconst 1, 1) := by decide +kernel
theorem d_Text_readNumber_113 : decode prog_8_method_7_code 113 = .ok (.if_icmp .le 7, 3) := by decide +kernel
theorem d_Text_readNumber_116 : decode prog_8_method_7_code 116 = .ok (.iload_n 3, 1) := by decide +kernel
theorem d_Text_readNumber_117 : decode prog_8_method_7_code 117 = .ok (.ifCond .ne 13, 3) := by decide +kernel
theorem d_Text_readNumber_120 : decode prog_8_method_7_code 120 = .ok (.iload 5, 2) := by decide +kernel
theorem d_Text_readNumber_122 : decode prog_8_method_7_code 122 = .ok (.iload_n 1, 1) := by decide +kernel
theorem d_Text_readNumber_123 : decode prog_8_method_7_code 123 = .ok (.iload_n 2, 1) := by decide +kernel
theorem d_Text_readNumber_124 : decode prog_8_method_7_code 124 = .ok (.invokestatic 108, 3) := by decide +kernel
theorem d_Text_readNumber_127 : decode prog_8_method_7_code 127 = .ok (.ifCond .ne 9, 3) := by decide +kernel
theorem d_Text_readNumber_130 : decode prog_8_method_7_code 130 = .ok (.aload_n 0, 1) := by decide +kernel
theorem d_Text_readNumber_131 : decode prog_8_method_7_code 131 = .ok (.iload 4, 2) := by decide +kernel
theorem d_Text_readNumber_133 : decode prog_8_method_7_code 133 = .ok (.putfield 11, 3) := by decide +kernel
theorem d_Text_readNumber_136 : decode prog_8_method_7_code 136 = .ok (.iload 5, 2) := by decide +kernel
theorem d_Text_readNumber_138 : decode prog_8_method_7_code 138 = .ok (.ireturn, 1) := by decide +kernel
theorem d_Text_isDigit_0 : decode prog_8_method_11_code 0 = .ok (.iload_n 0, 1) := by decide +kernel
theorem d_Text_isDigit_1 : decode prog_8_method_11_code 1 = .ok (.bipush 48, 2) := by decide +kernel
theorem d_Text_isDigit_3 : decode prog_8_method_11_code 3 = .ok (.if_icmp .lt 13, 3) := by decide +kernel
theorem d_Text_isDigit_6 : decode prog_8_method_11_code 6 = .ok (.iload_n 0, 1) := by decide +kernel
theorem d_Text_isDigit_7 : decode prog_8_method_11_code 7 = .ok (.bipush 57, 2) := by decide +kernel
theorem d_Text_isDigit_9 : decode prog_8_method_11_code 9 = .ok (.if_icmp .gt 7, 3) := by decide +kernel
theorem d_Text_isDigit_12 : decode prog_8_method_11_code 12 = .ok (.iconst 1, 1) := by decide +kernel
theorem d_Text_isDigit_13 : decode prog_8_method_11_code 13 = .ok (.goto 4, 3) := by decide +kernel
theorem d_Text_isDigit_16 : decode prog_8_method_11_code 16 = .ok (.iconst 0, 1) := by decide +kernel
theorem d_Text_isDigit_17 : decode prog_8_method_11_code 17 = .ok (.ireturn, 1) := by decide +kernel
theorem d_Text_readEndOfItem_0 : decode prog_8_method_8_code 0 = .ok (.aload_n 0, 1) := by decide +kernel
theorem d_Text_readEndOfItem_1 : decode prog_8_method_8_code 1 = .ok (.getfield 11, 3) := by decide +kernel
theorem d_Text_readEndOfItem_4 : decode prog_8_method_8_code 4 = .ok (.iconst (-1), 1) := by decide +kernel
theorem d_Text_readEndOfItem_5 : decode prog_8_method_8_code 5 = .ok (.if_icmp .eq 4, 3) := by decide +kernel
theorem d_Text_readEndOfItem_8 : decode prog_8_method_8_code 8 = .ok (.return_, 1) := by decide +kernel
theorem d_Text_readEndOfItem_9 : decode prog_8_method_8_code 9 = .ok (.aload_n 0, 1) := by decide +kernel
theorem d_Text_readEndOfItem_10 : decode prog_8_method_8_code 10 = .ok (.invokevirtual 30, 3) := by decide +kernel
theorem d_Text_readEndOfItem_13 : decode prog_8_method_8_code 13 = .ok (.bipush 59, 2) := by decide +kernel
theorem d_Text_readEndOfItem_15 : decode prog_8_method_8_code 15 = .ok (.if_icmp .ne 16, 3) := by decide +kernel
theorem d_Text_readEndOfItem_18 : decode prog_8_method_8_code 18 = .ok (.aload_n 0, 1) := by decide +kernel
theorem d_Text_readEndOfItem_19 : decode prog_8_method_8_code 19 = .ok (.dup, 1) := by decide +kernel
theorem d_Text_readEndOfItem_20 : decode prog_8_method_8_code 20 = .ok (.getfield 27, 3) := by decide +kernel
theorem d_Text_readEndOfItem_23 : decode prog_8_method_8_code 23 = .ok (.iconst 1, 1) := by decide +kernel
theorem d_Text_readEndOfItem_24 : decode prog_8_method_8_code 24 = .ok (.iadd, 1) := by decide +kernel
theorem d_Text_readEndOfItem_25 : decode prog_8_method_8_code 25 = .ok (.putfield 27, 3) := by decide +kernel
theorem d_Text_readEndOfItem_28 : decode prog_8_method_8_code 28 = .ok (.goto 11, 3) := by decide +kernel
theorem d_Text_readEndOfItem_31 : decode prog_8_method_8_code 31 = .ok (.aload_n 0, 1) := by decide +kernel
theorem d_Text_readEndOfItem_32 : decode prog_8_method_8_code 32 = .ok (.aload_n 0, 1) := by decide +kernel
theorem d_Text_readEndOfItem_33 : decode prog_8_method_8_code 33 = .ok (.getfield 27, 3) := by decide +kernel
theorem d_Text_readEndOfItem_36 : decode prog_8_method_8_code 36 = .ok (.putfield 11, 3) := by decide +kernel
theorem d_Text_readEndOfItem_39 : decode prog_8_method_8_code 39 = .ok (.return_, 1) := by decide +kernel
theorem d_Text_readGain_0 : decode prog_8_method_6_code 0 = .ok (.aload_n 0, 1) := by decide +kernel
theorem d_Text_readGain_1 : decode prog_8_method_6_code 1 = .ok (.dup, 1) := by decide +kernel
theorem d_Text_readGain_2 : decode prog_8_method_6_code 2 = .ok (.getfield 27, 3) := by decide +kernel
theorem d_Text_readGain_5 : decode prog_8_method_6_code 5 = .ok (.iconst 1, 1) := by decide +kernel
theorem d_Text_readGain_6 : decode prog_8_method_6_code 6 = .ok (.iadd, 1) := by decide +kernel
theorem d_Text_readGain_7 : decode prog_8_method_6_code 7 = .ok (.putfield 27, 3) := by decide +kernel
theorem d_Text_readGain_10 : decode prog_8_method_6_code 10 = .ok (.aload_n 0, 1) := by decide +kernel
theorem d_Text_readGain_11 : decode prog_8_method_6_code 11 = .ok (.iconst 0, 1) := by decide +kernel
theorem d_Text_readGain_12 : decode prog_8_method_6_code 12 = .ok (.aload_n 1, 1) := by decide +kernel
theorem d_Text_readGain_13 : decode prog_8_method_6_code 13 = .ok (.getfield 77, 3) := by decide +kernel
theorem d_Text_readGain_16 : decode prog_8_method_6_code 16 = .ok (.getfield 81, 3) := by decide +kernel
theorem d_Text_readGain_19 : decode prog_8_method_6_code 19 = .ok (.invokevirtual 45, 3) := by decide +kernel
theorem d_Text_readGain_22 : decode prog_8_method_6_code 22 = .ok (.istore_n 2, 1) := by decide +kernel
theorem d_Text_readGain_23 : decode prog_8_method_6_code 23 = .ok (.aload_n 0, 1) := by decide +kernel
theorem d_Text_readGain_24 : decode prog_8_method_6_code 24 = .ok (.iconst 0, 1) := by decide +kernel
theorem d_Text_readGain_25 : decode prog_8_method_6_code 25 = .ok (.aload_n 1, 1) := by decide +kernel
theorem d_Text_readGain_26 : decode prog_8_method_6_code 26 = .ok (.getfield 84, 3) := by decide +kernel
theorem d_Text_readGain_29 : decode prog_8_method_6_code 29 = .ok (.getfield 81, 3) := by decide +kernel
theorem d_Text_readGain_32 : decode prog_8_method_6_code 32 = .ok (.invokevirtual 45, 3) := by decide +kernel
theorem d_Text_readGain_35 : decode prog_8_method_6_code 35 = .ok (.istore_n 3, 1) := by decide +kernel
theorem d_Text_readGain_36 : decode prog_8_method_6_code 36 = .ok (.aload_n 0, 1) := by decide +kernel
theorem d_Text_readGain_37 : decode prog_8_method_6_code 37 = .ok (.iconst 0, 1) := by decide +kernel
theorem d_Text_readGain_38 : decode prog_8_method_6_code 38 = .ok (.iconst 2, 1) := by decide +kernel
theorem d_Text_readGain_39 : decode prog_8_method_6_code 39 = .ok (.invokevirtual 45, 3) := by decide +kernel
theorem d_Text_readGain_42 : decode prog_8_method_6_code 42 = .ok (.istore 4, 2) := by decide +kernel
theorem d_Text_readGain_44 : decode prog_8_method_6_code 44 = .ok (.aload_n 0, 1) := by decide +kernel
theorem d_Text_readGain_45 : decode prog_8_method_6_code 45 = .ok (.iconst 0, 1) := by decide +kernel
theorem d_Text_readGain_46 : decode prog_8_method_6_code 46 = .ok (.sipush 9999, 3) := by decide +kernel
theorem d_Text_readGain_49 : decode prog_8_method_6_code 49 = .ok (.invokevirtual 45, 3) := by decide +kernel
theorem d_Text_readGain_52 : decode prog_8_method_6_code 52 = .ok (.istore 5, 2) := by decide +kernel
theorem d_Text_readGain_54 : decode prog_8_method_6_code 54 = .ok (.aload_n 0, 1) := by decide +kernel
theorem d_Text_readGain_55 : decode prog_8_method_6_code 55 = .ok (.invokevirtual 49, 3) := by decide +kernel
theorem d_Text_readGain_58 : decode prog_8_method_6_code 58 = .ok (.aload_n 0, 1) := by decide +kernel
theorem d_Text_readGain_59 : decode prog_8_method_6_code 59 = .ok (.getfield 11, 3) := by decide +kernel
theorem d_Text_readGain_62 : decode prog_8_method_6_code 62 = .ok (.iconst (-1), 1) := by decide +kernel
theorem d_Text_readGain_63 : decode prog_8_method_6_code 63 = .ok (.if_icmp .ne 16, 3) := by decide +kernel
theorem d_Text_readGain_66 : decode prog_8_method_6_code 66 = .ok (.aload_n 1, 1) := by decide +kernel
theorem d_Text_readGain_67 : decode prog_8_method_6_code 67 = .ok (.iload_n 2, 1) := by decide +kernel
theorem d_Text_readGain_68 : decode prog_8_method_6_code 68 = .ok (.iload_n 3, 1) := by decide +kernel
theorem d_Text_readGain_69 : decode prog_8_method_6_code 69 = .ok (.invokestatic 87, 3) := by decide +kernel
theorem d_Text_readGain_72 : decode prog_8_method_6_code 72 = .ok (.iload 4, 2) := by decide +kernel
theorem d_Text_readGain_74 : decode prog_8_method_6_code 74 = .ok (.iload 5, 2) := by decide +kernel
theorem d_Text_readGain_76 : decode prog_8_method_6_code 76 = .ok (.invokevirtual 90, 3) := by decide +kernel
theorem d_Text_readGain_79 : decode prog_8_method_6_code 79 = .ok (.return_, 1) := by decide +kernel
theorem d_GT_count_0 : decode prog_1_method_18_code 0 = .ok (.iload_n 1, 1) := by decide +kernel
theorem d_GT_count_1 : decode prog_1_method_18_code 1 = .ok (.tableswitch 173 0 11 #[63, 74, 82, 92, 102, 112, 122, 133, 141, 149, 157, 165], 63) := by decide +kernel
theorem d_GT_count_64 : decode prog_1_method_18_code 64 = .ok (.aload_n 0, 1) := by decide +kernel
theorem d_GT_count_65 : decode prog_1_method_18_code 65 = .ok (.getfield 12, 3) := by decide +kernel
theorem d_GT_count_68 : decode prog_1_method_18_code 68 = .ok (.getfield 77, 3) := by decide +kernel
theorem d_GT_count_71 : decode prog_1_method_18_code 71 = .ok (.invokevirtual 225, 3) := by decide +kernel
theorem d_GT_count_74 : decode prog_1_method_18_code 74 = .ok (.ireturn, 1) := by decide +kernel
theorem d_GT_count_75 : decode prog_1_method_18_code 75 = .ok (.aload_n 0, 1) := by decide +kernel
theorem d_GT_count_76 : decode prog_1_method_18_code 76 = .ok (.getfield 12, 3) := by decide +kernel
theorem d_GT_count_79 : decode prog_1_method_18_code 79 = .ok (.getfield 191, 3) := by decide +kernel
theorem d_GT_count_82 : decode prog_1_method_18_code 82 = .ok (.ireturn, 1) := by decide +kernel
theorem d_GT_count_83 : decode prog_1_method_18_code 83 = .ok (.aload_n 0, 1) := by decide +kernel
theorem d_GT_count_84 : decode prog_1_method_18_code 84 = .ok (.getfield 12, 3) := by decide +kernel
theorem d_GT_count_87 : decode prog_1_method_18_code 87 = .ok (.getfield 200, 3) := by decide +kernel
theorem d_GT_count_90 : decode prog_1_method_18_code 90 = .ok (.iconst 0, 1) := by decide +kernel
theorem d_GT_count_91 : decode prog_1_method_18_code 91 = .ok (.iaload, 1) := by decide +kernel
theorem d_GT_count_92 : decode prog_1_method_18_code 92 = .ok (.ireturn, 1) := by decide +kernel
theorem d_GT_count_93 : decode prog_1_method_18_code 93 = .ok (.aload_n 0, 1) := by decide +kernel
theorem d_GT_count_94 : decode prog_1_method_18_code 94 = .ok (.getfield 12, 3) := by decide +kernel
theorem d_GT_count_97 : decode prog_1_method_18_code 97 = .ok (.getfield 200, 3) := by decide +kernel
theorem d_GT_count_100 : decode prog_1_method_18_code 100 = .ok (.iconst 1, 1) := by decide +kernel
theorem d_GT_count_101 : decode prog_1_method_18_code 101 = .ok (.iaload, 1) := by decide +kernel
theorem d_GT_count_102 : decode prog_1_method_18_code 102 = .ok (.ireturn, 1) := by decide +kernel
theorem d_GT_count_103 : decode prog_1_method_18_code 103 = .ok (.aload_n 0, 1) := by decide +kernel
theorem d_GT_count_104 : decode prog_1_method_18_code 104 = .ok (.getfield 12, 3) := by decide +kernel
theorem d_GT_count_107 : decode prog_1_method_18_code 107 = .ok (.getfield 207, 3) := by decide +kernel
theorem d_GT_count_110 : decode prog_1_method_18_code 110 = .ok (.iconst 0, 1) := by decide +kernel
theorem d_GT_count_111 : decode prog_1_method_18_code 111 = .ok (.iaload, 1) := by decide +kernel
theorem d_GT_count_112 : decode prog_1_method_18_code 112 = .ok (.ireturn, 1) := by decide +kernel
theorem d_GT_count_113 : decode prog_1_method_18_code 113 = .ok (.aload_n 0, 1) := by decide +kernel
theorem d_GT_count_114 : decode prog_1_method_18_code 114 = .ok (.getfield 12, 3) := by decide +kernel
theorem d_GT_count_117 : decode prog_1_method_18_code 117 = .ok (.getfield 207, 3) := by decide +kernel
theorem d_GT_count_120 : decode prog_1_method_18_code 120 = .ok (.iconst 1, 1) := by decide +kernel
theorem d_GT_count_121 : decode prog_1_method_18_code 121 = .ok (.iaload, 1) := by decide +kernel
theorem d_GT_count_122 : decode prog_1_method_18_code 122 = .ok (.ireturn, 1) := by decide +kernel
theorem d_GT_count_123 : decode prog_1_method_18_code 123 = .ok (.aload_n 0, 1) := by decide +kernel
theorem d_GT_count_124 : decode prog_1_method_18_code 124 = .ok (.getfield 12, 3) := by decide +kernel
theorem d_GT_count_127 : decode prog_1_method_18_code 127 = .ok (.getfield 250, 3) := by decide +kernel
theorem d_GT_count_130 : decode prog_1_method_18_code 130 = .ok (.getfield 254, 3) := by decide +kernel
theorem d_GT_count_133 : decode prog_1_method_18_code 133 = .ok (.ireturn, 1) := by decide +kernel
theorem d_GT_count_134 : decode prog_1_method_18_code 134 = .ok (.aload_n 0, 1) := by decide +kernel
theorem d_GT_count_135 : decode prog_1_method_18_code 135 = .ok (.getfield 12, 3) := by decide +kernel
theorem d_GT_count_138 : decode prog_1_method_18_code 138 = .ok (.getfield 257, 3) := by decide +kernel
theorem d_GT_count_141 : decode prog_1_method_18_code 141 = .ok (.ireturn, 1) := by decide +kernel
theorem d_GT_count_142 : decode prog_1_method_18_code 142 = .ok (.aload_n 0, 1) := by decide +kernel
theorem d_GT_count_143 : decode prog_1_method_18_code 143 = .ok (.getfield 12, 3) := by decide +kernel
theorem d_GT_count_146 : decode prog_1_method_18_code 146 = .ok (.getfield 260, 3) := by decide +kernel
theorem d_GT_count_149 : decode prog_1_method_18_code 149 = .ok (.ireturn, 1) := by decide +kernel
theorem d_GT_count_150 : decode prog_1_method_18_code 150 = .ok (.aload_n 0, 1) := by decide +kernel
theorem d_GT_count_151 : decode prog_1_method_18_code 151 = .ok (.getfield 19, 3) := by decide +kernel
theorem d_GT_count_154 : decode prog_1_method_18_code 154 = .ok (.getfield 231, 3) := by decide +kernel
theorem d_GT_count_157 : decode prog_1_method_18_code 157 = .ok (.ireturn, 1) := by decide +kernel
theorem d_GT_count_158 : decode prog_1_method_18_code 158 = .ok (.aload_n 0, 1) := by decide +kernel
theorem d_GT_count_159 : decode prog_1_method_18_code 159 = .ok (.getfield 26, 3) := by decide +kernel
theorem d_GT_count_162 : decode prog_1_method_18_code 162 = .ok (.getfield 235, 3) := by decide +kernel
theorem d_GT_count_165 : decode prog_1_method_18_code 165 = .ok (.ireturn, 1) := by decide +kernel
theorem d_GT_count_166 : decode prog_1_method_18_code 166 = .ok (.aload_n 0, 1) := by decide +kernel
theorem d_GT_count_167 : decode prog_1_method_18_code 167 = .ok (.getfield 12, 3) := by decide +kernel
theorem d_GT_count_170 : decode prog_1_method_18_code 170 = .ok (.invokevirtual 263, 3) := by decide +kernel
theorem d_GT_count_173 : decode prog_1_method_18_code 173 = .ok (.ireturn, 1) := by decide +kernel
theorem d_GT_count_174 : decode prog_1_method_18_code 174 = .ok (.ldc 76, 2) := by decide +kernel
theorem d_GT_count_176 : decode prog_1_method_18_code 176 = .ok (.ireturn, 1) := by decide +kernel
theorem d_State_placesTaken_0 : decode prog_6_method_4_code 0 = .ok (.iconst 0, 1) := by decide +kernel
theorem d_State_placesTaken_1 : decode prog_6_method_4_code 1 = .ok (.istore_n 1, 1) := by decide +kernel
theorem d_State_placesTaken_2 : decode prog_6_method_4_code 2 = .ok (.iconst 0, 1) := by decide +kernel
theorem d_State_placesTaken_3 : decode prog_6_method_4_code 3 = .ok (.istore_n 2, 1) := by decide +kernel
theorem d_State_placesTaken_4 : decode prog_6_method_4_code 4 = .ok (.iload_n 2, 1) := by decide +kernel
theorem d_State_placesTaken_5 : decode prog_6_method_4_code 5 = .ok (.iconst 3, 1) := by decide +kernel
theorem d_State_placesTaken_6 : decode prog_6_method_4_code 6 = .ok (.if_icmp .ge 21, 3) := by decide +kernel
theorem d_State_placesTaken_9 : decode prog_6_method_4_code 9 = .ok (.aload_n 0, 1) := by decide +kernel
theorem d_State_placesTaken_10 : decode prog_6_method_4_code 10 = .ok (.getfield 27, 3) := by decide +kernel
theorem d_State_placesTaken_13 : decode prog_6_method_4_code 13 = .ok (.iload_n 2, 1) := by decide +kernel
theorem d_State_placesTaken_14 : decode prog_6_method_4_code 14 = .ok (.baload, 1) := by decide +kernel
theorem d_State_placesTaken_15 : decode prog_6_method_4_code 15 = .ok (.ifCond .eq 6, 3) := by decide +kernel
theorem d_State_placesTaken_18 : decode prog_6_method_4_code 18 = .ok (.iinc 1 1, 3) := by decide +kernel
theorem d_State_placesTaken_21 : decode prog_6_method_4_code 21 = .ok (.iinc 2 1, 3) := by decide +kernel
theorem d_State_placesTaken_24 : decode prog_6_method_4_code 24 = .ok (.goto (-20), 3) := by decide +kernel
theorem d_State_placesTaken_27 : decode prog_6_method_4_code 27 = .ok (.iload_n 1, 1) := by decide +kernel
theorem d_State_placesTaken_28 : decode prog_6_method_4_code 28 = .ok (.ireturn, 1) := by decide +kernel
theorem d_GT_axis_0 : decode prog_1_method_19_code 0 = .ok (.iload_n 1, 1) := by decide +kernel
theorem d_GT_axis_1 : decode prog_1_method_19_code 1 = .ok (.invokestatic 61, 3) := by decide +kernel
theorem d_GT_axis_4 : decode prog_1_method_19_code 4 = .ok (.ifCond .ne 6, 3) := by decide +kernel
theorem d_GT_axis_7 : decode prog_1_method_19_code 7 = .ok (.ldc 76, 2) := by decide +kernel
theorem d_GT_axis_9 : decode prog_1_method_19_code 9 = .ok (.ireturn, 1) := by decide +kernel
theorem d_GT_axis_10 : decode prog_1_method_19_code 10 = .ok (.aload_n 0, 1) := by decide +kernel
theorem d_GT_axis_11 : decode prog_1_method_19_code 11 = .ok (.invokevirtual 266, 3) := by decide +kernel
theorem d_GT_axis_14 : decode prog_1_method_19_code 14 = .ok (.iload_n 1, 1) := by decide +kernel
theorem d_GT_axis_15 : decode prog_1_method_19_code 15 = .ok (.ifCond .ne 10, 3) := by decide +kernel
theorem d_GT_axis_18 : decode prog_1_method_19_code 18 = .ok (.aload_n 0, 1) := by decide +kernel
theorem d_GT_axis_19 : decode prog_1_method_19_code 19 = .ok (.getfield 47, 3) := by decide +kernel
theorem d_GT_axis_22 : decode prog_1_method_19_code 22 = .ok (.goto 7, 3) := by decide +kernel
theorem d_GT_axis_25 : decode prog_1_method_19_code 25 = .ok (.aload_n 0, 1) := by decide +kernel
theorem d_GT_axis_26 : decode prog_1_method_19_code 26 = .ok (.getfield 51, 3) := by decide +kernel
theorem d_GT_axis_29 : decode prog_1_method_19_code 29 = .ok (.astore_n 3, 1) := by decide +kernel
theorem d_GT_axis_30 : decode prog_1_method_19_code 30 = .ok (.iload_n 2, 1) := by decide +kernel
theorem d_GT_axis_31 : decode prog_1_method_19_code 31 = .ok (.tableswitch 87 0 5 #[37, 52, 67, 72, 77, 82], 37) := by decide +kernel
theorem d_GT_axis_68 : decode prog_1_method_19_code 68 = .ok (.aload_n 0, 1) := by decide +kernel
theorem d_GT_axis_69 : decode prog_1_method_19_code 69 = .ok (.getfield 12, 3) := by decide +kernel
theorem d_GT_axis_72 : decode prog_1_method_19_code 72 = .ok (.getfield 77, 3) := by decide +kernel
theorem d_GT_axis_75 : decode prog_1_method_19_code 75 = .ok (.iload_n 1, 1) := by decide +kernel
theorem d_GT_axis_76 : decode prog_1_method_19_code 76 = .ok (.invokevirtual 80, 3) := by decide +kernel
theorem d_GT_axis_79 : decode prog_1_method_19_code 79 = .ok (.getfield 116, 3) := by decide +kernel
theorem d_GT_axis_82 : decode prog_1_method_19_code 82 = .ok (.ireturn, 1) := by decide +kernel
theorem d_GT_axis_83 : decode prog_1_method_19_code 83 = .ok (.aload_n 0, 1) := by decide +kernel
theorem d_GT_axis_84 : decode prog_1_method_19_code 84 = .ok (.getfield 12, 3) := by decide +kernel
theorem d_GT_axis_87 : decode prog_1_method_19_code 87 = .ok (.getfield 77, 3) := by decide +kernel
theorem d_GT_axis_90 : decode prog_1_method_19_code 90 = .ok (.iload_n 1, 1) := by decide +kernel
theorem d_GT_axis_91 : decode prog_1_method_19_code 91 = .ok (.invokevirtual 80, 3) := by decide +kernel
theorem d_GT_axis_94 : decode prog_1_method_19_code 94 = .ok (.invokevirtual 269, 3) := by decide +kernel
theorem d_GT_axis_97 : decode prog_1_method_19_code 97 = .ok (.ireturn, 1) := by decide +kernel
theorem d_GT_axis_98 : decode prog_1_method_19_code 98 = .ok (.aload_n 3, 1) := by decide +kernel
theorem d_GT_axis_99 : decode prog_1_method_19_code 99 = .ok (.getfield 271, 3) := by decide +kernel
theorem d_GT_axis_102 : decode prog_1_method_19_code 102 = .ok (.ireturn, 1) := by decide +kernel
theorem d_GT_axis_103 : decode prog_1_method_19_code 103 = .ok (.aload_n 3, 1) := by decide +kernel
theorem d_GT_axis_104 : decode prog_1_method_19_code 104 = .ok (.getfield 274, 3) := by decide +kernel
theorem d_GT_axis_107 : decode prog_1_method_19_code 107 = .ok (.ireturn, 1) := by decide +kernel
theorem d_GT_axis_108 : decode prog_1_method_19_code 108 = .ok (.aload_n 3, 1) := by decide +kernel
theorem d_GT_axis_109 : decode prog_1_method_19_code 109 = .ok (.getfield 277, 3) := by decide +kernel
theorem d_GT_axis_112 : decode prog_1_method_19_code 112 = .ok (.ireturn, 1) := by decide +kernel
theorem d_GT_axis_113 : decode prog_1_method_19_code 113 = .ok (.aload_n 3, 1) := by decide +kernel
theorem d_GT_axis_114 : decode prog_1_method_19_code 114 = .ok (.getfield 280, 3) := by decide +kernel
theorem d_GT_axis_117 : decode prog_1_method_19_code 117 = .ok (.ireturn, 1) := by decide +kernel
theorem d_GT_axis_118 : decode prog_1_method_19_code 118 = .ok (.ldc 76, 2) := by decide +kernel
theorem d_GT_axis_120 : decode prog_1_method_19_code 120 = .ok (.ireturn, 1) := by decide +kernel
theorem d_Borders_zones_0 : decode prog_3_method_12_code 0 = .ok (.aload_n 0, 1) := by decide +kernel
theorem d_Borders_zones_1 : decode prog_3_method_12_code 1 = .ok (.sipush 1000, 3) := by decide +kernel
theorem d_Borders_zones_4 : decode prog_3_method_12_code 4 = .ok (.invokevirtual 35, 3) := by decide +kernel
theorem d_Borders_zones_7 : decode prog_3_method_12_code 7 = .ok (.iconst 1, 1) := by decide +kernel
theorem d_Borders_zones_8 : decode prog_3_method_12_code 8 = .ok (.iadd, 1) := by decide +kernel
theorem d_Borders_zones_9 : decode prog_3_method_12_code 9 = .ok (.ireturn, 1) := by decide +kernel
theorem d_GT_border_0 : decode prog_1_method_20_code 0 = .ok (.iload_n 1, 1) := by decide +kernel
theorem d_GT_border_1 : decode prog_1_method_20_code 1 = .ok (.invokestatic 61, 3) := by decide +kernel
theorem d_GT_border_4 : decode prog_1_method_20_code 4 = .ok (.ifCond .eq 16, 3) := by decide +kernel
theorem d_GT_border_7 : decode prog_1_method_20_code 7 = .ok (.iload_n 2, 1) := by decide +kernel
theorem d_GT_border_8 : decode prog_1_method_20_code 8 = .ok (.ifCond .lt 12, 3) := by decide +kernel
theorem d_GT_border_11 : decode prog_1_method_20_code 11 = .ok (.iload_n 3, 1) := by decide +kernel
theorem d_GT_border_12 : decode prog_1_method_20_code 12 = .ok (.iconst 0, 1) := by decide +kernel
theorem d_GT_border_13 : decode prog_1_method_20_code 13 = .ok (.iconst 2, 1) := by decide +kernel
theorem d_GT_border_14 : decode prog_1_method_20_code 14 = .ok (.invokestatic 65, 3) := by decide +kernel
theorem d_GT_border_17 : decode prog_1_method_20_code 17 = .ok (.ifCond .ne 6, 3) := by decide +kernel
theorem d_GT_border_20 : decode prog_1_method_20_code 20 = .ok (.ldc 76, 2) := by decide +kernel
theorem d_GT_border_22 : decode prog_1_method_20_code 22 = .ok (.ireturn, 1) := by decide +kernel
theorem d_GT_border_23 : decode prog_1_method_20_code 23 = .ok (.aload_n 0, 1) := by decide +kernel
theorem d_GT_border_24 : decode prog_1_method_20_code 24 = .ok (.getfield 12, 3) := by decide +kernel
theorem d_GT_border_27 : decode prog_1_method_20_code 27 = .ok (.getfield 77, 3) := by decide +kernel
theorem d_GT_border_30 : decode prog_1_method_20_code 30 = .ok (.iload_n 1, 1) := by decide +kernel
theorem d_GT_border_31 : decode prog_1_method_20_code 31 = .ok (.invokevirtual 80, 3) := by decide +kernel
theorem d_GT_border_34 : decode prog_1_method_20_code 34 = .ok (.astore 4, 2) := by decide +kernel
theorem d_GT_border_36 : decode prog_1_method_20_code 36 = .ok (.aload 4, 2) := by decide +kernel
theorem d_GT_border_38 : decode prog_1_method_20_code 38 = .ok (.iload_n 2, 1) := by decide +kernel
theorem d_GT_border_39 : decode prog_1_method_20_code 39 = .ok (.invokevirtual 283, 3) := by decide +kernel
theorem d_GT_border_42 : decode prog_1_method_20_code 42 = .ok (.ifCond .ne 6, 3) := by decide +kernel
theorem d_GT_border_45 : decode prog_1_method_20_code 45 = .ok (.ldc 181, 2) := by decide +kernel
theorem d_GT_border_47 : decode prog_1_method_20_code 47 = .ok (.ireturn, 1) := by decide +kernel
theorem d_GT_border_48 : decode prog_1_method_20_code 48 = .ok (.iload_n 3, 1) := by decide +kernel
theorem d_GT_border_49 : decode prog_1_method_20_code 49 = .ok (.lookupswitch 41 #[(0, 27), (1, 34)], 27) := by decide +kernel
theorem d_GT_border_76 : decode prog_1_method_20_code 76 = .ok (.aload 4, 2) := by decide +kernel
theorem d_GT_border_78 : decode prog_1_method_20_code 78 = .ok (.iload_n 2, 1) := by decide +kernel
theorem d_GT_border_79 : decode prog_1_method_20_code 79 = .ok (.invokevirtual 120, 3) := by decide +kernel
theorem d_GT_border_82 : decode prog_1_method_20_code 82 = .ok (.ireturn, 1) := by decide +kernel
theorem d_GT_border_83 : decode prog_1_method_20_code 83 = .ok (.aload 4, 2) := by decide +kernel
theorem d_GT_border_85 : decode prog_1_method_20_code 85 = .ok (.iload_n 2, 1) := by decide +kernel
theorem d_GT_border_86 : decode prog_1_method_20_code 86 = .ok (.invokevirtual 124, 3) := by decide +kernel
theorem d_GT_border_89 : decode prog_1_method_20_code 89 = .ok (.ireturn, 1) := by decide +kernel
theorem d_GT_border_90 : decode prog_1_method_20_code 90 = .ok (.aload 4, 2) := by decide +kernel
theorem d_GT_border_92 : decode prog_1_method_20_code 92 = .ok (.iload_n 2, 1) := by decide +kernel
theorem d_GT_border_93 : decode prog_1_method_20_code 93 = .ok (.invokevirtual 127, 3) := by decide +kernel
theorem d_GT_border_96 : decode prog_1_method_20_code 96 = .ok (.ireturn, 1) := by decide +kernel
theorem d_GT_region_0 : decode prog_1_method_21_code 0 = .ok (.aload_n 0, 1) := by decide +kernel
theorem d_GT_region_1 : decode prog_1_method_21_code 1 = .ok (.iload_n 1, 1) := by decide +kernel
theorem d_GT_region_2 : decode prog_1_method_21_code 2 = .ok (.iload_n 2, 1) := by decide +kernel
theorem d_GT_region_3 : decode prog_1_method_21_code 3 = .ok (.invokevirtual 178, 3) := by decide +kernel
theorem d_GT_region_6 : decode prog_1_method_21_code 6 = .ok (.ifCond .eq 12, 3) := by decide +kernel
theorem d_GT_region_9 : decode prog_1_method_21_code 9 = .ok (.iload_n 3, 1) := by decide +kernel
theorem d_GT_region_10 : decode prog_1_method_21_code 10 = .ok (.iconst 0, 1) := by decide +kernel
theorem d_GT_region_11 : decode prog_1_method_21_code 11 = .ok (.iconst 3, 1) := by decide +kernel
theorem d_GT_region_12 : decode prog_1_method_21_code 12 = .ok (.invokestatic 65, 3) := by decide +kernel
theorem d_GT_region_15 : decode prog_1_method_21_code 15 = .ok (.ifCond .ne 6, 3) := by decide +kernel
theorem d_GT_region_18 : decode prog_1_method_21_code 18 = .ok (.ldc 76, 2) := by decide +kernel
theorem d_GT_region_20 : decode prog_1_method_21_code 20 = .ok (.ireturn, 1) := by decide +kernel
theorem d_GT_region_21 : decode prog_1_method_21_code 21 = .ok (.iload_n 1, 1) := by decide +kernel
theorem d_GT_region_22 : decode prog_1_method_21_code 22 = .ok (.iload_n 2, 1) := by decide +kernel
theorem d_GT_region_23 : decode prog_1_method_21_code 23 = .ok (.invokestatic 150, 3) := by decide +kernel
theorem d_GT_region_26 : decode prog_1_method_21_code 26 = .ok (.istore 4, 2) := by decide +kernel
theorem d_GT_region_28 : decode prog_1_method_21_code 28 = .ok (.iload_n 3, 1) := by decide +kernel
theorem d_GT_region_29 : decode prog_1_method_21_code 29 = .ok (.iconst 3, 1) := by decide +kernel
theorem d_GT_region_30 : decode prog_1_method_21_code 30 = .ok (.if_icmp .ge 19, 3) := by decide +kernel
theorem d_GT_region_33 : decode prog_1_method_21_code 33 = .ok (.aload_n 0, 1) := by decide +kernel
theorem d_GT_region_34 : decode prog_1_method_21_code 34 = .ok (.getfield 12, 3) := by decide +kernel
theorem d_GT_region_37 : decode prog_1_method_21_code 37 = .ok (.getfield 77, 3) := by decide +kernel
theorem d_GT_region_40 : decode prog_1_method_21_code 40 = .ok (.iload 4, 2) := by decide +kernel
theorem d_GT_region_42 : decode prog_1_method_21_code 42 = .ok (.iload_n 3, 1) := by decide +kernel
theorem d_GT_region_43 : decode prog_1_method_21_code 43 = .ok (.invokevirtual 157, 3) := by decide +kernel
theorem d_GT_region_46 : decode prog_1_method_21_code 46 = .ok (.goto 15, 3) := by decide +kernel
theorem d_GT_region_49 : decode prog_1_method_21_code 49 = .ok (.aload_n 0, 1) := by decide +kernel
theorem d_GT_region_50 : decode prog_1_method_21_code 50 = .ok (.getfield 12, 3) := by decide +kernel
theorem d_GT_region_53 : decode prog_1_method_21_code 53 = .ok (.getfield 77, 3) := by decide +kernel
theorem d_GT_region_56 : decode prog_1_method_21_code 56 = .ok (.iload 4, 2) := by decide +kernel
theorem d_GT_region_58 : decode prog_1_method_21_code 58 = .ok (.invokevirtual 182, 3) := by decide +kernel
theorem d_GT_region_61 : decode prog_1_method_21_code 61 = .ok (.ireturn, 1) := by decide +kernel
theorem d_GT_operator_0 : decode prog_1_method_22_code 0 = .ok (.iload_n 1, 1) := by decide +kernel
theorem d_GT_operator_1 : decode prog_1_method_22_code 1 = .ok (.invokestatic 136, 3) := by decide +kernel
theorem d_GT_operator_4 : decode prog_1_method_22_code 4 = .ok (.ifCond .ne 6, 3) := by decide +kernel
theorem d_GT_operator_7 : decode prog_1_method_22_code 7 = .ok (.ldc 76, 2) := by decide +kernel
theorem d_GT_operator_9 : decode prog_1_method_22_code 9 = .ok (.ireturn, 1) := by decide +kernel
theorem d_GT_operator_10 : decode prog_1_method_22_code 10 = .ok (.iload_n 2, 1) := by decide +kernel
theorem d_GT_operator_11 : decode prog_1_method_22_code 11 = .ok (.tableswitch 71 0 3 #[29, 39, 49, 61], 29) := by decide +kernel
theorem d_GT_operator_40 : decode prog_1_method_22_code 40 = .ok (.aload_n 0, 1) := by decide +kernel
theorem d_GT_operator_41 : decode prog_1_method_22_code 41 = .ok (.getfield 12, 3) := by decide +kernel
theorem d_GT_operator_44 : decode prog_1_method_22_code 44 = .ok (.getfield 140, 3) := by decide +kernel
theorem d_GT_operator_47 : decode prog_1_method_22_code 47 = .ok (.iload_n 1, 1) := by decide +kernel
theorem d_GT_operator_48 : decode prog_1_method_22_code 48 = .ok (.iaload, 1) := by decide +kernel
theorem d_GT_operator_49 : decode prog_1_method_22_code 49 = .ok (.ireturn, 1) := by decide +kernel
theorem d_GT_operator_50 : decode prog_1_method_22_code 50 = .ok (.aload_n 0, 1) := by decide +kernel
theorem d_GT_operator_51 : decode prog_1_method_22_code 51 = .ok (.getfield 12, 3) := by decide +kernel
theorem d_GT_operator_54 : decode prog_1_method_22_code 54 = .ok (.getfield 143, 3) := by decide +kernel
theorem d_GT_operator_57 : decode prog_1_method_22_code 57 = .ok (.iload_n 1, 1) := by decide +kernel
theorem d_GT_operator_58 : decode prog_1_method_22_code 58 = .ok (.iaload, 1) := by decide +kernel
theorem d_GT_operator_59 : decode prog_1_method_22_code 59 = .ok (.ireturn, 1) := by decide +kernel
theorem d_GT_operator_60 : decode prog_1_method_22_code 60 = .ok (.aload_n 0, 1) := by decide +kernel
theorem d_GT_operator_61 : decode prog_1_method_22_code 61 = .ok (.getfield 12, 3) := by decide +kernel
theorem d_GT_operator_64 : decode prog_1_method_22_code 64 = .ok (.getfield 77, 3) := by decide +kernel
theorem d_GT_operator_67 : decode prog_1_method_22_code 67 = .ok (.iload_n 1, 1) := by decide +kernel
theorem d_GT_operator_68 : decode prog_1_method_22_code 68 = .ok (.invokevirtual 188, 3) := by decide +kernel
theorem d_GT_operator_71 : decode prog_1_method_22_code 71 = .ok (.ireturn, 1) := by decide +kernel
theorem d_GT_operator_72 : decode prog_1_method_22_code 72 = .ok (.aload_n 0, 1) := by decide +kernel
theorem d_GT_operator_73 : decode prog_1_method_22_code 73 = .ok (.getfield 12, 3) := by decide +kernel
theorem d_GT_operator_76 : decode prog_1_method_22_code 76 = .ok (.getfield 286, 3) := by decide +kernel
theorem d_GT_operator_79 : decode prog_1_method_22_code 79 = .ok (.iload_n 1, 1) := by decide +kernel
theorem d_GT_operator_80 : decode prog_1_method_22_code 80 = .ok (.iaload, 1) := by decide +kernel
theorem d_GT_operator_81 : decode prog_1_method_22_code 81 = .ok (.ireturn, 1) := by decide +kernel
theorem d_GT_operator_82 : decode prog_1_method_22_code 82 = .ok (.ldc 76, 2) := by decide +kernel
theorem d_GT_operator_84 : decode prog_1_method_22_code 84 = .ok (.ireturn, 1) := by decide +kernel
theorem d_GT_account_0 : decode prog_1_method_23_code 0 = .ok (.iload_n 1, 1) := by decide +kernel
theorem d_GT_account_1 : decode prog_1_method_23_code 1 = .ok (.iconst 0, 1) := by decide +kernel
theorem d_GT_account_2 : decode prog_1_method_23_code 2 = .ok (.iconst 4, 1) := by decide +kernel
theorem d_GT_account_3 : decode prog_1_method_23_code 3 = .ok (.invokestatic 65, 3) := by decide +kernel
theorem d_GT_account_6 : decode prog_1_method_23_code 6 = .ok (.ifCond .ne 6, 3) := by decide +kernel
theorem d_GT_account_9 : decode prog_1_method_23_code 9 = .ok (.ldc 76, 2) := by decide +kernel
theorem d_GT_account_11 : decode prog_1_method_23_code 11 = .ok (.ireturn, 1) := by decide +kernel
theorem d_GT_account_12 : decode prog_1_method_23_code 12 = .ok (.iload_n 1, 1) := by decide +kernel
theorem d_GT_account_13 : decode prog_1_method_23_code 13 = .ok (.iconst 4, 1) := by decide +kernel
theorem d_GT_account_14 : decode prog_1_method_23_code 14 = .ok (.if_icmp .ne 13, 3) := by decide +kernel
theorem d_GT_account_17 : decode prog_1_method_23_code 17 = .ok (.aload_n 0, 1) := by decide +kernel
theorem d_GT_account_18 : decode prog_1_method_23_code 18 = .ok (.getfield 12, 3) := by decide +kernel
theorem d_GT_account_21 : decode prog_1_method_23_code 21 = .ok (.invokevirtual 289, 3) := by decide +kernel
theorem d_GT_account_24 : decode prog_1_method_23_code 24 = .ok (.goto 12, 3) := by decide +kernel
theorem d_GT_account_27 : decode prog_1_method_23_code 27 = .ok (.aload_n 0, 1) := by decide +kernel
theorem d_GT_account_28 : decode prog_1_method_23_code 28 = .ok (.getfield 12, 3) := by decide +kernel
theorem d_GT_account_31 : decode prog_1_method_23_code 31 = .ok (.getfield 292, 3) := by decide +kernel
theorem d_GT_account_34 : decode prog_1_method_23_code 34 = .ok (.iload_n 1, 1) := by decide +kernel
theorem d_GT_account_35 : decode prog_1_method_23_code 35 = .ok (.iaload, 1) := by decide +kernel
theorem d_GT_account_36 : decode prog_1_method_23_code 36 = .ok (.ireturn, 1) := by decide +kernel
theorem d_State_sumOfAccounts_0 : decode prog_6_method_5_code 0 = .ok (.iconst 0, 1) := by decide +kernel
theorem d_State_sumOfAccounts_1 : decode prog_6_method_5_code 1 = .ok (.istore_n 1, 1) := by decide +kernel
theorem d_State_sumOfAccounts_2 : decode prog_6_method_5_code 2 = .ok (.iconst 0, 1) := by decide +kernel
theorem d_State_sumOfAccounts_3 : decode prog_6_method_5_code 3 = .ok (.istore_n 2, 1) := by decide +kernel
theorem d_State_sumOfAccounts_4 : decode prog_6_method_5_code 4 = .ok (.iload_n 2, 1) := by decide +kernel
theorem d_State_sumOfAccounts_5 : decode prog_6_method_5_code 5 = .ok (.aload_n 0, 1) := by decide +kernel
theorem d_State_sumOfAccounts_6 : decode prog_6_method_5_code 6 = .ok (.getfield 54, 3) := by decide +kernel
theorem d_State_sumOfAccounts_9 : decode prog_6_method_5_code 9 = .ok (.arraylength, 1) := by decide +kernel
theorem d_State_sumOfAccounts_10 : decode prog_6_method_5_code 10 = .ok (.if_icmp .ge 18, 3) := by decide +kernel
theorem d_State_sumOfAccounts_13 : decode prog_6_method_5_code 13 = .ok (.iload_n 1, 1) := by decide +kernel
theorem d_State_sumOfAccounts_14 : decode prog_6_method_5_code 14 = .ok (.aload_n 0, 1) := by decide +kernel
theorem d_State_sumOfAccounts_15 : decode prog_6_method_5_code 15 = .ok (.getfield 54, 3) := by decide +kernel
theorem d_State_sumOfAccounts_18 : decode prog_6_method_5_code 18 = .ok (.iload_n 2, 1) := by decide +kernel
theorem d_State_sumOfAccounts_19 : decode prog_6_method_5_code 19 = .ok (.iaload, 1) := by decide +kernel
theorem d_State_sumOfAccounts_20 : decode prog_6_method_5_code 20 = .ok (.iadd, 1) := by decide +kernel
theorem d_State_sumOfAccounts_21 : decode prog_6_method_5_code 21 = .ok (.istore_n 1, 1) := by decide +kernel
theorem d_State_sumOfAccounts_22 : decode prog_6_method_5_code 22 = .ok (.iinc 2 1, 3) := by decide +kernel
theorem d_State_sumOfAccounts_25 : decode prog_6_method_5_code 25 = .ok (.goto (-21), 3) := by decide +kernel
theorem d_State_sumOfAccounts_28 : decode prog_6_method_5_code 28 = .ok (.iload_n 1, 1) := by decide +kernel
theorem d_State_sumOfAccounts_29 : decode prog_6_method_5_code 29 = .ok (.ireturn, 1) := by decide +kernel
theorem d_GT_gain_0 : decode prog_1_method_24_code 0 = .ok (.iload_n 1, 1) := by decide +kernel
theorem d_GT_gain_1 : decode prog_1_method_24_code 1 = .ok (.invokestatic 164, 3) := by decide +kernel
theorem d_GT_gain_4 : decode prog_1_method_24_code 4 = .ok (.ifCond .ne 6, 3) := by decide +kernel
theorem d_GT_gain_7 : decode prog_1_method_24_code 7 = .ok (.ldc 76, 2) := by decide +kernel
theorem d_GT_gain_9 : decode prog_1_method_24_code 9 = .ok (.ireturn, 1) := by decide +kernel
theorem d_GT_gain_10 : decode prog_1_method_24_code 10 = .ok (.aload_n 0, 1) := by decide +kernel
theorem d_GT_gain_11 : decode prog_1_method_24_code 11 = .ok (.invokevirtual 266, 3) := by decide +kernel
theorem d_GT_gain_14 : decode prog_1_method_24_code 14 = .ok (.iload_n 2, 1) := by decide +kernel
theorem d_GT_gain_15 : decode prog_1_method_24_code 15 = .ok (.tableswitch 67 0 2 #[25, 31, 51], 25) := by decide +kernel
theorem d_GT_gain_40 : decode prog_1_method_24_code 40 = .ok (.aload_n 0, 1) := by decide +kernel
theorem d_GT_gain_41 : decode prog_1_method_24_code 41 = .ok (.iload_n 1, 1) := by decide +kernel
theorem d_GT_gain_42 : decode prog_1_method_24_code 42 = .ok (.invokevirtual 295, 3) := by decide +kernel
theorem d_GT_gain_45 : decode prog_1_method_24_code 45 = .ok (.ireturn, 1) := by decide +kernel
theorem d_GT_gain_46 : decode prog_1_method_24_code 46 = .ok (.aload_n 0, 1) := by decide +kernel
theorem d_GT_gain_47 : decode prog_1_method_24_code 47 = .ok (.getfield 12, 3) := by decide +kernel
theorem d_GT_gain_50 : decode prog_1_method_24_code 50 = .ok (.getfield 77, 3) := by decide +kernel
theorem d_GT_gain_53 : decode prog_1_method_24_code 53 = .ok (.aload_n 0, 1) := by decide +kernel
theorem d_GT_gain_54 : decode prog_1_method_24_code 54 = .ok (.getfield 47, 3) := by decide +kernel
theorem d_GT_gain_57 : decode prog_1_method_24_code 57 = .ok (.aload_n 0, 1) := by decide +kernel
theorem d_GT_gain_58 : decode prog_1_method_24_code 58 = .ok (.getfield 51, 3) := by decide +kernel
theorem d_GT_gain_61 : decode prog_1_method_24_code 61 = .ok (.iload_n 1, 1) := by decide +kernel
theorem d_GT_gain_62 : decode prog_1_method_24_code 62 = .ok (.invokevirtual 298, 3) := by decide +kernel
theorem d_GT_gain_65 : decode prog_1_method_24_code 65 = .ok (.ireturn, 1) := by decide +kernel
theorem d_GT_gain_66 : decode prog_1_method_24_code 66 = .ok (.aload_n 0, 1) := by decide +kernel
theorem d_GT_gain_67 : decode prog_1_method_24_code 67 = .ok (.getfield 47, 3) := by decide +kernel
theorem d_GT_gain_70 : decode prog_1_method_24_code 70 = .ok (.getfield 280, 3) := by decide +kernel
theorem d_GT_gain_73 : decode prog_1_method_24_code 73 = .ok (.aload_n 0, 1) := by decide +kernel
theorem d_GT_gain_74 : decode prog_1_method_24_code 74 = .ok (.getfield 51, 3) := by decide +kernel
theorem d_GT_gain_77 : decode prog_1_method_24_code 77 = .ok (.getfield 280, 3) := by decide +kernel
theorem d_GT_gain_80 : decode prog_1_method_24_code 80 = .ok (.imul, 1) := by decide +kernel
theorem d_GT_gain_81 : decode prog_1_method_24_code 81 = .ok (.ireturn, 1) := by decide +kernel
theorem d_GT_gain_82 : decode prog_1_method_24_code 82 = .ok (.ldc 76, 2) := by decide +kernel
theorem d_GT_gain_84 : decode prog_1_method_24_code 84 = .ok (.ireturn, 1) := by decide +kernel
theorem d_GT_trail_0 : decode prog_1_method_25_code 0 = .ok (.iload_n 1, 1) := by decide +kernel
theorem d_GT_trail_1 : decode prog_1_method_25_code 1 = .ok (.ifCond .lt 13, 3) := by decide +kernel
theorem d_GT_trail_4 : decode prog_1_method_25_code 4 = .ok (.iload_n 2, 1) := by decide +kernel
theorem d_GT_trail_5 : decode prog_1_method_25_code 5 = .ok (.iconst 0, 1) := by decide +kernel
theorem d_GT_trail_6 : decode prog_1_method_25_code 6 = .ok (.bipush 7, 2) := by decide +kernel
theorem d_GT_trail_8 : decode prog_1_method_25_code 8 = .ok (.invokestatic 65, 3) := by decide +kernel
theorem d_GT_trail_11 : decode prog_1_method_25_code 11 = .ok (.ifCond .ne 6, 3) := by decide +kernel
theorem d_GT_trail_14 : decode prog_1_method_25_code 14 = .ok (.ldc 76, 2) := by decide +kernel
theorem d_GT_trail_16 : decode prog_1_method_25_code 16 = .ok (.ireturn, 1) := by decide +kernel
theorem d_GT_trail_17 : decode prog_1_method_25_code 17 = .ok (.iload_n 1, 1) := by decide +kernel
theorem d_GT_trail_18 : decode prog_1_method_25_code 18 = .ok (.aload_n 0, 1) := by decide +kernel
theorem d_GT_trail_19 : decode prog_1_method_25_code 19 = .ok (.getfield 12, 3) := by decide +kernel
theorem d_GT_trail_22 : decode prog_1_method_25_code 22 = .ok (.getfield 250, 3) := by decide +kernel
theorem d_GT_trail_25 : decode prog_1_method_25_code 25 = .ok (.getfield 254, 3) := by decide +kernel
theorem d_GT_trail_28 : decode prog_1_method_25_code 28 = .ok (.if_icmp .ge 18, 3) := by decide +kernel
theorem d_GT_trail_31 : decode prog_1_method_25_code 31 = .ok (.aload_n 0, 1) := by decide +kernel
theorem d_GT_trail_32 : decode prog_1_method_25_code 32 = .ok (.getfield 12, 3) := by decide +kernel
theorem d_GT_trail_35 : decode prog_1_method_25_code 35 = .ok (.getfield 250, 3) := by decide +kernel
theorem d_GT_trail_38 : decode prog_1_method_25_code 38 = .ok (.iload_n 1, 1) := by decide +kernel
theorem d_GT_trail_39 : decode prog_1_method_25_code 39 = .ok (.iload_n 2, 1) := by decide +kernel
theorem d_GT_trail_40 : decode prog_1_method_25_code 40 = .ok (.invokevirtual 301, 3) := by decide +kernel
theorem d_GT_trail_43 : decode prog_1_method_25_code 43 = .ok (.goto 5, 3) := by decide +kernel
theorem d_GT_trail_46 : decode prog_1_method_25_code 46 = .ok (.ldc 181, 2) := by decide +kernel
theorem d_GT_trail_48 : decode prog_1_method_25_code 48 = .ok (.ireturn, 1) := by decide +kernel
theorem d_Path_partOf_0 : decode prog_5_method_5_code 0 = .ok (.aload_n 0, 1) := by decide +kernel
theorem d_Path_partOf_1 : decode prog_5_method_5_code 1 = .ok (.getfield 19, 3) := by decide +kernel
theorem d_Path_partOf_4 : decode prog_5_method_5_code 4 = .ok (.iload_n 1, 1) := by decide +kernel
theorem d_Path_partOf_5 : decode prog_5_method_5_code 5 = .ok (.isub, 1) := by decide +kernel
theorem d_Path_partOf_6 : decode prog_5_method_5_code 6 = .ok (.bipush 20, 2) := by decide +kernel
theorem d_Path_partOf_8 : decode prog_5_method_5_code 8 = .ok (.invokestatic 34, 3) := by decide +kernel
theorem d_Path_partOf_11 : decode prog_5_method_5_code 11 = .ok (.bipush 8, 2) := by decide +kernel
theorem d_Path_partOf_13 : decode prog_5_method_5_code 13 = .ok (.imul, 1) := by decide +kernel
theorem d_Path_partOf_14 : decode prog_5_method_5_code 14 = .ok (.iload_n 2, 1) := by decide +kernel
theorem d_Path_partOf_15 : decode prog_5_method_5_code 15 = .ok (.iadd, 1) := by decide +kernel
theorem d_Path_partOf_16 : decode prog_5_method_5_code 16 = .ok (.istore_n 3, 1) := by decide +kernel
theorem d_Path_partOf_17 : decode prog_5_method_5_code 17 = .ok (.iload_n 3, 1) := by decide +kernel
theorem d_Path_partOf_18 : decode prog_5_method_5_code 18 = .ok (.ifCond .lt 21, 3) := by decide +kernel
theorem d_Path_partOf_21 : decode prog_5_method_5_code 21 = .ok (.iload_n 3, 1) := by decide +kernel
theorem d_Path_partOf_22 : decode prog_5_method_5_code 22 = .ok (.aload_n 0, 1) := by decide +kernel
theorem d_Path_partOf_23 : decode prog_5_method_5_code 23 = .ok (.getfield 9, 3) := by decide +kernel
theorem d_Path_partOf_26 : decode prog_5_method_5_code 26 = .ok (.arraylength, 1) := by decide +kernel
theorem d_Path_partOf_27 : decode prog_5_method_5_code 27 = .ok (.if_icmp .ge 12, 3) := by decide +kernel
theorem d_Path_partOf_30 : decode prog_5_method_5_code 30 = .ok (.aload_n 0, 1) := by decide +kernel
theorem d_Path_partOf_31 : decode prog_5_method_5_code 31 = .ok (.getfield 9, 3) := by decide +kernel
theorem d_Path_partOf_34 : decode prog_5_method_5_code 34 = .ok (.iload_n 3, 1) := by decide +kernel
theorem d_Path_partOf_35 : decode prog_5_method_5_code 35 = .ok (.iaload, 1) := by decide +kernel
theorem d_Path_partOf_36 : decode prog_5_method_5_code 36 = .ok (.goto 5, 3) := by decide +kernel
theorem d_Path_partOf_39 : decode prog_5_method_5_code 39 = .ok (.ldc 37, 2) := by decide +kernel
theorem d_Path_partOf_41 : decode prog_5_method_5_code 41 = .ok (.ireturn, 1) := by decide +kernel
theorem d_GT_refusal_0 : decode prog_1_method_26_code 0 = .ok (.aload_n 0, 1) := by decide +kernel
theorem d_GT_refusal_1 : decode prog_1_method_26_code 1 = .ok (.iload_n 1, 1) := by decide +kernel
theorem d_GT_refusal_2 : decode prog_1_method_26_code 2 = .ok (.iload_n 2, 1) := by decide +kernel
theorem d_GT_refusal_3 : decode prog_1_method_26_code 3 = .ok (.iload_n 3, 1) := by decide +kernel
theorem d_GT_refusal_4 : decode prog_1_method_26_code 4 = .ok (.iload 4, 2) := by decide +kernel
theorem d_GT_refusal_6 : decode prog_1_method_26_code 6 = .ok (.iload 5, 2) := by decide +kernel
theorem d_GT_refusal_8 : decode prog_1_method_26_code 8 = .ok (.invokevirtual 146, 3) := by decide +kernel
theorem d_GT_refusal_11 : decode prog_1_method_26_code 11 = .ok (.ifCond .ne 6, 3) := by decide +kernel
theorem d_GT_refusal_14 : decode prog_1_method_26_code 14 = .ok (.ldc 76, 2) := by decide +kernel
theorem d_GT_refusal_16 : decode prog_1_method_26_code 16 = .ok (.ireturn, 1) := by decide +kernel
theorem d_GT_refusal_17 : decode prog_1_method_26_code 17 = .ok (.aload_n 0, 1) := by decide +kernel
theorem d_GT_refusal_18 : decode prog_1_method_26_code 18 = .ok (.getfield 12, 3) := by decide +kernel
theorem d_GT_refusal_21 : decode prog_1_method_26_code 21 = .ok (.iload_n 1, 1) := by decide +kernel
theorem d_GT_refusal_22 : decode prog_1_method_26_code 22 = .ok (.iload_n 2, 1) := by decide +kernel
theorem d_GT_refusal_23 : decode prog_1_method_26_code 23 = .ok (.iload_n 3, 1) := by decide +kernel
theorem d_GT_refusal_24 : decode prog_1_method_26_code 24 = .ok (.invokestatic 150, 3) := by decide +kernel
theorem d_GT_refusal_27 : decode prog_1_method_26_code 27 = .ok (.iload 4, 2) := by decide +kernel
theorem d_GT_refusal_29 : decode prog_1_method_26_code 29 = .ok (.iload 5, 2) := by decide +kernel
theorem d_GT_refusal_31 : decode prog_1_method_26_code 31 = .ok (.invokevirtual 154, 3) := by decide +kernel
theorem d_GT_refusal_34 : decode prog_1_method_26_code 34 = .ok (.ireturn, 1) := by decide +kernel
theorem d_GT_effect_0 : decode prog_1_method_27_code 0 = .ok (.iload_n 1, 1) := by decide +kernel
theorem d_GT_effect_1 : decode prog_1_method_27_code 1 = .ok (.invokestatic 194, 3) := by decide +kernel
theorem d_GT_effect_4 : decode prog_1_method_27_code 4 = .ok (.ifCond .eq 10, 3) := by decide +kernel
theorem d_GT_effect_7 : decode prog_1_method_27_code 7 = .ok (.iload_n 2, 1) := by decide +kernel
theorem d_GT_effect_8 : decode prog_1_method_27_code 8 = .ok (.invokestatic 194, 3) := by decide +kernel
theorem d_GT_effect_11 : decode prog_1_method_27_code 11 = .ok (.ifCond .ne 6, 3) := by decide +kernel
theorem d_GT_effect_14 : decode prog_1_method_27_code 14 = .ok (.ldc 76, 2) := by decide +kernel
theorem d_GT_effect_16 : decode prog_1_method_27_code 16 = .ok (.ireturn, 1) := by decide +kernel
theorem d_GT_effect_17 : decode prog_1_method_27_code 17 = .ok (.aload_n 0, 1) := by decide +kernel
theorem d_GT_effect_18 : decode prog_1_method_27_code 18 = .ok (.getfield 12, 3) := by decide +kernel
theorem d_GT_effect_21 : decode prog_1_method_27_code 21 = .ok (.iload_n 1, 1) := by decide +kernel
theorem d_GT_effect_22 : decode prog_1_method_27_code 22 = .ok (.iload_n 2, 1) := by decide +kernel
theorem d_GT_effect_23 : decode prog_1_method_27_code 23 = .ok (.invokevirtual 304, 3) := by decide +kernel
theorem d_GT_effect_26 : decode prog_1_method_27_code 26 = .ok (.ifCond .eq 5, 3) := by decide +kernel
theorem d_GT_effect_29 : decode prog_1_method_27_code 29 = .ok (.iconst 0, 1) := by decide +kernel
theorem d_GT_effect_30 : decode prog_1_method_27_code 30 = .ok (.ireturn, 1) := by decide +kernel
theorem d_GT_effect_31 : decode prog_1_method_27_code 31 = .ok (.aload_n 0, 1) := by decide +kernel
theorem d_GT_effect_32 : decode prog_1_method_27_code 32 = .ok (.getfield 12, 3) := by decide +kernel
theorem d_GT_effect_35 : decode prog_1_method_27_code 35 = .ok (.getfield 77, 3) := by decide +kernel
theorem d_GT_effect_38 : decode prog_1_method_27_code 38 = .ok (.getfield 167, 3) := by decide +kernel
theorem d_GT_effect_41 : decode prog_1_method_27_code 41 = .ok (.aload_n 0, 1) := by decide +kernel
theorem d_GT_effect_42 : decode prog_1_method_27_code 42 = .ok (.getfield 12, 3) := by decide +kernel
theorem d_GT_effect_45 : decode prog_1_method_27_code 45 = .ok (.getfield 207, 3) := by decide +kernel
theorem d_GT_effect_48 : decode prog_1_method_27_code 48 = .ok (.iconst 0, 1) := by decide +kernel
theorem d_GT_effect_49 : decode prog_1_method_27_code 49 = .ok (.iaload, 1) := by decide +kernel
theorem d_GT_effect_50 : decode prog_1_method_27_code 50 = .ok (.iload_n 1, 1) := by decide +kernel
theorem d_GT_effect_51 : decode prog_1_method_27_code 51 = .ok (.invokevirtual 307, 3) := by decide +kernel
theorem d_GT_effect_54 : decode prog_1_method_27_code 54 = .ok (.istore_n 3, 1) := by decide +kernel
theorem d_GT_effect_55 : decode prog_1_method_27_code 55 = .ok (.aload_n 0, 1) := by decide +kernel
theorem d_GT_effect_56 : decode prog_1_method_27_code 56 = .ok (.getfield 12, 3) := by decide +kernel
theorem d_GT_effect_59 : decode prog_1_method_27_code 59 = .ok (.getfield 77, 3) := by decide +kernel
theorem d_GT_effect_62 : decode prog_1_method_27_code 62 = .ok (.getfield 170, 3) := by decide +kernel
theorem d_GT_effect_65 : decode prog_1_method_27_code 65 = .ok (.aload_n 0, 1) := by decide +kernel
theorem d_GT_effect_66 : decode prog_1_method_27_code 66 = .ok (.getfield 12, 3) := by decide +kernel
theorem d_GT_effect_69 : decode prog_1_method_27_code 69 = .ok (.getfield 207, 3) := by decide +kernel
theorem d_GT_effect_72 : decode prog_1_method_27_code 72 = .ok (.iconst 1, 1) := by decide +kernel
theorem d_GT_effect_73 : decode prog_1_method_27_code 73 = .ok (.iaload, 1) := by decide +kernel
theorem d_GT_effect_74 : decode prog_1_method_27_code 74 = .ok (.iload_n 2, 1) := by decide +kernel
theorem d_GT_effect_75 : decode prog_1_method_27_code 75 = .ok (.invokevirtual 307, 3) := by decide +kernel
theorem d_GT_effect_78 : decode prog_1_method_27_code 78 = .ok (.istore 4, 2) := by decide +kernel
theorem d_GT_effect_80 : decode prog_1_method_27_code 80 = .ok (.aload_n 0, 1) := by decide +kernel
theorem d_GT_effect_81 : decode prog_1_method_27_code 81 = .ok (.invokevirtual 266, 3) := by decide +kernel
theorem d_GT_effect_84 : decode prog_1_method_27_code 84 = .ok (.aload_n 0, 1) := by decide +kernel
theorem d_GT_effect_85 : decode prog_1_method_27_code 85 = .ok (.aload_n 0, 1) := by decide +kernel
theorem d_GT_effect_86 : decode prog_1_method_27_code 86 = .ok (.getfield 54, 3) := by decide +kernel
theorem d_GT_effect_89 : decode prog_1_method_27_code 89 = .ok (.invokevirtual 310, 3) := by decide +kernel
theorem d_GT_effect_92 : decode prog_1_method_27_code 92 = .ok (.aload_n 0, 1) := by decide +kernel
theorem d_GT_effect_93 : decode prog_1_method_27_code 93 = .ok (.getfield 47, 3) := by decide +kernel
theorem d_GT_effect_96 : decode prog_1_method_27_code 96 = .ok (.aload_n 0, 1) := by decide +kernel
theorem d_GT_effect_97 : decode prog_1_method_27_code 97 = .ok (.getfield 12, 3) := by decide +kernel
theorem d_GT_effect_100 : decode prog_1_method_27_code 100 = .ok (.getfield 77, 3) := by decide +kernel
theorem d_GT_effect_103 : decode prog_1_method_27_code 103 = .ok (.getfield 167, 3) := by decide +kernel
theorem d_GT_effect_106 : decode prog_1_method_27_code 106 = .ok (.iload_n 3, 1) := by decide +kernel
theorem d_GT_effect_107 : decode prog_1_method_27_code 107 = .ok (.iload_n 1, 1) := by decide +kernel
theorem d_GT_effect_108 : decode prog_1_method_27_code 108 = .ok (.invokevirtual 314, 3) := by decide +kernel
theorem d_GT_effect_111 : decode prog_1_method_27_code 111 = .ok (.aload_n 0, 1) := by decide +kernel
theorem d_GT_effect_112 : decode prog_1_method_27_code 112 = .ok (.getfield 51, 3) := by decide +kernel
theorem d_GT_effect_115 : decode prog_1_method_27_code 115 = .ok (.aload_n 0, 1) := by decide +kernel
theorem d_GT_effect_116 : decode prog_1_method_27_code 116 = .ok (.getfield 12, 3) := by decide +kernel
theorem d_GT_effect_119 : decode prog_1_method_27_code 119 = .ok (.getfield 77, 3) := by decide +kernel
theorem d_GT_effect_122 : decode prog_1_method_27_code 122 = .ok (.getfield 170, 3) := by decide +kernel
theorem d_GT_effect_125 : decode prog_1_method_27_code 125 = .ok (.iload 4, 2) := by decide +kernel
theorem d_GT_effect_127 : decode prog_1_method_27_code 127 = .ok (.iload_n 2, 1) := by decide +kernel
theorem d_GT_effect_128 : decode prog_1_method_27_code 128 = .ok (.invokevirtual 314, 3) := by decide +kernel
theorem d_GT_effect_131 : decode prog_1_method_27_code 131 = .ok (.aload_n 0, 1) := by decide +kernel
theorem d_GT_effect_132 : decode prog_1_method_27_code 132 = .ok (.aload_n 0, 1) := by decide +kernel
theorem d_GT_effect_133 : decode prog_1_method_27_code 133 = .ok (.getfield 58, 3) := by decide +kernel
theorem d_GT_effect_136 : decode prog_1_method_27_code 136 = .ok (.invokevirtual 310, 3) := by decide +kernel
theorem d_GT_effect_139 : decode prog_1_method_27_code 139 = .ok (.iconst 1, 1) := by decide +kernel
theorem d_GT_effect_140 : decode prog_1_method_27_code 140 = .ok (.iload_n 3, 1) := by decide +kernel
theorem d_GT_effect_141 : decode prog_1_method_27_code 141 = .ok (.aload_n 0, 1) := by decide +kernel
theorem d_GT_effect_142 : decode prog_1_method_27_code 142 = .ok (.getfield 12, 3) := by decide +kernel
theorem d_GT_effect_145 : decode prog_1_method_27_code 145 = .ok (.getfield 207, 3) := by decide +kernel
theorem d_GT_effect_148 : decode prog_1_method_27_code 148 = .ok (.iconst 0, 1) := by decide +kernel
theorem d_GT_effect_149 : decode prog_1_method_27_code 149 = .ok (.iaload, 1) := by decide +kernel
theorem d_GT_effect_150 : decode prog_1_method_27_code 150 = .ok (.if_icmp .eq 7, 3) := by decide +kernel
theorem d_GT_effect_153 : decode prog_1_method_27_code 153 = .ok (.iconst 2, 1) := by decide +kernel
theorem d_GT_effect_154 : decode prog_1_method_27_code 154 = .ok (.goto 4, 3) := by decide +kernel
theorem d_GT_effect_157 : decode prog_1_method_27_code 157 = .ok (.iconst 0, 1) := by decide +kernel
theorem d_GT_effect_158 : decode prog_1_method_27_code 158 = .ok (.iadd, 1) := by decide +kernel
theorem d_GT_effect_159 : decode prog_1_method_27_code 159 = .ok (.iload 4, 2) := by decide +kernel
theorem d_GT_effect_161 : decode prog_1_method_27_code 161 = .ok (.aload_n 0, 1) := by decide +kernel
theorem d_GT_effect_162 : decode prog_1_method_27_code 162 = .ok (.getfield 12, 3) := by decide +kernel
theorem d_GT_effect_165 : decode prog_1_method_27_code 165 = .ok (.getfield 207, 3) := by decide +kernel
theorem d_GT_effect_168 : decode prog_1_method_27_code 168 = .ok (.iconst 1, 1) := by decide +kernel
theorem d_GT_effect_169 : decode prog_1_method_27_code 169 = .ok (.iaload, 1) := by decide +kernel
theorem d_GT_effect_170 : decode prog_1_method_27_code 170 = .ok (.if_icmp .eq 7, 3) := by decide +kernel
theorem d_GT_effect_173 : decode prog_1_method_27_code 173 = .ok (.iconst 4, 1) := by decide +kernel
theorem d_GT_effect_174 : decode prog_1_method_27_code 174 = .ok (.goto 4, 3) := by decide +kernel
theorem d_GT_effect_177 : decode prog_1_method_27_code 177 = .ok (.iconst 0, 1) := by decide +kernel
theorem d_GT_effect_178 : decode prog_1_method_27_code 178 = .ok (.iadd, 1) := by decide +kernel
theorem d_GT_effect_179 : decode prog_1_method_27_code 179 = .ok (.aload_n 0, 1) := by decide +kernel
theorem d_GT_effect_180 : decode prog_1_method_27_code 180 = .ok (.invokevirtual 318, 3) := by decide +kernel
theorem d_GT_effect_183 : decode prog_1_method_27_code 183 = .ok (.ifCond .eq 8, 3) := by decide +kernel
theorem d_GT_effect_186 : decode prog_1_method_27_code 186 = .ok (.bipush 8, 2) := by decide +kernel
theorem d_GT_effect_188 : decode prog_1_method_27_code 188 = .ok (.goto 4, 3) := by decide +kernel
theorem d_GT_effect_191 : decode prog_1_method_27_code 191 = .ok (.iconst 0, 1) := by decide +kernel
theorem d_GT_effect_192 : decode prog_1_method_27_code 192 = .ok (.iadd, 1) := by decide +kernel
theorem d_GT_effect_193 : decode prog_1_method_27_code 193 = .ok (.ireturn, 1) := by decide +kernel
theorem d_GT_valueAt_0 : decode prog_1_method_28_code 0 = .ok (.iload_n 1, 1) := by decide +kernel
theorem d_GT_valueAt_1 : decode prog_1_method_28_code 1 = .ok (.invokestatic 194, 3) := by decide +kernel
theorem d_GT_valueAt_4 : decode prog_1_method_28_code 4 = .ok (.ifCond .eq 17, 3) := by decide +kernel
theorem d_GT_valueAt_7 : decode prog_1_method_28_code 7 = .ok (.iload_n 2, 1) := by decide +kernel
theorem d_GT_valueAt_8 : decode prog_1_method_28_code 8 = .ok (.invokestatic 194, 3) := by decide +kernel
theorem d_GT_valueAt_11 : decode prog_1_method_28_code 11 = .ok (.ifCond .eq 10, 3) := by decide +kernel
theorem d_GT_valueAt_14 : decode prog_1_method_28_code 14 = .ok (.iload_n 3, 1) := by decide +kernel
theorem d_GT_valueAt_15 : decode prog_1_method_28_code 15 = .ok (.invokestatic 164, 3) := by decide +kernel
theorem d_GT_valueAt_18 : decode prog_1_method_28_code 18 = .ok (.ifCond .ne 6, 3) := by decide +kernel
theorem d_GT_valueAt_21 : decode prog_1_method_28_code 21 = .ok (.ldc 76, 2) := by decide +kernel
theorem d_GT_valueAt_23 : decode prog_1_method_28_code 23 = .ok (.ireturn, 1) := by decide +kernel
theorem d_GT_valueAt_24 : decode prog_1_method_28_code 24 = .ok (.aload_n 0, 1) := by decide +kernel
theorem d_GT_valueAt_25 : decode prog_1_method_28_code 25 = .ok (.getfield 47, 3) := by decide +kernel
theorem d_GT_valueAt_28 : decode prog_1_method_28_code 28 = .ok (.aload_n 0, 1) := by decide +kernel
theorem d_GT_valueAt_29 : decode prog_1_method_28_code 29 = .ok (.getfield 12, 3) := by decide +kernel
theorem d_GT_valueAt_32 : decode prog_1_method_28_code 32 = .ok (.getfield 77, 3) := by decide +kernel
theorem d_GT_valueAt_35 : decode prog_1_method_28_code 35 = .ok (.getfield 167, 3) := by decide +kernel
theorem d_GT_valueAt_38 : decode prog_1_method_28_code 38 = .ok (.iload_n 1, 1) := by decide +kernel
theorem d_GT_valueAt_39 : decode prog_1_method_28_code 39 = .ok (.invokevirtual 321, 3) := by decide +kernel
theorem d_GT_valueAt_42 : decode prog_1_method_28_code 42 = .ok (.aload_n 0, 1) := by decide +kernel
theorem d_GT_valueAt_43 : decode prog_1_method_28_code 43 = .ok (.getfield 51, 3) := by decide +kernel
theorem d_GT_valueAt_46 : decode prog_1_method_28_code 46 = .ok (.aload_n 0, 1) := by decide +kernel
theorem d_GT_valueAt_47 : decode prog_1_method_28_code 47 = .ok (.getfield 12, 3) := by decide +kernel
theorem d_GT_valueAt_50 : decode prog_1_method_28_code 50 = .ok (.getfield 77, 3) := by decide +kernel
theorem d_GT_valueAt_53 : decode prog_1_method_28_code 53 = .ok (.getfield 170, 3) := by decide +kernel
theorem d_GT_valueAt_56 : decode prog_1_method_28_code 56 = .ok (.iload_n 2, 1) := by decide +kernel
theorem d_GT_valueAt_57 : decode prog_1_method_28_code 57 = .ok (.invokevirtual 321, 3) := by decide +kernel
theorem d_GT_valueAt_60 : decode prog_1_method_28_code 60 = .ok (.aload_n 0, 1) := by decide +kernel
theorem d_GT_valueAt_61 : decode prog_1_method_28_code 61 = .ok (.iload_n 3, 1) := by decide +kernel
theorem d_GT_valueAt_62 : decode prog_1_method_28_code 62 = .ok (.invokevirtual 295, 3) := by decide +kernel
theorem d_GT_valueAt_65 : decode prog_1_method_28_code 65 = .ok (.ireturn, 1) := by decide +kernel
theorem d_Blend_findByPosition_0 : decode prog_2_method_3_code 0 = .ok (.aload_n 0, 1) := by decide +kernel
theorem d_Blend_findByPosition_1 : decode prog_2_method_3_code 1 = .ok (.aload_n 1, 1) := by decide +kernel
theorem d_Blend_findByPosition_2 : decode prog_2_method_3_code 2 = .ok (.aload_n 1, 1) := by decide +kernel
theorem d_Blend_findByPosition_3 : decode prog_2_method_3_code 3 = .ok (.iload_n 2, 1) := by decide +kernel
theorem d_Blend_findByPosition_4 : decode prog_2_method_3_code 4 = .ok (.invokevirtual 43, 3) := by decide +kernel
theorem d_Blend_findByPosition_7 : decode prog_2_method_3_code 7 = .ok (.iload_n 2, 1) := by decide +kernel
theorem d_Blend_findByPosition_8 : decode prog_2_method_3_code 8 = .ok (.invokevirtual 46, 3) := by decide +kernel
theorem d_Blend_findByPosition_11 : decode prog_2_method_3_code 11 = .ok (.return_, 1) := by decide +kernel
theorem d_GT_chatter_0 : decode prog_1_method_29_code 0 = .ok (.iload_n 1, 1) := by decide +kernel
theorem d_GT_chatter_1 : decode prog_1_method_29_code 1 = .ok (.invokestatic 61, 3) := by decide +kernel
theorem d_GT_chatter_4 : decode prog_1_method_29_code 4 = .ok (.ifCond .eq 29, 3) := by decide +kernel
theorem d_GT_chatter_7 : decode prog_1_method_29_code 7 = .ok (.iload_n 2, 1) := by decide +kernel
theorem d_GT_chatter_8 : decode prog_1_method_29_code 8 = .ok (.invokestatic 194, 3) := by decide +kernel
theorem d_GT_chatter_11 : decode prog_1_method_29_code 11 = .ok (.ifCond .eq 22, 3) := by decide +kernel
theorem d_GT_chatter_14 : decode prog_1_method_29_code 14 = .ok (.iload_n 2, 1) := by decide +kernel
theorem d_GT_chatter_15 : decode prog_1_method_29_code 15 = .ok (.iload_n 3, 1) := by decide +kernel
theorem d_GT_chatter_16 : decode prog_1_method_29_code 16 = .ok (.invokestatic 325, 3) := by decide +kernel
theorem d_GT_chatter_19 : decode prog_1_method_29_code 19 = .ok (.ifCond .eq 14, 3) := by decide +kernel
theorem d_GT_chatter_22 : decode prog_1_method_29_code 22 = .ok (.iload 4, 2) := by decide +kernel
theorem d_GT_chatter_24 : decode prog_1_method_29_code 24 = .ok (.iconst 1, 1) := by decide +kernel
theorem d_GT_chatter_25 : decode prog_1_method_29_code 25 = .ok (.bipush 100, 2) := by decide +kernel
theorem d_GT_chatter_27 : decode prog_1_method_29_code 27 = .ok (.invokestatic 65, 3) := by decide +kernel
theorem d_GT_chatter_30 : decode prog_1_method_29_code 30 = .ok (.ifCond .ne 6, 3) := by decide +kernel
theorem d_GT_chatter_33 : decode prog_1_method_29_code 33 = .ok (.ldc 76, 2) := by decide +kernel
theorem d_GT_chatter_35 : decode prog_1_method_29_code 35 = .ok (.ireturn, 1) := by decide +kernel
theorem d_GT_chatter_36 : decode prog_1_method_29_code 36 = .ok (.aload_n 0, 1) := by decide +kernel
theorem d_GT_chatter_37 : decode prog_1_method_29_code 37 = .ok (.getfield 12, 3) := by decide +kernel
theorem d_GT_chatter_40 : decode prog_1_method_29_code 40 = .ok (.getfield 77, 3) := by decide +kernel
theorem d_GT_chatter_43 : decode prog_1_method_29_code 43 = .ok (.iload_n 1, 1) := by decide +kernel
theorem d_GT_chatter_44 : decode prog_1_method_29_code 44 = .ok (.invokevirtual 80, 3) := by decide +kernel
theorem d_GT_chatter_47 : decode prog_1_method_29_code 47 = .ok (.astore 5, 2) := by decide +kernel
theorem d_GT_chatter_49 : decode prog_1_method_29_code 49 = .ok (.aload 5, 2) := by decide +kernel
theorem d_GT_chatter_51 : decode prog_1_method_29_code 51 = .ok (.aload_n 0, 1) := by decide +kernel
theorem d_GT_chatter_52 : decode prog_1_method_29_code 52 = .ok (.getfield 12, 3) := by decide +kernel
theorem d_GT_chatter_55 : decode prog_1_method_29_code 55 = .ok (.getfield 207, 3) := by decide +kernel
theorem d_GT_chatter_58 : decode prog_1_method_29_code 58 = .ok (.iload_n 1, 1) := by decide +kernel
theorem d_GT_chatter_59 : decode prog_1_method_29_code 59 = .ok (.iaload, 1) := by decide +kernel
theorem d_GT_chatter_60 : decode prog_1_method_29_code 60 = .ok (.iload_n 2, 1) := by decide +kernel
theorem d_GT_chatter_61 : decode prog_1_method_29_code 61 = .ok (.iload_n 3, 1) := by decide +kernel
theorem d_GT_chatter_62 : decode prog_1_method_29_code 62 = .ok (.iload 4, 2) := by decide +kernel
theorem d_GT_chatter_64 : decode prog_1_method_29_code 64 = .ok (.invokevirtual 328, 3) := by decide +kernel
theorem d_GT_chatter_67 : decode prog_1_method_29_code 67 = .ok (.ireturn, 1) := by decide +kernel
theorem d_GT_isSwing_0 : decode prog_1_method_39_code 0 = .ok (.iload_n 1, 1) := by decide +kernel
theorem d_GT_isSwing_1 : decode prog_1_method_39_code 1 = .ok (.iconst 0, 1) := by decide +kernel
theorem d_GT_isSwing_2 : decode prog_1_method_39_code 2 = .ok (.sipush 500, 3) := by decide +kernel
theorem d_GT_isSwing_5 : decode prog_1_method_39_code 5 = .ok (.invokestatic 65, 3) := by decide +kernel
theorem d_GT_isSwing_8 : decode prog_1_method_39_code 8 = .ok (.ifCond .eq 25, 3) := by decide +kernel
theorem d_GT_isSwing_11 : decode prog_1_method_39_code 11 = .ok (.iload_n 0, 1) := by decide +kernel
theorem d_GT_isSwing_12 : decode prog_1_method_39_code 12 = .ok (.iload_n 1, 1) := by decide +kernel
theorem d_GT_isSwing_13 : decode prog_1_method_39_code 13 = .ok (.isub, 1) := by decide +kernel
theorem d_GT_isSwing_14 : decode prog_1_method_39_code 14 = .ok (.invokestatic 194, 3) := by decide +kernel
theorem d_GT_isSwing_17 : decode prog_1_method_39_code 17 = .ok (.ifCond .eq 16, 3) := by decide +kernel
theorem d_GT_isSwing_20 : decode prog_1_method_39_code 20 = .ok (.iload_n 0, 1) := by decide +kernel
theorem d_GT_isSwing_21 : decode prog_1_method_39_code 21 = .ok (.iload_n 1, 1) := by decide +kernel
theorem d_GT_isSwing_22 : decode prog_1_method_39_code 22 = .ok (.iadd, 1) := by decide +kernel
theorem d_GT_isSwing_23 : decode prog_1_method_39_code 23 = .ok (.invokestatic 194, 3) := by decide +kernel
theorem d_GT_isSwing_26 : decode prog_1_method_39_code 26 = .ok (.ifCond .eq 7, 3) := by decide +kernel
theorem d_GT_isSwing_29 : decode prog_1_method_39_code 29 = .ok (.iconst 1, 1) := by decide +kernel
theorem d_GT_isSwing_30 : decode prog_1_method_39_code 30 = .ok (.goto 4, 3) := by decide +kernel
theorem d_GT_isSwing_33 : decode prog_1_method_39_code 33 = .ok (.iconst 0, 1) := by decide +kernel
theorem d_GT_isSwing_34 : decode prog_1_method_39_code 34 = .ok (.ireturn, 1) := by decide +kernel
theorem d_Borders_zoneChanges_0 : decode prog_3_method_17_code 0 = .ok (.iconst 0, 1) := by decide +kernel
theorem d_Borders_zoneChanges_1 : decode prog_3_method_17_code 1 = .ok (.istore 5, 2) := by decide +kernel
theorem d_Borders_zoneChanges_3 : decode prog_3_method_17_code 3 = .ok (.iload_n 1, 1) := by decide +kernel
theorem d_Borders_zoneChanges_4 : decode prog_3_method_17_code 4 = .ok (.istore 6, 2) := by decide +kernel
theorem d_Borders_zoneChanges_6 : decode prog_3_method_17_code 6 = .ok (.iconst 0, 1) := by decide +kernel
theorem d_Borders_zoneChanges_7 : decode prog_3_method_17_code 7 = .ok (.istore 7, 2) := by decide +kernel
theorem d_Borders_zoneChanges_9 : decode prog_3_method_17_code 9 = .ok (.iload 7, 2) := by decide +kernel
theorem d_Borders_zoneChanges_11 : decode prog_3_method_17_code 11 = .ok (.iload 4, 2) := by decide +kernel
theorem d_Borders_zoneChanges_13 : decode prog_3_method_17_code 13 = .ok (.if_icmp .ge 51, 3) := by decide +kernel
theorem d_Borders_zoneChanges_16 : decode prog_3_method_17_code 16 = .ok (.iload 7, 2) := by decide +kernel
theorem d_Borders_zoneChanges_18 : decode prog_3_method_17_code 18 = .ok (.iconst 2, 1) := by decide +kernel
theorem d_Borders_zoneChanges_19 : decode prog_3_method_17_code 19 = .ok (.irem, 1) := by decide +kernel
theorem d_Borders_zoneChanges_20 : decode prog_3_method_17_code 20 = .ok (.ifCond .ne 9, 3) := by decide +kernel
theorem d_Borders_zoneChanges_23 : decode prog_3_method_17_code 23 = .ok (.iload_n 2, 1) := by decide +kernel
theorem d_Borders_zoneChanges_24 : decode prog_3_method_17_code 24 = .ok (.iload_n 3, 1) := by decide +kernel
theorem d_Borders_zoneChanges_25 : decode prog_3_method_17_code 25 = .ok (.iadd, 1) := by decide +kernel
theorem d_Borders_zoneChanges_26 : decode prog_3_method_17_code 26 = .ok (.goto 6, 3) := by decide +kernel
theorem d_Borders_zoneChanges_29 : decode prog_3_method_17_code 29 = .ok (.iload_n 2, 1) := by decide +kernel
theorem d_Borders_zoneChanges_30 : decode prog_3_method_17_code 30 = .ok (.iload_n 3, 1) := by decide +kernel
theorem d_Borders_zoneChanges_31 : decode prog_3_method_17_code 31 = .ok (.isub, 1) := by decide +kernel
theorem d_Borders_zoneChanges_32 : decode prog_3_method_17_code 32 = .ok (.istore 8, 2) := by decide +kernel
theorem d_Borders_zoneChanges_34 : decode prog_3_method_17_code 34 = .ok (.aload_n 0, 1) := by decide +kernel
theorem d_Borders_zoneChanges_35 : decode prog_3_method_17_code 35 = .ok (.iload 6, 2) := by decide +kernel
theorem d_Borders_zoneChanges_37 : decode prog_3_method_17_code 37 = .ok (.iload 8, 2) := by decide +kernel
theorem d_Borders_zoneChanges_39 : decode prog_3_method_17_code 39 = .ok (.invokevirtual 48, 3) := by decide +kernel
theorem d_Borders_zoneChanges_42 : decode prog_3_method_17_code 42 = .ok (.istore 9, 2) := by decide +kernel
theorem d_Borders_zoneChanges_44 : decode prog_3_method_17_code 44 = .ok (.iload 9, 2) := by decide +kernel
theorem d_Borders_zoneChanges_46 : decode prog_3_method_17_code 46 = .ok (.iload 6, 2) := by decide +kernel
theorem d_Borders_zoneChanges_48 : decode prog_3_method_17_code 48 = .ok (.if_icmp .eq 6, 3) := by decide +kernel
theorem d_Borders_zoneChanges_51 : decode prog_3_method_17_code 51 = .ok (.iinc 5 1, 3) := by decide +kernel
theorem d_Borders_zoneChanges_54 : decode prog_3_method_17_code 54 = .ok (.iload 9, 2) := by decide +kernel
theorem d_Borders_zoneChanges_56 : decode prog_3_method_17_code 56 = .ok (.istore 6, 2) := by decide +kernel
theorem d_Borders_zoneChanges_58 : decode prog_3_method_17_code 58 = .ok (.iinc 7 1, 3) := by decide +kernel
theorem d_Borders_zoneChanges_61 : decode prog_3_method_17_code 61 = .ok (.goto (-52), 3) := by decide +kernel
theorem d_Borders_zoneChanges_64 : decode prog_3_method_17_code 64 = .ok (.iload 5, 2) := by decide +kernel
theorem d_Borders_zoneChanges_66 : decode prog_3_method_17_code 66 = .ok (.ireturn, 1) := by decide +kernel
theorem d_GT_calmReach_0 : decode prog_1_method_30_code 0 = .ok (.aload_n 0, 1) := by decide +kernel
theorem d_GT_calmReach_1 : decode prog_1_method_30_code 1 = .ok (.iload_n 1, 1) := by decide +kernel
theorem d_GT_calmReach_2 : decode prog_1_method_30_code 2 = .ok (.iload_n 2, 1) := by decide +kernel
theorem d_GT_calmReach_3 : decode prog_1_method_30_code 3 = .ok (.invokevirtual 109, 3) := by decide +kernel
theorem d_GT_calmReach_6 : decode prog_1_method_30_code 6 = .ok (.ifCond .ne 6, 3) := by decide +kernel
theorem d_GT_calmReach_9 : decode prog_1_method_30_code 9 = .ok (.ldc 76, 2) := by decide +kernel
theorem d_GT_calmReach_11 : decode prog_1_method_30_code 11 = .ok (.ireturn, 1) := by decide +kernel
theorem d_GT_calmReach_12 : decode prog_1_method_30_code 12 = .ok (.aload_n 0, 1) := by decide +kernel
theorem d_GT_calmReach_13 : decode prog_1_method_30_code 13 = .ok (.getfield 12, 3) := by decide +kernel
theorem d_GT_calmReach_16 : decode prog_1_method_30_code 16 = .ok (.getfield 77, 3) := by decide +kernel
theorem d_GT_calmReach_19 : decode prog_1_method_30_code 19 = .ok (.iload_n 1, 1) := by decide +kernel
theorem d_GT_calmReach_20 : decode prog_1_method_30_code 20 = .ok (.invokevirtual 80, 3) := by decide +kernel
theorem d_GT_calmReach_23 : decode prog_1_method_30_code 23 = .ok (.astore 4, 2) := by decide +kernel
theorem d_GT_calmReach_25 : decode prog_1_method_30_code 25 = .ok (.aload 4, 2) := by decide +kernel
theorem d_GT_calmReach_27 : decode prog_1_method_30_code 27 = .ok (.iload_n 2, 1) := by decide +kernel
theorem d_GT_calmReach_28 : decode prog_1_method_30_code 28 = .ok (.invokevirtual 120, 3) := by decide +kernel
theorem d_GT_calmReach_31 : decode prog_1_method_30_code 31 = .ok (.istore 5, 2) := by decide +kernel
theorem d_GT_calmReach_33 : decode prog_1_method_30_code 33 = .ok (.iload 5, 2) := by decide +kernel
theorem d_GT_calmReach_35 : decode prog_1_method_30_code 35 = .ok (.iload_n 3, 1) := by decide +kernel
theorem d_GT_calmReach_36 : decode prog_1_method_30_code 36 = .ok (.invokestatic 325, 3) := by decide +kernel
theorem d_GT_calmReach_39 : decode prog_1_method_30_code 39 = .ok (.ifCond .ne 6, 3) := by decide +kernel
theorem d_GT_calmReach_42 : decode prog_1_method_30_code 42 = .ok (.ldc 76, 2) := by decide +kernel
theorem d_GT_calmReach_44 : decode prog_1_method_30_code 44 = .ok (.ireturn, 1) := by decide +kernel
theorem d_GT_calmReach_45 : decode prog_1_method_30_code 45 = .ok (.aload 4, 2) := by decide +kernel
theorem d_GT_calmReach_47 : decode prog_1_method_30_code 47 = .ok (.iload_n 2, 1) := by decide +kernel
theorem d_GT_calmReach_48 : decode prog_1_method_30_code 48 = .ok (.invokevirtual 124, 3) := by decide +kernel
theorem d_GT_calmReach_51 : decode prog_1_method_30_code 51 = .ok (.ifCond .eq 6, 3) := by decide +kernel
theorem d_GT_calmReach_54 : decode prog_1_method_30_code 54 = .ok (.ldc 87, 2) := by decide +kernel
theorem d_GT_calmReach_56 : decode prog_1_method_30_code 56 = .ok (.ireturn, 1) := by decide +kernel
theorem d_GT_calmReach_57 : decode prog_1_method_30_code 57 = .ok (.aload_n 0, 1) := by decide +kernel
theorem d_GT_calmReach_58 : decode prog_1_method_30_code 58 = .ok (.getfield 40, 3) := by decide +kernel
theorem d_GT_calmReach_61 : decode prog_1_method_30_code 61 = .ok (.aload 4, 2) := by decide +kernel
theorem d_GT_calmReach_63 : decode prog_1_method_30_code 63 = .ok (.invokevirtual 331, 3) := by decide +kernel
theorem d_GT_calmReach_66 : decode prog_1_method_30_code 66 = .ok (.aload_n 0, 1) := by decide +kernel
theorem d_GT_calmReach_67 : decode prog_1_method_30_code 67 = .ok (.getfield 40, 3) := by decide +kernel
theorem d_GT_calmReach_70 : decode prog_1_method_30_code 70 = .ok (.aload_n 0, 1) := by decide +kernel
theorem d_GT_calmReach_71 : decode prog_1_method_30_code 71 = .ok (.getfield 12, 3) := by decide +kernel
theorem d_GT_calmReach_74 : decode prog_1_method_30_code 74 = .ok (.getfield 200, 3) := by decide +kernel
theorem d_GT_calmReach_77 : decode prog_1_method_30_code 77 = .ok (.iload_n 1, 1) := by decide +kernel
theorem d_GT_calmReach_78 : decode prog_1_method_30_code 78 = .ok (.iaload, 1) := by decide +kernel
theorem d_GT_calmReach_79 : decode prog_1_method_30_code 79 = .ok (.invokevirtual 334, 3) := by decide +kernel
theorem d_GT_calmReach_82 : decode prog_1_method_30_code 82 = .ok (.istore 6, 2) := by decide +kernel
theorem d_GT_calmReach_84 : decode prog_1_method_30_code 84 = .ok (.iconst 0, 1) := by decide +kernel
theorem d_GT_calmReach_85 : decode prog_1_method_30_code 85 = .ok (.istore 7, 2) := by decide +kernel
theorem d_GT_calmReach_87 : decode prog_1_method_30_code 87 = .ok (.iload 7, 2) := by decide +kernel
theorem d_GT_calmReach_89 : decode prog_1_method_30_code 89 = .ok (.bipush 100, 2) := by decide +kernel
theorem d_GT_calmReach_91 : decode prog_1_method_30_code 91 = .ok (.if_icmp .gt 65, 3) := by decide +kernel
theorem d_GT_calmReach_94 : decode prog_1_method_30_code 94 = .ok (.iload 5, 2) := by decide +kernel
theorem d_GT_calmReach_96 : decode prog_1_method_30_code 96 = .ok (.iload 7, 2) := by decide +kernel
theorem d_GT_calmReach_98 : decode prog_1_method_30_code 98 = .ok (.invokestatic 73, 3) := by decide +kernel
theorem d_GT_calmReach_101 : decode prog_1_method_30_code 101 = .ok (.ifCond .eq 49, 3) := by decide +kernel
theorem d_GT_calmReach_104 : decode prog_1_method_30_code 104 = .ok (.aload_n 0, 1) := by decide +kernel
theorem d_GT_calmReach_105 : decode prog_1_method_30_code 105 = .ok (.getfield 40, 3) := by decide +kernel
theorem d_GT_calmReach_108 : decode prog_1_method_30_code 108 = .ok (.iload 5, 2) := by decide +kernel
theorem d_GT_calmReach_110 : decode prog_1_method_30_code 110 = .ok (.iload 7, 2) := by decide +kernel
theorem d_GT_calmReach_112 : decode prog_1_method_30_code 112 = .ok (.iload_n 2, 1) := by decide +kernel
theorem d_GT_calmReach_113 : decode prog_1_method_30_code 113 = .ok (.invokevirtual 84, 3) := by decide +kernel
theorem d_GT_calmReach_116 : decode prog_1_method_30_code 116 = .ok (.ifCond .eq 34, 3) := by decide +kernel
theorem d_GT_calmReach_119 : decode prog_1_method_30_code 119 = .ok (.aload_n 0, 1) := by decide +kernel
theorem d_GT_calmReach_120 : decode prog_1_method_30_code 120 = .ok (.getfield 40, 3) := by decide +kernel
theorem d_GT_calmReach_123 : decode prog_1_method_30_code 123 = .ok (.iload_n 2, 1) := by decide +kernel
theorem d_GT_calmReach_124 : decode prog_1_method_30_code 124 = .ok (.iload 7, 2) := by decide +kernel
theorem d_GT_calmReach_126 : decode prog_1_method_30_code 126 = .ok (.invokevirtual 130, 3) := by decide +kernel
theorem d_GT_calmReach_129 : decode prog_1_method_30_code 129 = .ok (.aload_n 0, 1) := by decide +kernel
theorem d_GT_calmReach_130 : decode prog_1_method_30_code 130 = .ok (.getfield 40, 3) := by decide +kernel
theorem d_GT_calmReach_133 : decode prog_1_method_30_code 133 = .ok (.iload 6, 2) := by decide +kernel
theorem d_GT_calmReach_135 : decode prog_1_method_30_code 135 = .ok (.iload 5, 2) := by decide +kernel
theorem d_GT_calmReach_137 : decode prog_1_method_30_code 137 = .ok (.iload_n 3, 1) := by decide +kernel
theorem d_GT_calmReach_138 : decode prog_1_method_30_code 138 = .ok (.bipush 100, 2) := by decide +kernel
theorem d_GT_calmReach_140 : decode prog_1_method_30_code 140 = .ok (.invokevirtual 328, 3) := by decide +kernel
theorem d_GT_calmReach_143 : decode prog_1_method_30_code 143 = .ok (.iconst 1, 1) := by decide +kernel
theorem d_GT_calmReach_144 : decode prog_1_method_30_code 144 = .ok (.if_icmp .gt 6, 3) := by decide +kernel
theorem d_GT_calmReach_147 : decode prog_1_method_30_code 147 = .ok (.iload 7, 2) := by decide +kernel
theorem d_GT_calmReach_149 : decode prog_1_method_30_code 149 = .ok (.ireturn, 1) := by decide +kernel
theorem d_GT_calmReach_150 : decode prog_1_method_30_code 150 = .ok (.iinc 7 1, 3) := by decide +kernel
theorem d_GT_calmReach_153 : decode prog_1_method_30_code 153 = .ok (.goto (-66), 3) := by decide +kernel
theorem d_GT_calmReach_156 : decode prog_1_method_30_code 156 = .ok (.ldc 181, 2) := by decide +kernel
theorem d_GT_calmReach_158 : decode prog_1_method_30_code 158 = .ok (.ireturn, 1) := by decide +kernel
theorem d_GT_steepest_0 : decode prog_1_method_31_code 0 = .ok (.iload_n 1, 1) := by decide +kernel
theorem d_GT_steepest_1 : decode prog_1_method_31_code 1 = .ok (.invokestatic 61, 3) := by decide +kernel
theorem d_GT_steepest_4 : decode prog_1_method_31_code 4 = .ok (.ifCond .eq 19, 3) := by decide +kernel
theorem d_GT_steepest_7 : decode prog_1_method_31_code 7 = .ok (.iload_n 2, 1) := by decide +kernel
theorem d_GT_steepest_8 : decode prog_1_method_31_code 8 = .ok (.invokestatic 164, 3) := by decide +kernel
theorem d_GT_steepest_11 : decode prog_1_method_31_code 11 = .ok (.ifCond .eq 12, 3) := by decide +kernel
theorem d_GT_steepest_14 : decode prog_1_method_31_code 14 = .ok (.iload_n 3, 1) := by decide +kernel
theorem d_GT_steepest_15 : decode prog_1_method_31_code 15 = .ok (.iconst 0, 1) := by decide +kernel
theorem d_GT_steepest_16 : decode prog_1_method_31_code 16 = .ok (.iconst 1, 1) := by decide +kernel
theorem d_GT_steepest_17 : decode prog_1_method_31_code 17 = .ok (.invokestatic 65, 3) := by decide +kernel
theorem d_GT_steepest_20 : decode prog_1_method_31_code 20 = .ok (.ifCond .ne 6, 3) := by decide +kernel
theorem d_GT_steepest_23 : decode prog_1_method_31_code 23 = .ok (.ldc 76, 2) := by decide +kernel
theorem d_GT_steepest_25 : decode prog_1_method_31_code 25 = .ok (.ireturn, 1) := by decide +kernel
theorem d_GT_steepest_26 : decode prog_1_method_31_code 26 = .ok (.aload_n 0, 1) := by decide +kernel
theorem d_GT_steepest_27 : decode prog_1_method_31_code 27 = .ok (.getfield 12, 3) := by decide +kernel
theorem d_GT_steepest_30 : decode prog_1_method_31_code 30 = .ok (.getfield 77, 3) := by decide +kernel
theorem d_GT_steepest_33 : decode prog_1_method_31_code 33 = .ok (.iload_n 1, 1) := by decide +kernel
theorem d_GT_steepest_34 : decode prog_1_method_31_code 34 = .ok (.invokevirtual 80, 3) := by decide +kernel
theorem d_GT_steepest_37 : decode prog_1_method_31_code 37 = .ok (.astore 4, 2) := by decide +kernel
theorem d_GT_steepest_39 : decode prog_1_method_31_code 39 = .ok (.iload_n 1, 1) := by decide +kernel
theorem d_GT_steepest_40 : decode prog_1_method_31_code 40 = .ok (.ifCond .ne 10, 3) := by decide +kernel
theorem d_GT_steepest_43 : decode prog_1_method_31_code 43 = .ok (.aload_n 0, 1) := by decide +kernel
theorem d_GT_steepest_44 : decode prog_1_method_31_code 44 = .ok (.getfield 47, 3) := by decide +kernel
theorem d_GT_steepest_47 : decode prog_1_method_31_code 47 = .ok (.goto 7, 3) := by decide +kernel
theorem d_GT_steepest_50 : decode prog_1_method_31_code 50 = .ok (.aload_n 0, 1) := by decide +kernel
theorem d_GT_steepest_51 : decode prog_1_method_31_code 51 = .ok (.getfield 51, 3) := by decide +kernel
theorem d_GT_steepest_54 : decode prog_1_method_31_code 54 = .ok (.astore 5, 2) := by decide +kernel
theorem d_GT_steepest_56 : decode prog_1_method_31_code 56 = .ok (.aload_n 0, 1) := by decide +kernel
theorem d_GT_steepest_57 : decode prog_1_method_31_code 57 = .ok (.getfield 47, 3) := by decide +kernel
theorem d_GT_steepest_60 : decode prog_1_method_31_code 60 = .ok (.aload_n 0, 1) := by decide +kernel
theorem d_GT_steepest_61 : decode prog_1_method_31_code 61 = .ok (.getfield 12, 3) := by decide +kernel
theorem d_GT_steepest_64 : decode prog_1_method_31_code 64 = .ok (.getfield 77, 3) := by decide +kernel
theorem d_GT_steepest_67 : decode prog_1_method_31_code 67 = .ok (.getfield 167, 3) := by decide +kernel
theorem d_GT_steepest_70 : decode prog_1_method_31_code 70 = .ok (.iload_n 1, 1) := by decide +kernel
theorem d_GT_steepest_71 : decode prog_1_method_31_code 71 = .ok (.ifCond .ne 7, 3) := by decide +kernel
theorem d_GT_steepest_74 : decode prog_1_method_31_code 74 = .ok (.iconst 0, 1) := by decide +kernel
theorem d_GT_steepest_75 : decode prog_1_method_31_code 75 = .ok (.goto 12, 3) := by decide +kernel
theorem d_GT_steepest_78 : decode prog_1_method_31_code 78 = .ok (.aload_n 0, 1) := by decide +kernel
theorem d_GT_steepest_79 : decode prog_1_method_31_code 79 = .ok (.getfield 12, 3) := by decide +kernel
theorem d_GT_steepest_82 : decode prog_1_method_31_code 82 = .ok (.getfield 200, 3) := by decide +kernel
theorem d_GT_steepest_85 : decode prog_1_method_31_code 85 = .ok (.iconst 0, 1) := by decide +kernel
theorem d_GT_steepest_86 : decode prog_1_method_31_code 86 = .ok (.iaload, 1) := by decide +kernel
theorem d_GT_steepest_87 : decode prog_1_method_31_code 87 = .ok (.invokevirtual 321, 3) := by decide +kernel
theorem d_GT_steepest_90 : decode prog_1_method_31_code 90 = .ok (.aload_n 0, 1) := by decide +kernel
theorem d_GT_steepest_91 : decode prog_1_method_31_code 91 = .ok (.getfield 51, 3) := by decide +kernel
theorem d_GT_steepest_94 : decode prog_1_method_31_code 94 = .ok (.aload_n 0, 1) := by decide +kernel
theorem d_GT_steepest_95 : decode prog_1_method_31_code 95 = .ok (.getfield 12, 3) := by decide +kernel
theorem d_GT_steepest_98 : decode prog_1_method_31_code 98 = .ok (.getfield 77, 3) := by decide +kernel
theorem d_GT_steepest_101 : decode prog_1_method_31_code 101 = .ok (.getfield 170, 3) := by decide +kernel
theorem d_GT_steepest_104 : decode prog_1_method_31_code 104 = .ok (.iload_n 1, 1) := by decide +kernel
theorem d_GT_steepest_105 : decode prog_1_method_31_code 105 = .ok (.ifCond .ne 15, 3) := by decide +kernel
theorem d_GT_steepest_108 : decode prog_1_method_31_code 108 = .ok (.aload_n 0, 1) := by decide +kernel
theorem d_GT_steepest_109 : decode prog_1_method_31_code 109 = .ok (.getfield 12, 3) := by decide +kernel
theorem d_GT_steepest_112 : decode prog_1_method_31_code 112 = .ok (.getfield 200, 3) := by decide +kernel
theorem d_GT_steepest_115 : decode prog_1_method_31_code 115 = .ok (.iconst 1, 1) := by decide +kernel
theorem d_GT_steepest_116 : decode prog_1_method_31_code 116 = .ok (.iaload, 1) := by decide +kernel
theorem d_GT_steepest_117 : decode prog_1_method_31_code 117 = .ok (.goto 4, 3) := by decide +kernel
theorem d_GT_steepest_120 : decode prog_1_method_31_code 120 = .ok (.iconst 0, 1) := by decide +kernel
theorem d_GT_steepest_121 : decode prog_1_method_31_code 121 = .ok (.invokevirtual 321, 3) := by decide +kernel
theorem d_GT_steepest_124 : decode prog_1_method_31_code 124 = .ok (.aload_n 0, 1) := by decide +kernel
theorem d_GT_steepest_125 : decode prog_1_method_31_code 125 = .ok (.iload_n 2, 1) := by decide +kernel
theorem d_GT_steepest_126 : decode prog_1_method_31_code 126 = .ok (.invokevirtual 295, 3) := by decide +kernel
theorem d_GT_steepest_129 : decode prog_1_method_31_code 129 = .ok (.istore 6, 2) := by decide +kernel
theorem d_GT_steepest_131 : decode prog_1_method_31_code 131 = .ok (.iconst 0, 1) := by decide +kernel
theorem d_GT_steepest_132 : decode prog_1_method_31_code 132 = .ok (.istore 7, 2) := by decide +kernel
theorem d_GT_steepest_134 : decode prog_1_method_31_code 134 = .ok (.iconst 0, 1) := by decide +kernel
theorem d_GT_steepest_135 : decode prog_1_method_31_code 135 = .ok (.istore 8, 2) := by decide +kernel
theorem d_GT_steepest_137 : decode prog_1_method_31_code 137 = .ok (.iconst 0, 1) := by decide +kernel
theorem d_GT_steepest_138 : decode prog_1_method_31_code 138 = .ok (.istore 9, 2) := by decide +kernel
theorem d_GT_steepest_140 : decode prog_1_method_31_code 140 = .ok (.iload 9, 2) := by decide +kernel
theorem d_GT_steepest_142 : decode prog_1_method_31_code 142 = .ok (.sipush 1000, 3) := by decide +kernel
theorem d_GT_steepest_145 : decode prog_1_method_31_code 145 = .ok (.if_icmp .ge 58, 3) := by decide +kernel
theorem d_GT_steepest_148 : decode prog_1_method_31_code 148 = .ok (.aload 5, 2) := by decide +kernel
theorem d_GT_steepest_150 : decode prog_1_method_31_code 150 = .ok (.aload 4, 2) := by decide +kernel
theorem d_GT_steepest_152 : decode prog_1_method_31_code 152 = .ok (.iload 9, 2) := by decide +kernel
theorem d_GT_steepest_154 : decode prog_1_method_31_code 154 = .ok (.iconst 1, 1) := by decide +kernel
theorem d_GT_steepest_155 : decode prog_1_method_31_code 155 = .ok (.iadd, 1) := by decide +kernel
theorem d_GT_steepest_156 : decode prog_1_method_31_code 156 = .ok (.invokevirtual 321, 3) := by decide +kernel
theorem d_GT_steepest_159 : decode prog_1_method_31_code 159 = .ok (.aload_n 0, 1) := by decide +kernel
theorem d_GT_steepest_160 : decode prog_1_method_31_code 160 = .ok (.iload_n 2, 1) := by decide +kernel
theorem d_GT_steepest_161 : decode prog_1_method_31_code 161 = .ok (.invokevirtual 295, 3) := by decide +kernel
theorem d_GT_steepest_164 : decode prog_1_method_31_code 164 = .ok (.istore 10, 2) := by decide +kernel
theorem d_GT_steepest_166 : decode prog_1_method_31_code 166 = .ok (.iload 10, 2) := by decide +kernel
theorem d_GT_steepest_168 : decode prog_1_method_31_code 168 = .ok (.iload 6, 2) := by decide +kernel
theorem d_GT_steepest_170 : decode prog_1_method_31_code 170 = .ok (.isub, 1) := by decide +kernel
theorem d_GT_steepest_171 : decode prog_1_method_31_code 171 = .ok (.invokestatic 337, 3) := by decide +kernel
theorem d_GT_steepest_174 : decode prog_1_method_31_code 174 = .ok (.iload 7, 2) := by decide +kernel
theorem d_GT_steepest_176 : decode prog_1_method_31_code 176 = .ok (.if_icmp .le 17, 3) := by decide +kernel
theorem d_GT_steepest_179 : decode prog_1_method_31_code 179 = .ok (.iload 10, 2) := by decide +kernel
theorem d_GT_steepest_181 : decode prog_1_method_31_code 181 = .ok (.iload 6, 2) := by decide +kernel
theorem d_GT_steepest_183 : decode prog_1_method_31_code 183 = .ok (.isub, 1) := by decide +kernel
theorem d_GT_steepest_184 : decode prog_1_method_31_code 184 = .ok (.invokestatic 337, 3) := by decide +kernel
theorem d_GT_steepest_187 : decode prog_1_method_31_code 187 = .ok (.istore 7, 2) := by decide +kernel
theorem d_GT_steepest_189 : decode prog_1_method_31_code 189 = .ok (.iload 9, 2) := by decide +kernel
theorem d_GT_steepest_191 : decode prog_1_method_31_code 191 = .ok (.istore 8, 2) := by decide +kernel
theorem d_GT_steepest_193 : decode prog_1_method_31_code 193 = .ok (.iload 10, 2) := by decide +kernel
theorem d_GT_steepest_195 : decode prog_1_method_31_code 195 = .ok (.istore 6, 2) := by decide +kernel
theorem d_GT_steepest_197 : decode prog_1_method_31_code 197 = .ok (.iinc 9 1, 3) := by decide +kernel
theorem d_GT_steepest_200 : decode prog_1_method_31_code 200 = .ok (.goto (-60), 3) := by decide +kernel
theorem d_GT_steepest_203 : decode prog_1_method_31_code 203 = .ok (.iload_n 3, 1) := by decide +kernel
theorem d_GT_steepest_204 : decode prog_1_method_31_code 204 = .ok (.ifCond .ne 8, 3) := by decide +kernel
theorem d_GT_steepest_207 : decode prog_1_method_31_code 207 = .ok (.iload 7, 2) := by decide +kernel
theorem d_GT_steepest_209 : decode prog_1_method_31_code 209 = .ok (.goto 5, 3) := by decide +kernel
theorem d_GT_steepest_212 : decode prog_1_method_31_code 212 = .ok (.iload 8, 2) := by decide +kernel
theorem d_GT_steepest_214 : decode prog_1_method_31_code 214 = .ok (.ireturn, 1) := by decide +kernel
end
section
-- what the bytes say, instruction by instruction
theorem d_Mo_clearRegions_0 : decode prog_10_method_2_code 0 = .ok (.iconst 0, 1) := by decide +kernel
theorem d_Mo_clearRegions_1 : decode prog_10_method_2_code 1 = .ok (.istore_n 1, 1) := by decide +kernel
theorem d_Mo_clearRegions_2 : decode prog_10_method_2_code 2 = .ok (.iload_n 1, 1) := by decide +kernel
theorem d_Mo_clearRegions_3 : decode prog_10_method_2_code 3 = .ok (.bipush 49, 2) := by decide +kernel
theorem d_Mo_clearRegions_5 : decode prog_10_method_2_code 5 = .ok (.if_icmp .ge 50, 3) := by decide +kernel
theorem d_Mo_clearRegions_8 : decode prog_10_method_2_code 8 = .ok (.iconst 0, 1) := by decide +kernel
theorem d_Mo_clearRegions_9 : decode prog_10_method_2_code 9 = .ok (.istore_n 2, 1) := by decide +kernel
theorem d_Mo_clearRegions_10 : decode prog_10_method_2_code 10 = .ok (.iload_n 2, 1) := by decide +kernel
theorem d_Mo_clearRegions_11 : decode prog_10_method_2_code 11 = .ok (.iconst 3, 1) := by decide +kernel
theorem d_Mo_clearRegions_12 : decode prog_10_method_2_code 12 = .ok (.if_icmp .ge 23, 3) := by decide +kernel
theorem d_Mo_clearRegions_15 : decode prog_10_method_2_code 15 = .ok (.aload_n 0, 1) := by decide +kernel
theorem d_Mo_clearRegions_16 : decode prog_10_method_2_code 16 = .ok (.getfield 7, 3) := by decide +kernel
theorem d_Mo_clearRegions_19 : decode prog_10_method_2_code 19 = .ok (.bipush 38, 2) := by decide +kernel
theorem d_Mo_clearRegions_21 : decode prog_10_method_2_code 21 = .ok (.iconst 4, 1) := by decide +kernel
theorem d_Mo_clearRegions_22 : decode prog_10_method_2_code 22 = .ok (.iload_n 1, 1) := by decide +kernel
theorem d_Mo_clearRegions_23 : decode prog_10_method_2_code 23 = .ok (.imul, 1) := by decide +kernel
theorem d_Mo_clearRegions_24 : decode prog_10_method_2_code 24 = .ok (.iadd, 1) := by decide +kernel
theorem d_Mo_clearRegions_25 : decode prog_10_method_2_code 25 = .ok (.iload_n 2, 1) := by decide +kernel
theorem d_Mo_clearRegions_26 : decode prog_10_method_2_code 26 = .ok (.iadd, 1) := by decide +kernel
theorem d_Mo_clearRegions_27 : decode prog_10_method_2_code 27 = .ok (.iconst 0, 1) := by decide +kernel
theorem d_Mo_clearRegions_28 : decode prog_10_method_2_code 28 = .ok (.iastore, 1) := by decide +kernel
theorem d_Mo_clearRegions_29 : decode prog_10_method_2_code 29 = .ok (.iinc 2 1, 3) := by decide +kernel
theorem d_Mo_clearRegions_32 : decode prog_10_method_2_code 32 = .ok (.goto (-22), 3) := by decide +kernel
theorem d_Mo_clearRegions_35 : decode prog_10_method_2_code 35 = .ok (.aload_n 0, 1) := by decide +kernel
theorem d_Mo_clearRegions_36 : decode prog_10_method_2_code 36 = .ok (.getfield 7, 3) := by decide +kernel
theorem d_Mo_clearRegions_39 : decode prog_10_method_2_code 39 = .ok (.bipush 38, 2) := by decide +kernel
theorem d_Mo_clearRegions_41 : decode prog_10_method_2_code 41 = .ok (.iconst 4, 1) := by decide +kernel
theorem d_Mo_clearRegions_42 : decode prog_10_method_2_code 42 = .ok (.iload_n 1, 1) := by decide +kernel
theorem d_Mo_clearRegions_43 : decode prog_10_method_2_code 43 = .ok (.imul, 1) := by decide +kernel
theorem d_Mo_clearRegions_44 : decode prog_10_method_2_code 44 = .ok (.iadd, 1) := by decide +kernel
theorem d_Mo_clearRegions_45 : decode prog_10_method_2_code 45 = .ok (.iconst 3, 1) := by decide +kernel
theorem d_Mo_clearRegions_46 : decode prog_10_method_2_code 46 = .ok (.iadd, 1) := by decide +kernel
theorem d_Mo_clearRegions_47 : decode prog_10_method_2_code 47 = .ok (.iconst (-1), 1) := by decide +kernel
theorem d_Mo_clearRegions_48 : decode prog_10_method_2_code 48 = .ok (.iastore, 1) := by decide +kernel
theorem d_Mo_clearRegions_49 : decode prog_10_method_2_code 49 = .ok (.iinc 1 1, 3) := by decide +kernel
theorem d_Mo_clearRegions_52 : decode prog_10_method_2_code 52 = .ok (.goto (-50), 3) := by decide +kernel
theorem d_Mo_clearRegions_55 : decode prog_10_method_2_code 55 = .ok (.return_, 1) := by decide +kernel
theorem d_Mo_addBorder_0 : decode prog_10_method_36_code 0 = .ok (.aload_n 0, 1) := by decide +kernel
theorem d_Mo_addBorder_1 : decode prog_10_method_36_code 1 = .ok (.iconst 0, 1) := by decide +kernel
theorem d_Mo_addBorder_2 : decode prog_10_method_36_code 2 = .ok (.putfield 37, 3) := by decide +kernel
theorem d_Mo_addBorder_5 : decode prog_10_method_36_code 5 = .ok (.iload_n 1, 1) := by decide +kernel
theorem d_Mo_addBorder_6 : decode prog_10_method_36_code 6 = .ok (.invokestatic 51, 3) := by decide +kernel
theorem d_Mo_addBorder_9 : decode prog_10_method_36_code 9 = .ok (.ifCond .eq 32, 3) := by decide +kernel
theorem d_Mo_addBorder_12 : decode prog_10_method_36_code 12 = .ok (.iload_n 2, 1) := by decide +kernel
theorem d_Mo_addBorder_13 : decode prog_10_method_36_code 13 = .ok (.iconst 1, 1) := by decide +kernel
theorem d_Mo_addBorder_14 : decode prog_10_method_36_code 14 = .ok (.sipush 999, 3) := by decide +kernel
theorem d_Mo_addBorder_17 : decode prog_10_method_36_code 17 = .ok (.invokestatic 47, 3) := by decide +kernel
theorem d_Mo_addBorder_20 : decode prog_10_method_36_code 20 = .ok (.ifCond .eq 21, 3) := by decide +kernel
theorem d_Mo_addBorder_23 : decode prog_10_method_36_code 23 = .ok (.iload_n 3, 1) := by decide +kernel
theorem d_Mo_addBorder_24 : decode prog_10_method_36_code 24 = .ok (.iload 4, 2) := by decide +kernel
theorem d_Mo_addBorder_26 : decode prog_10_method_36_code 26 = .ok (.invokestatic 105, 3) := by decide +kernel
theorem d_Mo_addBorder_29 : decode prog_10_method_36_code 29 = .ok (.ifCond .eq 12, 3) := by decide +kernel
theorem d_Mo_addBorder_32 : decode prog_10_method_36_code 32 = .ok (.iload_n 2, 1) := by decide +kernel
theorem d_Mo_addBorder_33 : decode prog_10_method_36_code 33 = .ok (.iload 4, 2) := by decide +kernel
theorem d_Mo_addBorder_35 : decode prog_10_method_36_code 35 = .ok (.invokestatic 109, 3) := by decide +kernel
theorem d_Mo_addBorder_38 : decode prog_10_method_36_code 38 = .ok (.ifCond .ne 6, 3) := by decide +kernel
theorem d_Mo_addBorder_41 : decode prog_10_method_36_code 41 = .ok (.ldc 112, 2) := by decide +kernel
theorem d_Mo_addBorder_43 : decode prog_10_method_36_code 43 = .ok (.ireturn, 1) := by decide +kernel
theorem d_Mo_addBorder_44 : decode prog_10_method_36_code 44 = .ok (.aload_n 0, 1) := by decide +kernel
theorem d_Mo_addBorder_45 : decode prog_10_method_36_code 45 = .ok (.iload_n 1, 1) := by decide +kernel
theorem d_Mo_addBorder_46 : decode prog_10_method_36_code 46 = .ok (.iload_n 2, 1) := by decide +kernel
theorem d_Mo_addBorder_47 : decode prog_10_method_36_code 47 = .ok (.iload 4, 2) := by decide +kernel
theorem d_Mo_addBorder_49 : decode prog_10_method_36_code 49 = .ok (.ldc 67, 2) := by decide +kernel
theorem d_Mo_addBorder_51 : decode prog_10_method_36_code 51 = .ok (.invokevirtual 113, 3) := by decide +kernel
theorem d_Mo_addBorder_54 : decode prog_10_method_36_code 54 = .ok (.ifCond .eq 6, 3) := by decide +kernel
theorem d_Mo_addBorder_57 : decode prog_10_method_36_code 57 = .ok (.ldc 117, 2) := by decide +kernel
theorem d_Mo_addBorder_59 : decode prog_10_method_36_code 59 = .ok (.ireturn, 1) := by decide +kernel
theorem d_Mo_addBorder_60 : decode prog_10_method_36_code 60 = .ok (.aload_n 0, 1) := by decide +kernel
theorem d_Mo_addBorder_61 : decode prog_10_method_36_code 61 = .ok (.iload_n 1, 1) := by decide +kernel
theorem d_Mo_addBorder_62 : decode prog_10_method_36_code 62 = .ok (.invokevirtual 55, 3) := by decide +kernel
theorem d_Mo_addBorder_65 : decode prog_10_method_36_code 65 = .ok (.bipush 6, 2) := by decide +kernel
theorem d_Mo_addBorder_67 : decode prog_10_method_36_code 67 = .ok (.if_icmp .ne 6, 3) := by decide +kernel
theorem d_Mo_addBorder_70 : decode prog_10_method_36_code 70 = .ok (.ldc 118, 2) := by decide +kernel
theorem d_Mo_addBorder_72 : decode prog_10_method_36_code 72 = .ok (.ireturn, 1) := by decide +kernel
theorem d_Mo_addBorder_73 : decode prog_10_method_36_code 73 = .ok (.aload_n 0, 1) := by decide +kernel
theorem d_Mo_addBorder_74 : decode prog_10_method_36_code 74 = .ok (.invokevirtual 119, 3) := by decide +kernel
theorem d_Mo_addBorder_77 : decode prog_10_method_36_code 77 = .ok (.aload_n 0, 1) := by decide +kernel
theorem d_Mo_addBorder_78 : decode prog_10_method_36_code 78 = .ok (.invokevirtual 99, 3) := by decide +kernel
theorem d_Mo_addBorder_81 : decode prog_10_method_36_code 81 = .ok (.istore 5, 2) := by decide +kernel
theorem d_Mo_addBorder_83 : decode prog_10_method_36_code 83 = .ok (.aload_n 0, 1) := by decide +kernel
theorem d_Mo_addBorder_84 : decode prog_10_method_36_code 84 = .ok (.iload_n 1, 1) := by decide +kernel
theorem d_Mo_addBorder_85 : decode prog_10_method_36_code 85 = .ok (.iload_n 2, 1) := by decide +kernel
theorem d_Mo_addBorder_86 : decode prog_10_method_36_code 86 = .ok (.iload_n 3, 1) := by decide +kernel
theorem d_Mo_addBorder_87 : decode prog_10_method_36_code 87 = .ok (.iload 4, 2) := by decide +kernel
theorem d_Mo_addBorder_89 : decode prog_10_method_36_code 89 = .ok (.invokevirtual 122, 3) := by decide +kernel
theorem d_Mo_addBorder_92 : decode prog_10_method_36_code 92 = .ok (.istore 6, 2) := by decide +kernel
theorem d_Mo_addBorder_94 : decode prog_10_method_36_code 94 = .ok (.aload_n 0, 1) := by decide +kernel
theorem d_Mo_addBorder_95 : decode prog_10_method_36_code 95 = .ok (.iload 5, 2) := by decide +kernel
theorem d_Mo_addBorder_97 : decode prog_10_method_36_code 97 = .ok (.invokevirtual 126, 3) := by decide +kernel
theorem d_Mo_addBorder_100 : decode prog_10_method_36_code 100 = .ok (.iload 6, 2) := by decide +kernel
theorem d_Mo_addBorder_102 : decode prog_10_method_36_code 102 = .ok (.ireturn, 1) := by decide +kernel
theorem d_Mo_isAxis_0 : decode prog_10_method_10_code 0 = .ok (.iload_n 0, 1) := by decide +kernel
theorem d_Mo_isAxis_1 : decode prog_10_method_10_code 1 = .ok (.iconst 0, 1) := by decide +kernel
theorem d_Mo_isAxis_2 : decode prog_10_method_10_code 2 = .ok (.iconst 1, 1) := by decide +kernel
theorem d_Mo_isAxis_3 : decode prog_10_method_10_code 3 = .ok (.invokestatic 47, 3) := by decide +kernel
theorem d_Mo_isAxis_6 : decode prog_10_method_10_code 6 = .ok (.ireturn, 1) := by decide +kernel
theorem d_Mo_in_0 : decode prog_10_method_4_code 0 = .ok (.iload_n 0, 1) := by decide +kernel
theorem d_Mo_in_1 : decode prog_10_method_4_code 1 = .ok (.iload_n 1, 1) := by decide +kernel
theorem d_Mo_in_2 : decode prog_10_method_4_code 2 = .ok (.if_icmp .lt 12, 3) := by decide +kernel
theorem d_Mo_in_5 : decode prog_10_method_4_code 5 = .ok (.iload_n 0, 1) := by decide +kernel
theorem d_Mo_in_6 : decode prog_10_method_4_code 6 = .ok (.iload_n 2, 1) := by decide +kernel
theorem d_Mo_in_7 : decode prog_10_method_4_code 7 = .ok (.if_icmp .gt 7, 3) := by decide +kernel
theorem d_Mo_in_10 : decode prog_10_method_4_code 10 = .ok (.iconst 1, 1) := by decide +kernel
theorem d_Mo_in_11 : decode prog_10_method_4_code 11 = .ok (.goto 4, 3) := by decide +kernel
theorem d_Mo_in_14 : decode prog_10_method_4_code 14 = .ok (.iconst 0, 1) := by decide +kernel
theorem d_Mo_in_15 : decode prog_10_method_4_code 15 = .ok (.ireturn, 1) := by decide +kernel
theorem d_Mo_isReach_0 : decode prog_10_method_29_code 0 = .ok (.iload_n 0, 1) := by decide +kernel
theorem d_Mo_isReach_1 : decode prog_10_method_29_code 1 = .ok (.iconst 0, 1) := by decide +kernel
theorem d_Mo_isReach_2 : decode prog_10_method_29_code 2 = .ok (.iconst 1, 1) := by decide +kernel
theorem d_Mo_isReach_3 : decode prog_10_method_29_code 3 = .ok (.invokestatic 47, 3) := by decide +kernel
theorem d_Mo_isReach_6 : decode prog_10_method_29_code 6 = .ok (.ifCond .eq 17, 3) := by decide +kernel
theorem d_Mo_isReach_9 : decode prog_10_method_29_code 9 = .ok (.iload_n 1, 1) := by decide +kernel
theorem d_Mo_isReach_10 : decode prog_10_method_29_code 10 = .ok (.iload_n 0, 1) := by decide +kernel
theorem d_Mo_isReach_11 : decode prog_10_method_29_code 11 = .ok (.bipush 100, 2) := by decide +kernel
theorem d_Mo_isReach_13 : decode prog_10_method_29_code 13 = .ok (.invokestatic 47, 3) := by decide +kernel
theorem d_Mo_isReach_16 : decode prog_10_method_29_code 16 = .ok (.ifCond .eq 7, 3) := by decide +kernel
theorem d_Mo_isReach_19 : decode prog_10_method_29_code 19 = .ok (.iconst 1, 1) := by decide +kernel
theorem d_Mo_isReach_20 : decode prog_10_method_29_code 20 = .ok (.goto 4, 3) := by decide +kernel
theorem d_Mo_isReach_23 : decode prog_10_method_29_code 23 = .ok (.iconst 0, 1) := by decide +kernel
theorem d_Mo_isReach_24 : decode prog_10_method_29_code 24 = .ok (.ireturn, 1) := by decide +kernel
theorem d_Mo_isInside_0 : decode prog_10_method_30_code 0 = .ok (.iload_n 0, 1) := by decide +kernel
theorem d_Mo_isInside_1 : decode prog_10_method_30_code 1 = .ok (.iload_n 1, 1) := by decide +kernel
theorem d_Mo_isInside_2 : decode prog_10_method_30_code 2 = .ok (.isub, 1) := by decide +kernel
theorem d_Mo_isInside_3 : decode prog_10_method_30_code 3 = .ok (.ifCond .lt 16, 3) := by decide +kernel
theorem d_Mo_isInside_6 : decode prog_10_method_30_code 6 = .ok (.iload_n 0, 1) := by decide +kernel
theorem d_Mo_isInside_7 : decode prog_10_method_30_code 7 = .ok (.iload_n 1, 1) := by decide +kernel
theorem d_Mo_isInside_8 : decode prog_10_method_30_code 8 = .ok (.iadd, 1) := by decide +kernel
theorem d_Mo_isInside_9 : decode prog_10_method_30_code 9 = .ok (.sipush 1000, 3) := by decide +kernel
theorem d_Mo_isInside_12 : decode prog_10_method_30_code 12 = .ok (.if_icmp .gt 7, 3) := by decide +kernel
theorem d_Mo_isInside_15 : decode prog_10_method_30_code 15 = .ok (.iconst 1, 1) := by decide +kernel
theorem d_Mo_isInside_16 : decode prog_10_method_30_code 16 = .ok (.goto 4, 3) := by decide +kernel
theorem d_Mo_isInside_19 : decode prog_10_method_30_code 19 = .ok (.iconst 0, 1) := by decide +kernel
theorem d_Mo_isInside_20 : decode prog_10_method_30_code 20 = .ok (.ireturn, 1) := by decide +kernel
theorem d_Mo_isOccupied_0 : decode prog_10_method_31_code 0 = .ok (.iconst 0, 1) := by decide +kernel
theorem d_Mo_isOccupied_1 : decode prog_10_method_31_code 1 = .ok (.istore 5, 2) := by decide +kernel
theorem d_Mo_isOccupied_3 : decode prog_10_method_31_code 3 = .ok (.iconst 0, 1) := by decide +kernel
theorem d_Mo_isOccupied_4 : decode prog_10_method_31_code 4 = .ok (.istore 6, 2) := by decide +kernel
theorem d_Mo_isOccupied_6 : decode prog_10_method_31_code 6 = .ok (.iload 6, 2) := by decide +kernel
theorem d_Mo_isOccupied_8 : decode prog_10_method_31_code 8 = .ok (.aload_n 0, 1) := by decide +kernel
theorem d_Mo_isOccupied_9 : decode prog_10_method_31_code 9 = .ok (.iload_n 1, 1) := by decide +kernel
theorem d_Mo_isOccupied_10 : decode prog_10_method_31_code 10 = .ok (.invokevirtual 55, 3) := by decide +kernel
theorem d_Mo_isOccupied_13 : decode prog_10_method_31_code 13 = .ok (.if_icmp .ge 53, 3) := by decide +kernel
theorem d_Mo_isOccupied_16 : decode prog_10_method_31_code 16 = .ok (.iload 5, 2) := by decide +kernel
theorem d_Mo_isOccupied_18 : decode prog_10_method_31_code 18 = .ok (.ifCond .ne 35, 3) := by decide +kernel
theorem d_Mo_isOccupied_21 : decode prog_10_method_31_code 21 = .ok (.iload 6, 2) := by decide +kernel
theorem d_Mo_isOccupied_23 : decode prog_10_method_31_code 23 = .ok (.iload 4, 2) := by decide +kernel
theorem d_Mo_isOccupied_25 : decode prog_10_method_31_code 25 = .ok (.if_icmp .eq 32, 3) := by decide +kernel
theorem d_Mo_isOccupied_28 : decode prog_10_method_31_code 28 = .ok (.iload_n 2, 1) := by decide +kernel
theorem d_Mo_isOccupied_29 : decode prog_10_method_31_code 29 = .ok (.aload_n 0, 1) := by decide +kernel
theorem d_Mo_isOccupied_30 : decode prog_10_method_31_code 30 = .ok (.iload_n 1, 1) := by decide +kernel
theorem d_Mo_isOccupied_31 : decode prog_10_method_31_code 31 = .ok (.iload 6, 2) := by decide +kernel
theorem d_Mo_isOccupied_33 : decode prog_10_method_31_code 33 = .ok (.iconst 0, 1) := by decide +kernel
theorem d_Mo_isOccupied_34 : decode prog_10_method_31_code 34 = .ok (.invokevirtual 63, 3) := by decide +kernel
theorem d_Mo_isOccupied_37 : decode prog_10_method_31_code 37 = .ok (.invokestatic 85, 3) := by decide +kernel
theorem d_Mo_isOccupied_40 : decode prog_10_method_31_code 40 = .ok (.iload_n 3, 1) := by decide +kernel
theorem d_Mo_isOccupied_41 : decode prog_10_method_31_code 41 = .ok (.aload_n 0, 1) := by decide +kernel
theorem d_Mo_isOccupied_42 : decode prog_10_method_31_code 42 = .ok (.iload_n 1, 1) := by decide +kernel
theorem d_Mo_isOccupied_43 : decode prog_10_method_31_code 43 = .ok (.iload 6, 2) := by decide +kernel
theorem d_Mo_isOccupied_45 : decode prog_10_method_31_code 45 = .ok (.iconst 2, 1) := by decide +kernel
theorem d_Mo_isOccupied_46 : decode prog_10_method_31_code 46 = .ok (.invokevirtual 63, 3) := by decide +kernel
theorem d_Mo_isOccupied_49 : decode prog_10_method_31_code 49 = .ok (.iadd, 1) := by decide +kernel
theorem d_Mo_isOccupied_50 : decode prog_10_method_31_code 50 = .ok (.if_icmp .gt 7, 3) := by decide +kernel
theorem d_Mo_isOccupied_53 : decode prog_10_method_31_code 53 = .ok (.iconst 1, 1) := by decide +kernel
theorem d_Mo_isOccupied_54 : decode prog_10_method_31_code 54 = .ok (.goto 4, 3) := by decide +kernel
theorem d_Mo_isOccupied_57 : decode prog_10_method_31_code 57 = .ok (.iconst 0, 1) := by decide +kernel
theorem d_Mo_isOccupied_58 : decode prog_10_method_31_code 58 = .ok (.istore 5, 2) := by decide +kernel
theorem d_Mo_isOccupied_60 : decode prog_10_method_31_code 60 = .ok (.iinc 6 1, 3) := by decide +kernel
theorem d_Mo_isOccupied_63 : decode prog_10_method_31_code 63 = .ok (.goto (-57), 3) := by decide +kernel
theorem d_Mo_isOccupied_66 : decode prog_10_method_31_code 66 = .ok (.iload 5, 2) := by decide +kernel
theorem d_Mo_isOccupied_68 : decode prog_10_method_31_code 68 = .ok (.ireturn, 1) := by decide +kernel
theorem d_Mo_borders_0 : decode prog_10_method_11_code 0 = .ok (.aload_n 0, 1) := by decide +kernel
theorem d_Mo_borders_1 : decode prog_10_method_11_code 1 = .ok (.getfield 7, 3) := by decide +kernel
theorem d_Mo_borders_4 : decode prog_10_method_11_code 4 = .ok (.iconst 0, 1) := by decide +kernel
theorem d_Mo_borders_5 : decode prog_10_method_11_code 5 = .ok (.bipush 19, 2) := by decide +kernel
theorem d_Mo_borders_7 : decode prog_10_method_11_code 7 = .ok (.iload_n 1, 1) := by decide +kernel
theorem d_Mo_borders_8 : decode prog_10_method_11_code 8 = .ok (.imul, 1) := by decide +kernel
theorem d_Mo_borders_9 : decode prog_10_method_11_code 9 = .ok (.iadd, 1) := by decide +kernel
theorem d_Mo_borders_10 : decode prog_10_method_11_code 10 = .ok (.iaload, 1) := by decide +kernel
theorem d_Mo_borders_11 : decode prog_10_method_11_code 11 = .ok (.ireturn, 1) := by decide +kernel
theorem d_Mo_ofBorder_0 : decode prog_10_method_12_code 0 = .ok (.aload_n 0, 1) := by decide +kernel
theorem d_Mo_ofBorder_1 : decode prog_10_method_12_code 1 = .ok (.getfield 7, 3) := by decide +kernel
theorem d_Mo_ofBorder_4 : decode prog_10_method_12_code 4 = .ok (.iconst 0, 1) := by decide +kernel
theorem d_Mo_ofBorder_5 : decode prog_10_method_12_code 5 = .ok (.bipush 19, 2) := by decide +kernel
theorem d_Mo_ofBorder_7 : decode prog_10_method_12_code 7 = .ok (.iload_n 1, 1) := by decide +kernel
theorem d_Mo_ofBorder_8 : decode prog_10_method_12_code 8 = .ok (.imul, 1) := by decide +kernel
theorem d_Mo_ofBorder_9 : decode prog_10_method_12_code 9 = .ok (.iadd, 1) := by decide +kernel
theorem d_Mo_ofBorder_10 : decode prog_10_method_12_code 10 = .ok (.iconst 1, 1) := by decide +kernel
theorem d_Mo_ofBorder_11 : decode prog_10_method_12_code 11 = .ok (.iadd, 1) := by decide +kernel
theorem d_Mo_ofBorder_12 : decode prog_10_method_12_code 12 = .ok (.iconst 3, 1) := by decide +kernel
theorem d_Mo_ofBorder_13 : decode prog_10_method_12_code 13 = .ok (.iload_n 2, 1) := by decide +kernel
theorem d_Mo_ofBorder_14 : decode prog_10_method_12_code 14 = .ok (.imul, 1) := by decide +kernel
theorem d_Mo_ofBorder_15 : decode prog_10_method_12_code 15 = .ok (.iadd, 1) := by decide +kernel
theorem d_Mo_ofBorder_16 : decode prog_10_method_12_code 16 = .ok (.iload_n 3, 1) := by decide +kernel
theorem d_Mo_ofBorder_17 : decode prog_10_method_12_code 17 = .ok (.iadd, 1) := by decide +kernel
theorem d_Mo_ofBorder_18 : decode prog_10_method_12_code 18 = .ok (.iaload, 1) := by decide +kernel
theorem d_Mo_ofBorder_19 : decode prog_10_method_12_code 19 = .ok (.ireturn, 1) := by decide +kernel
theorem d_Mo_apart_0 : decode prog_10_method_5_code 0 = .ok (.iload_n 0, 1) := by decide +kernel
theorem d_Mo_apart_1 : decode prog_10_method_5_code 1 = .ok (.iload_n 1, 1) := by decide +kernel
theorem d_Mo_apart_2 : decode prog_10_method_5_code 2 = .ok (.if_icmp .ge 9, 3) := by decide +kernel
theorem d_Mo_apart_5 : decode prog_10_method_5_code 5 = .ok (.iload_n 1, 1) := by decide +kernel
theorem d_Mo_apart_6 : decode prog_10_method_5_code 6 = .ok (.iload_n 0, 1) := by decide +kernel
theorem d_Mo_apart_7 : decode prog_10_method_5_code 7 = .ok (.isub, 1) := by decide +kernel
theorem d_Mo_apart_8 : decode prog_10_method_5_code 8 = .ok (.goto 6, 3) := by decide +kernel
theorem d_Mo_apart_11 : decode prog_10_method_5_code 11 = .ok (.iload_n 0, 1) := by decide +kernel
theorem d_Mo_apart_12 : decode prog_10_method_5_code 12 = .ok (.iload_n 1, 1) := by decide +kernel
theorem d_Mo_apart_13 : decode prog_10_method_5_code 13 = .ok (.isub, 1) := by decide +kernel
theorem d_Mo_apart_14 : decode prog_10_method_5_code 14 = .ok (.ireturn, 1) := by decide +kernel
theorem d_Mo_act_0 : decode prog_10_method_6_code 0 = .ok (.aload_n 0, 1) := by decide +kernel
theorem d_Mo_act_1 : decode prog_10_method_6_code 1 = .ok (.getfield 44, 3) := by decide +kernel
theorem d_Mo_act_4 : decode prog_10_method_6_code 4 = .ok (.iconst 5, 1) := by decide +kernel
theorem d_Mo_act_5 : decode prog_10_method_6_code 5 = .ok (.if_icmp .ne 44, 3) := by decide +kernel
theorem d_Mo_act_8 : decode prog_10_method_6_code 8 = .ok (.iconst 0, 1) := by decide +kernel
theorem d_Mo_act_9 : decode prog_10_method_6_code 9 = .ok (.istore_n 1, 1) := by decide +kernel
theorem d_Mo_act_10 : decode prog_10_method_6_code 10 = .ok (.iload_n 1, 1) := by decide +kernel
theorem d_Mo_act_11 : decode prog_10_method_6_code 11 = .ok (.sipush 4480, 3) := by decide +kernel
theorem d_Mo_act_14 : decode prog_10_method_6_code 14 = .ok (.if_icmp .ge 25, 3) := by decide +kernel
theorem d_Mo_act_17 : decode prog_10_method_6_code 17 = .ok (.aload_n 0, 1) := by decide +kernel
theorem d_Mo_act_18 : decode prog_10_method_6_code 18 = .ok (.getfield 16, 3) := by decide +kernel
theorem d_Mo_act_21 : decode prog_10_method_6_code 21 = .ok (.iload_n 1, 1) := by decide +kernel
theorem d_Mo_act_22 : decode prog_10_method_6_code 22 = .ok (.aload_n 0, 1) := by decide +kernel
theorem d_Mo_act_23 : decode prog_10_method_6_code 23 = .ok (.getfield 16, 3) := by decide +kernel
theorem d_Mo_act_26 : decode prog_10_method_6_code 26 = .ok (.iload_n 1, 1) := by decide +kernel
theorem d_Mo_act_27 : decode prog_10_method_6_code 27 = .ok (.sipush 1120, 3) := by decide +kernel
theorem d_Mo_act_30 : decode prog_10_method_6_code 30 = .ok (.iadd, 1) := by decide +kernel
theorem d_Mo_act_31 : decode prog_10_method_6_code 31 = .ok (.iaload, 1) := by decide +kernel
theorem d_Mo_act_32 : decode prog_10_method_6_code 32 = .ok (.iastore, 1) := by decide +kernel
theorem d_Mo_act_33 : decode prog_10_method_6_code 33 = .ok (.iinc 1 1, 3) := by decide +kernel
theorem d_Mo_act_36 : decode prog_10_method_6_code 36 = .ok (.goto (-26), 3) := by decide +kernel
theorem d_Mo_act_39 : decode prog_10_method_6_code 39 = .ok (.aload_n 0, 1) := by decide +kernel
theorem d_Mo_act_40 : decode prog_10_method_6_code 40 = .ok (.dup, 1) := by decide +kernel
theorem d_Mo_act_41 : decode prog_10_method_6_code 41 = .ok (.getfield 44, 3) := by decide +kernel
theorem d_Mo_act_44 : decode prog_10_method_6_code 44 = .ok (.iconst 1, 1) := by decide +kernel
theorem d_Mo_act_45 : decode prog_10_method_6_code 45 = .ok (.isub, 1) := by decide +kernel
theorem d_Mo_act_46 : decode prog_10_method_6_code 46 = .ok (.putfield 44, 3) := by decide +kernel
theorem d_Mo_act_49 : decode prog_10_method_6_code 49 = .ok (.iconst 0, 1) := by decide +kernel
theorem d_Mo_act_50 : decode prog_10_method_6_code 50 = .ok (.istore_n 1, 1) := by decide +kernel
theorem d_Mo_act_51 : decode prog_10_method_6_code 51 = .ok (.iload_n 1, 1) := by decide +kernel
theorem d_Mo_act_52 : decode prog_10_method_6_code 52 = .ok (.sipush 1120, 3) := by decide +kernel
theorem d_Mo_act_55 : decode prog_10_method_6_code 55 = .ok (.if_icmp .ge 30, 3) := by decide +kernel
theorem d_Mo_act_58 : decode prog_10_method_6_code 58 = .ok (.aload_n 0, 1) := by decide +kernel
theorem d_Mo_act_59 : decode prog_10_method_6_code 59 = .ok (.getfield 16, 3) := by decide +kernel
theorem d_Mo_act_62 : decode prog_10_method_6_code 62 = .ok (.sipush 1120, 3) := by decide +kernel
theorem d_Mo_act_65 : decode prog_10_method_6_code 65 = .ok (.aload_n 0, 1) := by decide +kernel
theorem d_Mo_act_66 : decode prog_10_method_6_code 66 = .ok (.getfield 44, 3) := by decide +kernel
theorem d_Mo_act_69 : decode prog_10_method_6_code 69 = .ok (.imul, 1) := by decide +kernel
theorem d_Mo_act_70 : decode prog_10_method_6_code 70 = .ok (.iload_n 1, 1) := by decide +kernel
theorem d_Mo_act_71 : decode prog_10_method_6_code 71 = .ok (.iadd, 1) := by decide +kernel
theorem d_Mo_act_72 : decode prog_10_method_6_code 72 = .ok (.aload_n 0, 1) := by decide +kernel
theorem d_Mo_act_73 : decode prog_10_method_6_code 73 = .ok (.getfield 7, 3) := by decide +kernel
theorem d_Mo_act_76 : decode prog_10_method_6_code 76 = .ok (.iload_n 1, 1) := by decide +kernel
theorem d_Mo_act_77 : decode prog_10_method_6_code 77 = .ok (.iaload, 1) := by decide +kernel
theorem d_Mo_act_78 : decode prog_10_method_6_code 78 = .ok (.iastore, 1) := by decide +kernel
theorem d_Mo_act_79 : decode prog_10_method_6_code 79 = .ok (.iinc 1 1, 3) := by decide +kernel
theorem d_Mo_act_82 : decode prog_10_method_6_code 82 = .ok (.goto (-31), 3) := by decide +kernel
theorem d_Mo_act_85 : decode prog_10_method_6_code 85 = .ok (.aload_n 0, 1) := by decide +kernel
theorem d_Mo_act_86 : decode prog_10_method_6_code 86 = .ok (.dup, 1) := by decide +kernel
theorem d_Mo_act_87 : decode prog_10_method_6_code 87 = .ok (.getfield 44, 3) := by decide +kernel
theorem d_Mo_act_90 : decode prog_10_method_6_code 90 = .ok (.iconst 1, 1) := by decide +kernel
theorem d_Mo_act_91 : decode prog_10_method_6_code 91 = .ok (.iadd, 1) := by decide +kernel
theorem d_Mo_act_92 : decode prog_10_method_6_code 92 = .ok (.putfield 44, 3) := by decide +kernel
theorem d_Mo_act_95 : decode prog_10_method_6_code 95 = .ok (.return_, 1) := by decide +kernel
theorem d_Mo_allGains_0 : decode prog_10_method_18_code 0 = .ok (.iconst 0, 1) := by decide +kernel
theorem d_Mo_allGains_1 : decode prog_10_method_18_code 1 = .ok (.istore_n 1, 1) := by decide +kernel
theorem d_Mo_allGains_2 : decode prog_10_method_18_code 2 = .ok (.iconst 0, 1) := by decide +kernel
theorem d_Mo_allGains_3 : decode prog_10_method_18_code 3 = .ok (.istore_n 2, 1) := by decide +kernel
theorem d_Mo_allGains_4 : decode prog_10_method_18_code 4 = .ok (.iload_n 2, 1) := by decide +kernel
theorem d_Mo_allGains_5 : decode prog_10_method_18_code 5 = .ok (.aload_n 0, 1) := by decide +kernel
theorem d_Mo_allGains_6 : decode prog_10_method_18_code 6 = .ok (.iconst 0, 1) := by decide +kernel
theorem d_Mo_allGains_7 : decode prog_10_method_18_code 7 = .ok (.invokevirtual 55, 3) := by decide +kernel
theorem d_Mo_allGains_10 : decode prog_10_method_18_code 10 = .ok (.if_icmp .gt 65, 3) := by decide +kernel
theorem d_Mo_allGains_13 : decode prog_10_method_18_code 13 = .ok (.iconst 0, 1) := by decide +kernel
theorem d_Mo_allGains_14 : decode prog_10_method_18_code 14 = .ok (.istore_n 3, 1) := by decide +kernel
theorem d_Mo_allGains_15 : decode prog_10_method_18_code 15 = .ok (.iload_n 3, 1) := by decide +kernel
theorem d_Mo_allGains_16 : decode prog_10_method_18_code 16 = .ok (.aload_n 0, 1) := by decide +kernel
theorem d_Mo_allGains_17 : decode prog_10_method_18_code 17 = .ok (.iconst 1, 1) := by decide +kernel
theorem d_Mo_allGains_18 : decode prog_10_method_18_code 18 = .ok (.invokevirtual 55, 3) := by decide +kernel
theorem d_Mo_allGains_21 : decode prog_10_method_18_code 21 = .ok (.if_icmp .gt 48, 3) := by decide +kernel
theorem d_Mo_allGains_24 : decode prog_10_method_18_code 24 = .ok (.iload_n 1, 1) := by decide +kernel
theorem d_Mo_allGains_25 : decode prog_10_method_18_code 25 = .ok (.aload_n 0, 1) := by decide +kernel
theorem d_Mo_allGains_26 : decode prog_10_method_18_code 26 = .ok (.getfield 7, 3) := by decide +kernel
theorem d_Mo_allGains_29 : decode prog_10_method_18_code 29 = .ok (.iload_n 2, 1) := by decide +kernel
theorem d_Mo_allGains_30 : decode prog_10_method_18_code 30 = .ok (.iload_n 3, 1) := by decide +kernel
theorem d_Mo_allGains_31 : decode prog_10_method_18_code 31 = .ok (.invokestatic 59, 3) := by decide +kernel
theorem d_Mo_allGains_34 : decode prog_10_method_18_code 34 = .ok (.iaload, 1) := by decide +kernel
theorem d_Mo_allGains_35 : decode prog_10_method_18_code 35 = .ok (.aload_n 0, 1) := by decide +kernel
theorem d_Mo_allGains_36 : decode prog_10_method_18_code 36 = .ok (.getfield 7, 3) := by decide +kernel
theorem d_Mo_allGains_39 : decode prog_10_method_18_code 39 = .ok (.iload_n 2, 1) := by decide +kernel
theorem d_Mo_allGains_40 : decode prog_10_method_18_code 40 = .ok (.iload_n 3, 1) := by decide +kernel
theorem d_Mo_allGains_41 : decode prog_10_method_18_code 41 = .ok (.invokestatic 59, 3) := by decide +kernel
theorem d_Mo_allGains_44 : decode prog_10_method_18_code 44 = .ok (.iconst 1, 1) := by decide +kernel
theorem d_Mo_allGains_45 : decode prog_10_method_18_code 45 = .ok (.iadd, 1) := by decide +kernel
theorem d_Mo_allGains_46 : decode prog_10_method_18_code 46 = .ok (.iaload, 1) := by decide +kernel
theorem d_Mo_allGains_47 : decode prog_10_method_18_code 47 = .ok (.iadd, 1) := by decide +kernel
theorem d_Mo_allGains_48 : decode prog_10_method_18_code 48 = .ok (.aload_n 0, 1) := by decide +kernel
theorem d_Mo_allGains_49 : decode prog_10_method_18_code 49 = .ok (.getfield 7, 3) := by decide +kernel
theorem d_Mo_allGains_52 : decode prog_10_method_18_code 52 = .ok (.iload_n 2, 1) := by decide +kernel
theorem d_Mo_allGains_53 : decode prog_10_method_18_code 53 = .ok (.iload_n 3, 1) := by decide +kernel
theorem d_Mo_allGains_54 : decode prog_10_method_18_code 54 = .ok (.invokestatic 59, 3) := by decide +kernel
theorem d_Mo_allGains_57 : decode prog_10_method_18_code 57 = .ok (.iconst 2, 1) := by decide +kernel
theorem d_Mo_allGains_58 : decode prog_10_method_18_code 58 = .ok (.iadd, 1) := by decide +kernel
theorem d_Mo_allGains_59 : decode prog_10_method_18_code 59 = .ok (.iaload, 1) := by decide +kernel
theorem d_Mo_allGains_60 : decode prog_10_method_18_code 60 = .ok (.iadd, 1) := by decide +kernel
theorem d_Mo_allGains_61 : decode prog_10_method_18_code 61 = .ok (.iadd, 1) := by decide +kernel
theorem d_Mo_allGains_62 : decode prog_10_method_18_code 62 = .ok (.istore_n 1, 1) := by decide +kernel
theorem d_Mo_allGains_63 : decode prog_10_method_18_code 63 = .ok (.iinc 3 1, 3) := by decide +kernel
theorem d_Mo_allGains_66 : decode prog_10_method_18_code 66 = .ok (.goto (-51), 3) := by decide +kernel
theorem d_Mo_allGains_69 : decode prog_10_method_18_code 69 = .ok (.iinc 2 1, 3) := by decide +kernel
theorem d_Mo_allGains_72 : decode prog_10_method_18_code 72 = .ok (.goto (-68), 3) := by decide +kernel
theorem d_Mo_allGains_75 : decode prog_10_method_18_code 75 = .ok (.iload_n 1, 1) := by decide +kernel
theorem d_Mo_allGains_76 : decode prog_10_method_18_code 76 = .ok (.ireturn, 1) := by decide +kernel
theorem d_Mo_at_0 : decode prog_10_method_15_code 0 = .ok (.bipush 38, 2) := by decide +kernel
theorem d_Mo_at_2 : decode prog_10_method_15_code 2 = .ok (.iconst 4, 1) := by decide +kernel
theorem d_Mo_at_3 : decode prog_10_method_15_code 3 = .ok (.bipush 7, 2) := by decide +kernel
theorem d_Mo_at_5 : decode prog_10_method_15_code 5 = .ok (.iload_n 0, 1) := by decide +kernel
theorem d_Mo_at_6 : decode prog_10_method_15_code 6 = .ok (.imul, 1) := by decide +kernel
theorem d_Mo_at_7 : decode prog_10_method_15_code 7 = .ok (.iload_n 1, 1) := by decide +kernel
theorem d_Mo_at_8 : decode prog_10_method_15_code 8 = .ok (.iadd, 1) := by decide +kernel
theorem d_Mo_at_9 : decode prog_10_method_15_code 9 = .ok (.imul, 1) := by decide +kernel
theorem d_Mo_at_10 : decode prog_10_method_15_code 10 = .ok (.iadd, 1) := by decide +kernel
theorem d_Mo_at_11 : decode prog_10_method_15_code 11 = .ok (.ireturn, 1) := by decide +kernel
theorem d_Mo_insert_0 : decode prog_10_method_34_code 0 = .ok (.aload_n 0, 1) := by decide +kernel
theorem d_Mo_insert_1 : decode prog_10_method_34_code 1 = .ok (.iload_n 1, 1) := by decide +kernel
theorem d_Mo_insert_2 : decode prog_10_method_34_code 2 = .ok (.invokevirtual 55, 3) := by decide +kernel
theorem d_Mo_insert_5 : decode prog_10_method_34_code 5 = .ok (.istore 5, 2) := by decide +kernel
theorem d_Mo_insert_7 : decode prog_10_method_34_code 7 = .ok (.iload 5, 2) := by decide +kernel
theorem d_Mo_insert_9 : decode prog_10_method_34_code 9 = .ok (.istore 6, 2) := by decide +kernel
theorem d_Mo_insert_11 : decode prog_10_method_34_code 11 = .ok (.iload 6, 2) := by decide +kernel
theorem d_Mo_insert_13 : decode prog_10_method_34_code 13 = .ok (.ifCond .le 60, 3) := by decide +kernel
theorem d_Mo_insert_16 : decode prog_10_method_34_code 16 = .ok (.aload_n 0, 1) := by decide +kernel
theorem d_Mo_insert_17 : decode prog_10_method_34_code 17 = .ok (.iload_n 1, 1) := by decide +kernel
theorem d_Mo_insert_18 : decode prog_10_method_34_code 18 = .ok (.iload 6, 2) := by decide +kernel
theorem d_Mo_insert_20 : decode prog_10_method_34_code 20 = .ok (.iconst 1, 1) := by decide +kernel
theorem d_Mo_insert_21 : decode prog_10_method_34_code 21 = .ok (.isub, 1) := by decide +kernel
theorem d_Mo_insert_22 : decode prog_10_method_34_code 22 = .ok (.iconst 0, 1) := by decide +kernel
theorem d_Mo_insert_23 : decode prog_10_method_34_code 23 = .ok (.invokevirtual 63, 3) := by decide +kernel
theorem d_Mo_insert_26 : decode prog_10_method_34_code 26 = .ok (.iload_n 2, 1) := by decide +kernel
theorem d_Mo_insert_27 : decode prog_10_method_34_code 27 = .ok (.if_icmp .le 46, 3) := by decide +kernel
theorem d_Mo_insert_30 : decode prog_10_method_34_code 30 = .ok (.aload_n 0, 1) := by decide +kernel
theorem d_Mo_insert_31 : decode prog_10_method_34_code 31 = .ok (.iload_n 1, 1) := by decide +kernel
theorem d_Mo_insert_32 : decode prog_10_method_34_code 32 = .ok (.iload 6, 2) := by decide +kernel
theorem d_Mo_insert_34 : decode prog_10_method_34_code 34 = .ok (.aload_n 0, 1) := by decide +kernel
theorem d_Mo_insert_35 : decode prog_10_method_34_code 35 = .ok (.iload_n 1, 1) := by decide +kernel
theorem d_Mo_insert_36 : decode prog_10_method_34_code 36 = .ok (.iload 6, 2) := by decide +kernel
theorem d_Mo_insert_38 : decode prog_10_method_34_code 38 = .ok (.iconst 1, 1) := by decide +kernel
theorem d_Mo_insert_39 : decode prog_10_method_34_code 39 = .ok (.isub, 1) := by decide +kernel
theorem d_Mo_insert_40 : decode prog_10_method_34_code 40 = .ok (.iconst 0, 1) := by decide +kernel
theorem d_Mo_insert_41 : decode prog_10_method_34_code 41 = .ok (.invokevirtual 63, 3) := by decide +kernel
theorem d_Mo_insert_44 : decode prog_10_method_34_code 44 = .ok (.aload_n 0, 1) := by decide +kernel
theorem d_Mo_insert_45 : decode prog_10_method_34_code 45 = .ok (.iload_n 1, 1) := by decide +kernel
theorem d_Mo_insert_46 : decode prog_10_method_34_code 46 = .ok (.iload 6, 2) := by decide +kernel
theorem d_Mo_insert_48 : decode prog_10_method_34_code 48 = .ok (.iconst 1, 1) := by decide +kernel
theorem d_Mo_insert_49 : decode prog_10_method_34_code 49 = .ok (.isub, 1) := by decide +kernel
theorem d_Mo_insert_50 : decode prog_10_method_34_code 50 = .ok (.iconst 1, 1) := by decide +kernel
theorem d_Mo_insert_51 : decode prog_10_method_34_code 51 = .ok (.invokevirtual 63, 3) := by decide +kernel
theorem d_Mo_insert_54 : decode prog_10_method_34_code 54 = .ok (.aload_n 0, 1) := by decide +kernel
theorem d_Mo_insert_55 : decode prog_10_method_34_code 55 = .ok (.iload_n 1, 1) := by decide +kernel
theorem d_Mo_insert_56 : decode prog_10_method_34_code 56 = .ok (.iload 6, 2) := by decide +kernel
theorem d_Mo_insert_58 : decode prog_10_method_34_code 58 = .ok (.iconst 1, 1) := by decide +kernel
theorem d_Mo_insert_59 : decode prog_10_method_34_code 59 = .ok (.isub, 1) := by decide +kernel
theorem d_Mo_insert_60 : decode prog_10_method_34_code 60 = .ok (.iconst 2, 1) := by decide +kernel
theorem d_Mo_insert_61 : decode prog_10_method_34_code 61 = .ok (.invokevirtual 63, 3) := by decide +kernel
theorem d_Mo_insert_64 : decode prog_10_method_34_code 64 = .ok (.invokevirtual 92, 3) := by decide +kernel
theorem d_Mo_insert_67 : decode prog_10_method_34_code 67 = .ok (.iinc 6 (-1), 3) := by decide +kernel
theorem d_Mo_insert_70 : decode prog_10_method_34_code 70 = .ok (.goto (-59), 3) := by decide +kernel
theorem d_Mo_insert_73 : decode prog_10_method_34_code 73 = .ok (.aload_n 0, 1) := by decide +kernel
theorem d_Mo_insert_74 : decode prog_10_method_34_code 74 = .ok (.iload_n 1, 1) := by decide +kernel
theorem d_Mo_insert_75 : decode prog_10_method_34_code 75 = .ok (.iload 6, 2) := by decide +kernel
theorem d_Mo_insert_77 : decode prog_10_method_34_code 77 = .ok (.iload_n 2, 1) := by decide +kernel
theorem d_Mo_insert_78 : decode prog_10_method_34_code 78 = .ok (.iload_n 3, 1) := by decide +kernel
theorem d_Mo_insert_79 : decode prog_10_method_34_code 79 = .ok (.iload 4, 2) := by decide +kernel
theorem d_Mo_insert_81 : decode prog_10_method_34_code 81 = .ok (.invokevirtual 92, 3) := by decide +kernel
theorem d_Mo_insert_84 : decode prog_10_method_34_code 84 = .ok (.iload 5, 2) := by decide +kernel
theorem d_Mo_insert_86 : decode prog_10_method_34_code 86 = .ok (.istore 7, 2) := by decide +kernel
theorem d_Mo_insert_88 : decode prog_10_method_34_code 88 = .ok (.iload 7, 2) := by decide +kernel
theorem d_Mo_insert_90 : decode prog_10_method_34_code 90 = .ok (.iload 6, 2) := by decide +kernel
theorem d_Mo_insert_92 : decode prog_10_method_34_code 92 = .ok (.if_icmp .lt 20, 3) := by decide +kernel
theorem d_Mo_insert_95 : decode prog_10_method_34_code 95 = .ok (.aload_n 0, 1) := by decide +kernel
theorem d_Mo_insert_96 : decode prog_10_method_34_code 96 = .ok (.iload_n 1, 1) := by decide +kernel
theorem d_Mo_insert_97 : decode prog_10_method_34_code 97 = .ok (.iload 7, 2) := by decide +kernel
theorem d_Mo_insert_99 : decode prog_10_method_34_code 99 = .ok (.iload 7, 2) := by decide +kernel
theorem d_Mo_insert_101 : decode prog_10_method_34_code 101 = .ok (.iconst 1, 1) := by decide +kernel
theorem d_Mo_insert_102 : decode prog_10_method_34_code 102 = .ok (.iadd, 1) := by decide +kernel
theorem d_Mo_insert_103 : decode prog_10_method_34_code 103 = .ok (.invokevirtual 96, 3) := by decide +kernel
theorem d_Mo_insert_106 : decode prog_10_method_34_code 106 = .ok (.iinc 7 (-1), 3) := by decide +kernel
theorem d_Mo_insert_109 : decode prog_10_method_34_code 109 = .ok (.goto (-21), 3) := by decide +kernel
theorem d_Mo_insert_112 : decode prog_10_method_34_code 112 = .ok (.aload_n 0, 1) := by decide +kernel
theorem d_Mo_insert_113 : decode prog_10_method_34_code 113 = .ok (.getfield 7, 3) := by decide +kernel
theorem d_Mo_insert_116 : decode prog_10_method_34_code 116 = .ok (.iconst 0, 1) := by decide +kernel
theorem d_Mo_insert_117 : decode prog_10_method_34_code 117 = .ok (.bipush 19, 2) := by decide +kernel
theorem d_Mo_insert_119 : decode prog_10_method_34_code 119 = .ok (.iload_n 1, 1) := by decide +kernel
theorem d_Mo_insert_120 : decode prog_10_method_34_code 120 = .ok (.imul, 1) := by decide +kernel
theorem d_Mo_insert_121 : decode prog_10_method_34_code 121 = .ok (.iadd, 1) := by decide +kernel
theorem d_Mo_insert_122 : decode prog_10_method_34_code 122 = .ok (.dup2, 1) := by decide +kernel
theorem d_Mo_insert_123 : decode prog_10_method_34_code 123 = .ok (.iaload, 1) := by decide +kernel
theorem d_Mo_insert_124 : decode prog_10_method_34_code 124 = .ok (.iconst 1, 1) := by decide +kernel
theorem d_Mo_insert_125 : decode prog_10_method_34_code 125 = .ok (.iadd, 1) := by decide +kernel
theorem d_Mo_insert_126 : decode prog_10_method_34_code 126 = .ok (.iastore, 1) := by decide +kernel
theorem d_Mo_insert_127 : decode prog_10_method_34_code 127 = .ok (.iload 6, 2) := by decide +kernel
theorem d_Mo_insert_129 : decode prog_10_method_34_code 129 = .ok (.ireturn, 1) := by decide +kernel
theorem d_Mo_setBorder_0 : decode prog_10_method_13_code 0 = .ok (.iconst 0, 1) := by decide +kernel
theorem d_Mo_setBorder_1 : decode prog_10_method_13_code 1 = .ok (.bipush 19, 2) := by decide +kernel
theorem d_Mo_setBorder_3 : decode prog_10_method_13_code 3 = .ok (.iload_n 1, 1) := by decide +kernel
theorem d_Mo_setBorder_4 : decode prog_10_method_13_code 4 = .ok (.imul, 1) := by decide +kernel
theorem d_Mo_setBorder_5 : decode prog_10_method_13_code 5 = .ok (.iadd, 1) := by decide +kernel
theorem d_Mo_setBorder_6 : decode prog_10_method_13_code 6 = .ok (.iconst 1, 1) := by decide +kernel
theorem d_Mo_setBorder_7 : decode prog_10_method_13_code 7 = .ok (.iadd, 1) := by decide +kernel
theorem d_Mo_setBorder_8 : decode prog_10_method_13_code 8 = .ok (.iconst 3, 1) := by decide +kernel
theorem d_Mo_setBorder_9 : decode prog_10_method_13_code 9 = .ok (.iload_n 2, 1) := by decide +kernel
theorem d_Mo_setBorder_10 : decode prog_10_method_13_code 10 = .ok (.imul, 1) := by decide +kernel
theorem d_Mo_setBorder_11 : decode prog_10_method_13_code 11 = .ok (.iadd, 1) := by decide +kernel
theorem d_Mo_setBorder_12 : decode prog_10_method_13_code 12 = .ok (.istore 6, 2) := by decide +kernel
theorem d_Mo_setBorder_14 : decode prog_10_method_13_code 14 = .ok (.aload_n 0, 1) := by decide +kernel
theorem d_Mo_setBorder_15 : decode prog_10_method_13_code 15 = .ok (.getfield 7, 3) := by decide +kernel
theorem d_Mo_setBorder_18 : decode prog_10_method_13_code 18 = .ok (.iload 6, 2) := by decide +kernel
theorem d_Mo_setBorder_20 : decode prog_10_method_13_code 20 = .ok (.iconst 0, 1) := by decide +kernel
theorem d_Mo_setBorder_21 : decode prog_10_method_13_code 21 = .ok (.iadd, 1) := by decide +kernel
theorem d_Mo_setBorder_22 : decode prog_10_method_13_code 22 = .ok (.iload_n 3, 1) := by decide +kernel
theorem d_Mo_setBorder_23 : decode prog_10_method_13_code 23 = .ok (.iastore, 1) := by decide +kernel
theorem d_Mo_setBorder_24 : decode prog_10_method_13_code 24 = .ok (.aload_n 0, 1) := by decide +kernel
theorem d_Mo_setBorder_25 : decode prog_10_method_13_code 25 = .ok (.getfield 7, 3) := by decide +kernel
theorem d_Mo_setBorder_28 : decode prog_10_method_13_code 28 = .ok (.iload 6, 2) := by decide +kernel
theorem d_Mo_setBorder_30 : decode prog_10_method_13_code 30 = .ok (.iconst 1, 1) := by decide +kernel
theorem d_Mo_setBorder_31 : decode prog_10_method_13_code 31 = .ok (.iadd, 1) := by decide +kernel
theorem d_Mo_setBorder_32 : decode prog_10_method_13_code 32 = .ok (.iload 4, 2) := by decide +kernel
theorem d_Mo_setBorder_34 : decode prog_10_method_13_code 34 = .ok (.iastore, 1) := by decide +kernel
theorem d_Mo_setBorder_35 : decode prog_10_method_13_code 35 = .ok (.aload_n 0, 1) := by decide +kernel
theorem d_Mo_setBorder_36 : decode prog_10_method_13_code 36 = .ok (.getfield 7, 3) := by decide +kernel
theorem d_Mo_setBorder_39 : decode prog_10_method_13_code 39 = .ok (.iload 6, 2) := by decide +kernel
theorem d_Mo_setBorder_41 : decode prog_10_method_13_code 41 = .ok (.iconst 2, 1) := by decide +kernel
theorem d_Mo_setBorder_42 : decode prog_10_method_13_code 42 = .ok (.iadd, 1) := by decide +kernel
theorem d_Mo_setBorder_43 : decode prog_10_method_13_code 43 = .ok (.iload 5, 2) := by decide +kernel
theorem d_Mo_setBorder_45 : decode prog_10_method_13_code 45 = .ok (.iastore, 1) := by decide +kernel
theorem d_Mo_setBorder_46 : decode prog_10_method_13_code 46 = .ok (.return_, 1) := by decide +kernel
theorem d_Mo_copyStrip_0 : decode prog_10_method_33_code 0 = .ok (.iconst 0, 1) := by decide +kernel
theorem d_Mo_copyStrip_1 : decode prog_10_method_33_code 1 = .ok (.istore 4, 2) := by decide +kernel
theorem d_Mo_copyStrip_3 : decode prog_10_method_33_code 3 = .ok (.iload 4, 2) := by decide +kernel
theorem d_Mo_copyStrip_5 : decode prog_10_method_33_code 5 = .ok (.bipush 7, 2) := by decide +kernel
theorem d_Mo_copyStrip_7 : decode prog_10_method_33_code 7 = .ok (.if_icmp .ge 53, 3) := by decide +kernel
theorem d_Mo_copyStrip_10 : decode prog_10_method_33_code 10 = .ok (.aload_n 0, 1) := by decide +kernel
theorem d_Mo_copyStrip_11 : decode prog_10_method_33_code 11 = .ok (.iload_n 1, 1) := by decide +kernel
theorem d_Mo_copyStrip_12 : decode prog_10_method_33_code 12 = .ok (.ifCond .ne 7, 3) := by decide +kernel
theorem d_Mo_copyStrip_15 : decode prog_10_method_33_code 15 = .ok (.iload_n 2, 1) := by decide +kernel
theorem d_Mo_copyStrip_16 : decode prog_10_method_33_code 16 = .ok (.goto 5, 3) := by decide +kernel
theorem d_Mo_copyStrip_19 : decode prog_10_method_33_code 19 = .ok (.iload 4, 2) := by decide +kernel
theorem d_Mo_copyStrip_21 : decode prog_10_method_33_code 21 = .ok (.iload_n 1, 1) := by decide +kernel
theorem d_Mo_copyStrip_22 : decode prog_10_method_33_code 22 = .ok (.ifCond .ne 8, 3) := by decide +kernel
theorem d_Mo_copyStrip_25 : decode prog_10_method_33_code 25 = .ok (.iload 4, 2) := by decide +kernel
theorem d_Mo_copyStrip_27 : decode prog_10_method_33_code 27 = .ok (.goto 4, 3) := by decide +kernel
theorem d_Mo_copyStrip_30 : decode prog_10_method_33_code 30 = .ok (.iload_n 2, 1) := by decide +kernel
theorem d_Mo_copyStrip_31 : decode prog_10_method_33_code 31 = .ok (.iload_n 1, 1) := by decide +kernel
theorem d_Mo_copyStrip_32 : decode prog_10_method_33_code 32 = .ok (.ifCond .ne 7, 3) := by decide +kernel
theorem d_Mo_copyStrip_35 : decode prog_10_method_33_code 35 = .ok (.iload_n 3, 1) := by decide +kernel
theorem d_Mo_copyStrip_36 : decode prog_10_method_33_code 36 = .ok (.goto 5, 3) := by decide +kernel
theorem d_Mo_copyStrip_39 : decode prog_10_method_33_code 39 = .ok (.iload 4, 2) := by decide +kernel
theorem d_Mo_copyStrip_41 : decode prog_10_method_33_code 41 = .ok (.iload_n 1, 1) := by decide +kernel
theorem d_Mo_copyStrip_42 : decode prog_10_method_33_code 42 = .ok (.ifCond .ne 8, 3) := by decide +kernel
theorem d_Mo_copyStrip_45 : decode prog_10_method_33_code 45 = .ok (.iload 4, 2) := by decide +kernel
theorem d_Mo_copyStrip_47 : decode prog_10_method_33_code 47 = .ok (.goto 4, 3) := by decide +kernel
theorem d_Mo_copyStrip_50 : decode prog_10_method_33_code 50 = .ok (.iload_n 3, 1) := by decide +kernel
theorem d_Mo_copyStrip_51 : decode prog_10_method_33_code 51 = .ok (.invokevirtual 88, 3) := by decide +kernel
theorem d_Mo_copyStrip_54 : decode prog_10_method_33_code 54 = .ok (.iinc 4 1, 3) := by decide +kernel
theorem d_Mo_copyStrip_57 : decode prog_10_method_33_code 57 = .ok (.goto (-54), 3) := by decide +kernel
theorem d_Mo_copyStrip_60 : decode prog_10_method_33_code 60 = .ok (.return_, 1) := by decide +kernel
theorem d_Mo_copyRegion_0 : decode prog_10_method_32_code 0 = .ok (.iconst 0, 1) := by decide +kernel
theorem d_Mo_copyRegion_1 : decode prog_10_method_32_code 1 = .ok (.istore 5, 2) := by decide +kernel
theorem d_Mo_copyRegion_3 : decode prog_10_method_32_code 3 = .ok (.iload 5, 2) := by decide +kernel
theorem d_Mo_copyRegion_5 : decode prog_10_method_32_code 5 = .ok (.iconst 4, 1) := by decide +kernel
theorem d_Mo_copyRegion_6 : decode prog_10_method_32_code 6 = .ok (.if_icmp .ge 36, 3) := by decide +kernel
theorem d_Mo_copyRegion_9 : decode prog_10_method_32_code 9 = .ok (.aload_n 0, 1) := by decide +kernel
theorem d_Mo_copyRegion_10 : decode prog_10_method_32_code 10 = .ok (.getfield 7, 3) := by decide +kernel
theorem d_Mo_copyRegion_13 : decode prog_10_method_32_code 13 = .ok (.iload_n 3, 1) := by decide +kernel
theorem d_Mo_copyRegion_14 : decode prog_10_method_32_code 14 = .ok (.iload 4, 2) := by decide +kernel
theorem d_Mo_copyRegion_16 : decode prog_10_method_32_code 16 = .ok (.invokestatic 59, 3) := by decide +kernel
theorem d_Mo_copyRegion_19 : decode prog_10_method_32_code 19 = .ok (.iload 5, 2) := by decide +kernel
theorem d_Mo_copyRegion_21 : decode prog_10_method_32_code 21 = .ok (.iadd, 1) := by decide +kernel
theorem d_Mo_copyRegion_22 : decode prog_10_method_32_code 22 = .ok (.aload_n 0, 1) := by decide +kernel
theorem d_Mo_copyRegion_23 : decode prog_10_method_32_code 23 = .ok (.getfield 7, 3) := by decide +kernel
theorem d_Mo_copyRegion_26 : decode prog_10_method_32_code 26 = .ok (.iload_n 1, 1) := by decide +kernel
theorem d_Mo_copyRegion_27 : decode prog_10_method_32_code 27 = .ok (.iload_n 2, 1) := by decide +kernel
theorem d_Mo_copyRegion_28 : decode prog_10_method_32_code 28 = .ok (.invokestatic 59, 3) := by decide +kernel
theorem d_Mo_copyRegion_31 : decode prog_10_method_32_code 31 = .ok (.iload 5, 2) := by decide +kernel
theorem d_Mo_copyRegion_33 : decode prog_10_method_32_code 33 = .ok (.iadd, 1) := by decide +kernel
theorem d_Mo_copyRegion_34 : decode prog_10_method_32_code 34 = .ok (.iaload, 1) := by decide +kernel
theorem d_Mo_copyRegion_35 : decode prog_10_method_32_code 35 = .ok (.iastore, 1) := by decide +kernel
theorem d_Mo_copyRegion_36 : decode prog_10_method_32_code 36 = .ok (.iinc 5 1, 3) := by decide +kernel
theorem d_Mo_copyRegion_39 : decode prog_10_method_32_code 39 = .ok (.goto (-36), 3) := by decide +kernel
theorem d_Mo_copyRegion_42 : decode prog_10_method_32_code 42 = .ok (.return_, 1) := by decide +kernel
theorem d_Mo_settle_0 : decode prog_10_method_35_code 0 = .ok (.aload_n 0, 1) := by decide +kernel
theorem d_Mo_settle_1 : decode prog_10_method_35_code 1 = .ok (.getfield 7, 3) := by decide +kernel
theorem d_Mo_settle_4 : decode prog_10_method_35_code 4 = .ok (.sipush 253, 3) := by decide +kernel
theorem d_Mo_settle_7 : decode prog_10_method_35_code 7 = .ok (.dup2, 1) := by decide +kernel
theorem d_Mo_settle_8 : decode prog_10_method_35_code 8 = .ok (.iaload, 1) := by decide +kernel
theorem d_Mo_settle_9 : decode prog_10_method_35_code 9 = .ok (.aload_n 0, 1) := by decide +kernel
theorem d_Mo_settle_10 : decode prog_10_method_35_code 10 = .ok (.invokevirtual 99, 3) := by decide +kernel
theorem d_Mo_settle_13 : decode prog_10_method_35_code 13 = .ok (.iload_n 1, 1) := by decide +kernel
theorem d_Mo_settle_14 : decode prog_10_method_35_code 14 = .ok (.isub, 1) := by decide +kernel
theorem d_Mo_settle_15 : decode prog_10_method_35_code 15 = .ok (.iadd, 1) := by decide +kernel
theorem d_Mo_settle_16 : decode prog_10_method_35_code 16 = .ok (.iastore, 1) := by decide +kernel
theorem d_Mo_settle_17 : decode prog_10_method_35_code 17 = .ok (.aload_n 0, 1) := by decide +kernel
theorem d_Mo_settle_18 : decode prog_10_method_35_code 18 = .ok (.invokevirtual 102, 3) := by decide +kernel
theorem d_Mo_settle_21 : decode prog_10_method_35_code 21 = .ok (.return_, 1) := by decide +kernel
theorem d_Mo_findZones_0 : decode prog_10_method_22_code 0 = .ok (.aload_n 0, 1) := by decide +kernel
theorem d_Mo_findZones_1 : decode prog_10_method_22_code 1 = .ok (.getfield 7, 3) := by decide +kernel
theorem d_Mo_findZones_4 : decode prog_10_method_22_code 4 = .ok (.sipush 236, 3) := by decide +kernel
theorem d_Mo_findZones_7 : decode prog_10_method_22_code 7 = .ok (.aload_n 0, 1) := by decide +kernel
theorem d_Mo_findZones_8 : decode prog_10_method_22_code 8 = .ok (.iconst 0, 1) := by decide +kernel
theorem d_Mo_findZones_9 : decode prog_10_method_22_code 9 = .ok (.aload_n 0, 1) := by decide +kernel
theorem d_Mo_findZones_10 : decode prog_10_method_22_code 10 = .ok (.getfield 7, 3) := by decide +kernel
theorem d_Mo_findZones_13 : decode prog_10_method_22_code 13 = .ok (.sipush 234, 3) := by decide +kernel
theorem d_Mo_findZones_16 : decode prog_10_method_22_code 16 = .ok (.iaload, 1) := by decide +kernel
theorem d_Mo_findZones_17 : decode prog_10_method_22_code 17 = .ok (.invokevirtual 68, 3) := by decide +kernel
theorem d_Mo_findZones_20 : decode prog_10_method_22_code 20 = .ok (.iastore, 1) := by decide +kernel
theorem d_Mo_findZones_21 : decode prog_10_method_22_code 21 = .ok (.aload_n 0, 1) := by decide +kernel
theorem d_Mo_findZones_22 : decode prog_10_method_22_code 22 = .ok (.getfield 7, 3) := by decide +kernel
theorem d_Mo_findZones_25 : decode prog_10_method_22_code 25 = .ok (.sipush 237, 3) := by decide +kernel
theorem d_Mo_findZones_28 : decode prog_10_method_22_code 28 = .ok (.aload_n 0, 1) := by decide +kernel
theorem d_Mo_findZones_29 : decode prog_10_method_22_code 29 = .ok (.iconst 1, 1) := by decide +kernel
theorem d_Mo_findZones_30 : decode prog_10_method_22_code 30 = .ok (.aload_n 0, 1) := by decide +kernel
theorem d_Mo_findZones_31 : decode prog_10_method_22_code 31 = .ok (.getfield 7, 3) := by decide +kernel
theorem d_Mo_findZones_34 : decode prog_10_method_22_code 34 = .ok (.sipush 235, 3) := by decide +kernel
theorem d_Mo_findZones_37 : decode prog_10_method_22_code 37 = .ok (.iaload, 1) := by decide +kernel
theorem d_Mo_findZones_38 : decode prog_10_method_22_code 38 = .ok (.invokevirtual 68, 3) := by decide +kernel
theorem d_Mo_findZones_41 : decode prog_10_method_22_code 41 = .ok (.iastore, 1) := by decide +kernel
theorem d_Mo_findZones_42 : decode prog_10_method_22_code 42 = .ok (.return_, 1) := by decide +kernel
theorem d_Mo_zoneOf_0 : decode prog_10_method_21_code 0 = .ok (.iconst 0, 1) := by decide +kernel
theorem d_Mo_zoneOf_1 : decode prog_10_method_21_code 1 = .ok (.istore_n 3, 1) := by decide +kernel
theorem d_Mo_zoneOf_2 : decode prog_10_method_21_code 2 = .ok (.iconst 0, 1) := by decide +kernel
theorem d_Mo_zoneOf_3 : decode prog_10_method_21_code 3 = .ok (.istore 4, 2) := by decide +kernel
theorem d_Mo_zoneOf_5 : decode prog_10_method_21_code 5 = .ok (.iload 4, 2) := by decide +kernel
theorem d_Mo_zoneOf_7 : decode prog_10_method_21_code 7 = .ok (.aload_n 0, 1) := by decide +kernel
theorem d_Mo_zoneOf_8 : decode prog_10_method_21_code 8 = .ok (.iload_n 1, 1) := by decide +kernel
theorem d_Mo_zoneOf_9 : decode prog_10_method_21_code 9 = .ok (.invokevirtual 55, 3) := by decide +kernel
theorem d_Mo_zoneOf_12 : decode prog_10_method_21_code 12 = .ok (.if_icmp .ge 40, 3) := by decide +kernel
theorem d_Mo_zoneOf_15 : decode prog_10_method_21_code 15 = .ok (.iload_n 3, 1) := by decide +kernel
theorem d_Mo_zoneOf_16 : decode prog_10_method_21_code 16 = .ok (.aload_n 0, 1) := by decide +kernel
theorem d_Mo_zoneOf_17 : decode prog_10_method_21_code 17 = .ok (.iload_n 1, 1) := by decide +kernel
theorem d_Mo_zoneOf_18 : decode prog_10_method_21_code 18 = .ok (.iload 4, 2) := by decide +kernel
theorem d_Mo_zoneOf_20 : decode prog_10_method_21_code 20 = .ok (.iconst 1, 1) := by decide +kernel
theorem d_Mo_zoneOf_21 : decode prog_10_method_21_code 21 = .ok (.invokevirtual 63, 3) := by decide +kernel
theorem d_Mo_zoneOf_24 : decode prog_10_method_21_code 24 = .ok (.ifCond .ne 19, 3) := by decide +kernel
theorem d_Mo_zoneOf_27 : decode prog_10_method_21_code 27 = .ok (.aload_n 0, 1) := by decide +kernel
theorem d_Mo_zoneOf_28 : decode prog_10_method_21_code 28 = .ok (.iload_n 1, 1) := by decide +kernel
theorem d_Mo_zoneOf_29 : decode prog_10_method_21_code 29 = .ok (.iload 4, 2) := by decide +kernel
theorem d_Mo_zoneOf_31 : decode prog_10_method_21_code 31 = .ok (.iconst 0, 1) := by decide +kernel
theorem d_Mo_zoneOf_32 : decode prog_10_method_21_code 32 = .ok (.invokevirtual 63, 3) := by decide +kernel
theorem d_Mo_zoneOf_35 : decode prog_10_method_21_code 35 = .ok (.iload_n 2, 1) := by decide +kernel
theorem d_Mo_zoneOf_36 : decode prog_10_method_21_code 36 = .ok (.if_icmp .gt 7, 3) := by decide +kernel
theorem d_Mo_zoneOf_39 : decode prog_10_method_21_code 39 = .ok (.iconst 1, 1) := by decide +kernel
theorem d_Mo_zoneOf_40 : decode prog_10_method_21_code 40 = .ok (.goto 4, 3) := by decide +kernel
theorem d_Mo_zoneOf_43 : decode prog_10_method_21_code 43 = .ok (.iconst 0, 1) := by decide +kernel
theorem d_Mo_zoneOf_44 : decode prog_10_method_21_code 44 = .ok (.iadd, 1) := by decide +kernel
theorem d_Mo_zoneOf_45 : decode prog_10_method_21_code 45 = .ok (.istore_n 3, 1) := by decide +kernel
theorem d_Mo_zoneOf_46 : decode prog_10_method_21_code 46 = .ok (.iinc 4 1, 3) := by decide +kernel
theorem d_Mo_zoneOf_49 : decode prog_10_method_21_code 49 = .ok (.goto (-44), 3) := by decide +kernel
theorem d_Mo_zoneOf_52 : decode prog_10_method_21_code 52 = .ok (.iload_n 3, 1) := by decide +kernel
theorem d_Mo_zoneOf_53 : decode prog_10_method_21_code 53 = .ok (.ireturn, 1) := by decide +kernel
theorem d_Mo_removeBorder_0 : decode prog_10_method_37_code 0 = .ok (.aload_n 0, 1) := by decide +kernel
theorem d_Mo_removeBorder_1 : decode prog_10_method_37_code 1 = .ok (.iconst 0, 1) := by decide +kernel
theorem d_Mo_removeBorder_2 : decode prog_10_method_37_code 2 = .ok (.putfield 37, 3) := by decide +kernel
theorem d_Mo_removeBorder_5 : decode prog_10_method_37_code 5 = .ok (.aload_n 0, 1) := by decide +kernel
theorem d_Mo_removeBorder_6 : decode prog_10_method_37_code 6 = .ok (.iload_n 1, 1) := by decide +kernel
theorem d_Mo_removeBorder_7 : decode prog_10_method_37_code 7 = .ok (.iload_n 2, 1) := by decide +kernel
theorem d_Mo_removeBorder_8 : decode prog_10_method_37_code 8 = .ok (.invokevirtual 130, 3) := by decide +kernel
theorem d_Mo_removeBorder_11 : decode prog_10_method_37_code 11 = .ok (.ifCond .ne 6, 3) := by decide +kernel
theorem d_Mo_removeBorder_14 : decode prog_10_method_37_code 14 = .ok (.ldc 112, 2) := by decide +kernel
theorem d_Mo_removeBorder_16 : decode prog_10_method_37_code 16 = .ok (.ireturn, 1) := by decide +kernel
theorem d_Mo_removeBorder_17 : decode prog_10_method_37_code 17 = .ok (.aload_n 0, 1) := by decide +kernel
theorem d_Mo_removeBorder_18 : decode prog_10_method_37_code 18 = .ok (.invokevirtual 119, 3) := by decide +kernel
theorem d_Mo_removeBorder_21 : decode prog_10_method_37_code 21 = .ok (.aload_n 0, 1) := by decide +kernel
theorem d_Mo_removeBorder_22 : decode prog_10_method_37_code 22 = .ok (.invokevirtual 99, 3) := by decide +kernel
theorem d_Mo_removeBorder_25 : decode prog_10_method_37_code 25 = .ok (.istore_n 3, 1) := by decide +kernel
theorem d_Mo_removeBorder_26 : decode prog_10_method_37_code 26 = .ok (.aload_n 0, 1) := by decide +kernel
theorem d_Mo_removeBorder_27 : decode prog_10_method_37_code 27 = .ok (.iload_n 1, 1) := by decide +kernel
theorem d_Mo_removeBorder_28 : decode prog_10_method_37_code 28 = .ok (.invokevirtual 55, 3) := by decide +kernel
theorem d_Mo_removeBorder_31 : decode prog_10_method_37_code 31 = .ok (.istore 4, 2) := by decide +kernel
theorem d_Mo_removeBorder_33 : decode prog_10_method_37_code 33 = .ok (.iload_n 2, 1) := by decide +kernel
theorem d_Mo_removeBorder_34 : decode prog_10_method_37_code 34 = .ok (.istore 5, 2) := by decide +kernel
theorem d_Mo_removeBorder_36 : decode prog_10_method_37_code 36 = .ok (.iload 5, 2) := by decide +kernel
theorem d_Mo_removeBorder_38 : decode prog_10_method_37_code 38 = .ok (.iconst 1, 1) := by decide +kernel
theorem d_Mo_removeBorder_39 : decode prog_10_method_37_code 39 = .ok (.iadd, 1) := by decide +kernel
theorem d_Mo_removeBorder_40 : decode prog_10_method_37_code 40 = .ok (.iload 4, 2) := by decide +kernel
theorem d_Mo_removeBorder_42 : decode prog_10_method_37_code 42 = .ok (.if_icmp .ge 46, 3) := by decide +kernel
theorem d_Mo_removeBorder_45 : decode prog_10_method_37_code 45 = .ok (.aload_n 0, 1) := by decide +kernel
theorem d_Mo_removeBorder_46 : decode prog_10_method_37_code 46 = .ok (.iload_n 1, 1) := by decide +kernel
theorem d_Mo_removeBorder_47 : decode prog_10_method_37_code 47 = .ok (.iload 5, 2) := by decide +kernel
theorem d_Mo_removeBorder_49 : decode prog_10_method_37_code 49 = .ok (.aload_n 0, 1) := by decide +kernel
theorem d_Mo_removeBorder_50 : decode prog_10_method_37_code 50 = .ok (.iload_n 1, 1) := by decide +kernel
theorem d_Mo_removeBorder_51 : decode prog_10_method_37_code 51 = .ok (.iload 5, 2) := by decide +kernel
theorem d_Mo_removeBorder_53 : decode prog_10_method_37_code 53 = .ok (.iconst 1, 1) := by decide +kernel
theorem d_Mo_removeBorder_54 : decode prog_10_method_37_code 54 = .ok (.iadd, 1) := by decide +kernel
theorem d_Mo_removeBorder_55 : decode prog_10_method_37_code 55 = .ok (.iconst 0, 1) := by decide +kernel
theorem d_Mo_removeBorder_56 : decode prog_10_method_37_code 56 = .ok (.invokevirtual 63, 3) := by decide +kernel
theorem d_Mo_removeBorder_59 : decode prog_10_method_37_code 59 = .ok (.aload_n 0, 1) := by decide +kernel
theorem d_Mo_removeBorder_60 : decode prog_10_method_37_code 60 = .ok (.iload_n 1, 1) := by decide +kernel
theorem d_Mo_removeBorder_61 : decode prog_10_method_37_code 61 = .ok (.iload 5, 2) := by decide +kernel
theorem d_Mo_removeBorder_63 : decode prog_10_method_37_code 63 = .ok (.iconst 1, 1) := by decide +kernel
theorem d_Mo_removeBorder_64 : decode prog_10_method_37_code 64 = .ok (.iadd, 1) := by decide +kernel
theorem d_Mo_removeBorder_65 : decode prog_10_method_37_code 65 = .ok (.iconst 1, 1) := by decide +kernel
theorem d_Mo_removeBorder_66 : decode prog_10_method_37_code 66 = .ok (.invokevirtual 63, 3) := by decide +kernel
theorem d_Mo_removeBorder_69 : decode prog_10_method_37_code 69 = .ok (.aload_n 0, 1) := by decide +kernel
theorem d_Mo_removeBorder_70 : decode prog_10_method_37_code 70 = .ok (.iload_n 1, 1) := by decide +kernel
theorem d_Mo_removeBorder_71 : decode prog_10_method_37_code 71 = .ok (.iload 5, 2) := by decide +kernel
theorem d_Mo_removeBorder_73 : decode prog_10_method_37_code 73 = .ok (.iconst 1, 1) := by decide +kernel
theorem d_Mo_removeBorder_74 : decode prog_10_method_37_code 74 = .ok (.iadd, 1) := by decide +kernel
theorem d_Mo_removeBorder_75 : decode prog_10_method_37_code 75 = .ok (.iconst 2, 1) := by decide +kernel
theorem d_Mo_removeBorder_76 : decode prog_10_method_37_code 76 = .ok (.invokevirtual 63, 3) := by decide +kernel
theorem d_Mo_removeBorder_79 : decode prog_10_method_37_code 79 = .ok (.invokevirtual 92, 3) := by decide +kernel
theorem d_Mo_removeBorder_82 : decode prog_10_method_37_code 82 = .ok (.iinc 5 1, 3) := by decide +kernel
theorem d_Mo_removeBorder_85 : decode prog_10_method_37_code 85 = .ok (.goto (-49), 3) := by decide +kernel
theorem d_Mo_removeBorder_88 : decode prog_10_method_37_code 88 = .ok (.iload_n 2, 1) := by decide +kernel
theorem d_Mo_removeBorder_89 : decode prog_10_method_37_code 89 = .ok (.iconst 1, 1) := by decide +kernel
theorem d_Mo_removeBorder_90 : decode prog_10_method_37_code 90 = .ok (.iadd, 1) := by decide +kernel
theorem d_Mo_removeBorder_91 : decode prog_10_method_37_code 91 = .ok (.istore 5, 2) := by decide +kernel
theorem d_Mo_removeBorder_93 : decode prog_10_method_37_code 93 = .ok (.iload 5, 2) := by decide +kernel
theorem d_Mo_removeBorder_95 : decode prog_10_method_37_code 95 = .ok (.iload 4, 2) := by decide +kernel
theorem d_Mo_removeBorder_97 : decode prog_10_method_37_code 97 = .ok (.if_icmp .ge 20, 3) := by decide +kernel
theorem d_Mo_removeBorder_100 : decode prog_10_method_37_code 100 = .ok (.aload_n 0, 1) := by decide +kernel
theorem d_Mo_removeBorder_101 : decode prog_10_method_37_code 101 = .ok (.iload_n 1, 1) := by decide +kernel
theorem d_Mo_removeBorder_102 : decode prog_10_method_37_code 102 = .ok (.iload 5, 2) := by decide +kernel
theorem d_Mo_removeBorder_104 : decode prog_10_method_37_code 104 = .ok (.iconst 1, 1) := by decide +kernel
theorem d_Mo_removeBorder_105 : decode prog_10_method_37_code 105 = .ok (.iadd, 1) := by decide +kernel
theorem d_Mo_removeBorder_106 : decode prog_10_method_37_code 106 = .ok (.iload 5, 2) := by decide +kernel
theorem d_Mo_removeBorder_108 : decode prog_10_method_37_code 108 = .ok (.invokevirtual 96, 3) := by decide +kernel
theorem d_Mo_removeBorder_111 : decode prog_10_method_37_code 111 = .ok (.iinc 5 1, 3) := by decide +kernel
theorem d_Mo_removeBorder_114 : decode prog_10_method_37_code 114 = .ok (.goto (-21), 3) := by decide +kernel
theorem d_Mo_removeBorder_117 : decode prog_10_method_37_code 117 = .ok (.aload_n 0, 1) := by decide +kernel
theorem d_Mo_removeBorder_118 : decode prog_10_method_37_code 118 = .ok (.getfield 7, 3) := by decide +kernel
theorem d_Mo_removeBorder_121 : decode prog_10_method_37_code 121 = .ok (.iconst 0, 1) := by decide +kernel
theorem d_Mo_removeBorder_122 : decode prog_10_method_37_code 122 = .ok (.bipush 19, 2) := by decide +kernel
theorem d_Mo_removeBorder_124 : decode prog_10_method_37_code 124 = .ok (.iload_n 1, 1) := by decide +kernel
theorem d_Mo_removeBorder_125 : decode prog_10_method_37_code 125 = .ok (.imul, 1) := by decide +kernel
theorem d_Mo_removeBorder_126 : decode prog_10_method_37_code 126 = .ok (.iadd, 1) := by decide +kernel
theorem d_Mo_removeBorder_127 : decode prog_10_method_37_code 127 = .ok (.dup2, 1) := by decide +kernel
theorem d_Mo_removeBorder_128 : decode prog_10_method_37_code 128 = .ok (.iaload, 1) := by decide +kernel
theorem d_Mo_removeBorder_129 : decode prog_10_method_37_code 129 = .ok (.iconst 1, 1) := by decide +kernel
theorem d_Mo_removeBorder_130 : decode prog_10_method_37_code 130 = .ok (.isub, 1) := by decide +kernel
theorem d_Mo_removeBorder_131 : decode prog_10_method_37_code 131 = .ok (.iastore, 1) := by decide +kernel
theorem d_Mo_removeBorder_132 : decode prog_10_method_37_code 132 = .ok (.aload_n 0, 1) := by decide +kernel
theorem d_Mo_removeBorder_133 : decode prog_10_method_37_code 133 = .ok (.iload_n 3, 1) := by decide +kernel
theorem d_Mo_removeBorder_134 : decode prog_10_method_37_code 134 = .ok (.invokevirtual 126, 3) := by decide +kernel
theorem d_Mo_removeBorder_137 : decode prog_10_method_37_code 137 = .ok (.aload_n 0, 1) := by decide +kernel
theorem d_Mo_removeBorder_138 : decode prog_10_method_37_code 138 = .ok (.iload_n 1, 1) := by decide +kernel
theorem d_Mo_removeBorder_139 : decode prog_10_method_37_code 139 = .ok (.invokevirtual 55, 3) := by decide +kernel
theorem d_Mo_removeBorder_142 : decode prog_10_method_37_code 142 = .ok (.ireturn, 1) := by decide +kernel
theorem d_Mo_isBorder_0 : decode prog_10_method_14_code 0 = .ok (.iload_n 1, 1) := by decide +kernel
theorem d_Mo_isBorder_1 : decode prog_10_method_14_code 1 = .ok (.invokestatic 51, 3) := by decide +kernel
theorem d_Mo_isBorder_4 : decode prog_10_method_14_code 4 = .ok (.ifCond .eq 22, 3) := by decide +kernel
theorem d_Mo_isBorder_7 : decode prog_10_method_14_code 7 = .ok (.iload_n 2, 1) := by decide +kernel
theorem d_Mo_isBorder_8 : decode prog_10_method_14_code 8 = .ok (.iconst 0, 1) := by decide +kernel
theorem d_Mo_isBorder_9 : decode prog_10_method_14_code 9 = .ok (.aload_n 0, 1) := by decide +kernel
theorem d_Mo_isBorder_10 : decode prog_10_method_14_code 10 = .ok (.iload_n 1, 1) := by decide +kernel
theorem d_Mo_isBorder_11 : decode prog_10_method_14_code 11 = .ok (.invokevirtual 55, 3) := by decide +kernel
theorem d_Mo_isBorder_14 : decode prog_10_method_14_code 14 = .ok (.iconst 1, 1) := by decide +kernel
theorem d_Mo_isBorder_15 : decode prog_10_method_14_code 15 = .ok (.isub, 1) := by decide +kernel
theorem d_Mo_isBorder_16 : decode prog_10_method_14_code 16 = .ok (.invokestatic 47, 3) := by decide +kernel
theorem d_Mo_isBorder_19 : decode prog_10_method_14_code 19 = .ok (.ifCond .eq 7, 3) := by decide +kernel
theorem d_Mo_isBorder_22 : decode prog_10_method_14_code 22 = .ok (.iconst 1, 1) := by decide +kernel
theorem d_Mo_isBorder_23 : decode prog_10_method_14_code 23 = .ok (.goto 4, 3) := by decide +kernel
theorem d_Mo_isBorder_26 : decode prog_10_method_14_code 26 = .ok (.iconst 0, 1) := by decide +kernel
theorem d_Mo_isBorder_27 : decode prog_10_method_14_code 27 = .ok (.ireturn, 1) := by decide +kernel
theorem d_Mo_setReach_0 : decode prog_10_method_38_code 0 = .ok (.aload_n 0, 1) := by decide +kernel
theorem d_Mo_setReach_1 : decode prog_10_method_38_code 1 = .ok (.iconst 0, 1) := by decide +kernel
theorem d_Mo_setReach_2 : decode prog_10_method_38_code 2 = .ok (.putfield 37, 3) := by decide +kernel
theorem d_Mo_setReach_5 : decode prog_10_method_38_code 5 = .ok (.aload_n 0, 1) := by decide +kernel
theorem d_Mo_setReach_6 : decode prog_10_method_38_code 6 = .ok (.iload_n 1, 1) := by decide +kernel
theorem d_Mo_setReach_7 : decode prog_10_method_38_code 7 = .ok (.iload_n 2, 1) := by decide +kernel
theorem d_Mo_setReach_8 : decode prog_10_method_38_code 8 = .ok (.invokevirtual 130, 3) := by decide +kernel
theorem d_Mo_setReach_11 : decode prog_10_method_38_code 11 = .ok (.ifCond .eq 31, 3) := by decide +kernel
theorem d_Mo_setReach_14 : decode prog_10_method_38_code 14 = .ok (.aload_n 0, 1) := by decide +kernel
theorem d_Mo_setReach_15 : decode prog_10_method_38_code 15 = .ok (.iload_n 1, 1) := by decide +kernel
theorem d_Mo_setReach_16 : decode prog_10_method_38_code 16 = .ok (.iload_n 2, 1) := by decide +kernel
theorem d_Mo_setReach_17 : decode prog_10_method_38_code 17 = .ok (.iconst 1, 1) := by decide +kernel
theorem d_Mo_setReach_18 : decode prog_10_method_38_code 18 = .ok (.invokevirtual 63, 3) := by decide +kernel
theorem d_Mo_setReach_21 : decode prog_10_method_38_code 21 = .ok (.iload_n 3, 1) := by decide +kernel
theorem d_Mo_setReach_22 : decode prog_10_method_38_code 22 = .ok (.invokestatic 105, 3) := by decide +kernel
theorem d_Mo_setReach_25 : decode prog_10_method_38_code 25 = .ok (.ifCond .eq 17, 3) := by decide +kernel
theorem d_Mo_setReach_28 : decode prog_10_method_38_code 28 = .ok (.aload_n 0, 1) := by decide +kernel
theorem d_Mo_setReach_29 : decode prog_10_method_38_code 29 = .ok (.iload_n 1, 1) := by decide +kernel
theorem d_Mo_setReach_30 : decode prog_10_method_38_code 30 = .ok (.iload_n 2, 1) := by decide +kernel
theorem d_Mo_setReach_31 : decode prog_10_method_38_code 31 = .ok (.iconst 0, 1) := by decide +kernel
theorem d_Mo_setReach_32 : decode prog_10_method_38_code 32 = .ok (.invokevirtual 63, 3) := by decide +kernel
theorem d_Mo_setReach_35 : decode prog_10_method_38_code 35 = .ok (.iload_n 3, 1) := by decide +kernel
theorem d_Mo_setReach_36 : decode prog_10_method_38_code 36 = .ok (.invokestatic 109, 3) := by decide +kernel
theorem d_Mo_setReach_39 : decode prog_10_method_38_code 39 = .ok (.ifCond .ne 6, 3) := by decide +kernel
theorem d_Mo_setReach_42 : decode prog_10_method_38_code 42 = .ok (.ldc 112, 2) := by decide +kernel
theorem d_Mo_setReach_44 : decode prog_10_method_38_code 44 = .ok (.ireturn, 1) := by decide +kernel
theorem d_Mo_setReach_45 : decode prog_10_method_38_code 45 = .ok (.aload_n 0, 1) := by decide +kernel
theorem d_Mo_setReach_46 : decode prog_10_method_38_code 46 = .ok (.iload_n 1, 1) := by decide +kernel
theorem d_Mo_setReach_47 : decode prog_10_method_38_code 47 = .ok (.aload_n 0, 1) := by decide +kernel
theorem d_Mo_setReach_48 : decode prog_10_method_38_code 48 = .ok (.iload_n 1, 1) := by decide +kernel
theorem d_Mo_setReach_49 : decode prog_10_method_38_code 49 = .ok (.iload_n 2, 1) := by decide +kernel
theorem d_Mo_setReach_50 : decode prog_10_method_38_code 50 = .ok (.iconst 0, 1) := by decide +kernel
theorem d_Mo_setReach_51 : decode prog_10_method_38_code 51 = .ok (.invokevirtual 63, 3) := by decide +kernel
theorem d_Mo_setReach_54 : decode prog_10_method_38_code 54 = .ok (.iload_n 3, 1) := by decide +kernel
theorem d_Mo_setReach_55 : decode prog_10_method_38_code 55 = .ok (.iload_n 2, 1) := by decide +kernel
theorem d_Mo_setReach_56 : decode prog_10_method_38_code 56 = .ok (.invokevirtual 113, 3) := by decide +kernel
theorem d_Mo_setReach_59 : decode prog_10_method_38_code 59 = .ok (.ifCond .eq 6, 3) := by decide +kernel
theorem d_Mo_setReach_62 : decode prog_10_method_38_code 62 = .ok (.ldc 117, 2) := by decide +kernel
theorem d_Mo_setReach_64 : decode prog_10_method_38_code 64 = .ok (.ireturn, 1) := by decide +kernel
theorem d_Mo_setReach_65 : decode prog_10_method_38_code 65 = .ok (.aload_n 0, 1) := by decide +kernel
theorem d_Mo_setReach_66 : decode prog_10_method_38_code 66 = .ok (.invokevirtual 119, 3) := by decide +kernel
theorem d_Mo_setReach_69 : decode prog_10_method_38_code 69 = .ok (.aload_n 0, 1) := by decide +kernel
theorem d_Mo_setReach_70 : decode prog_10_method_38_code 70 = .ok (.iload_n 1, 1) := by decide +kernel
theorem d_Mo_setReach_71 : decode prog_10_method_38_code 71 = .ok (.iload_n 2, 1) := by decide +kernel
theorem d_Mo_setReach_72 : decode prog_10_method_38_code 72 = .ok (.iconst 2, 1) := by decide +kernel
theorem d_Mo_setReach_73 : decode prog_10_method_38_code 73 = .ok (.invokevirtual 63, 3) := by decide +kernel
theorem d_Mo_setReach_76 : decode prog_10_method_38_code 76 = .ok (.istore 4, 2) := by decide +kernel
theorem d_Mo_setReach_78 : decode prog_10_method_38_code 78 = .ok (.aload_n 0, 1) := by decide +kernel
theorem d_Mo_setReach_79 : decode prog_10_method_38_code 79 = .ok (.iload_n 1, 1) := by decide +kernel
theorem d_Mo_setReach_80 : decode prog_10_method_38_code 80 = .ok (.iload_n 2, 1) := by decide +kernel
theorem d_Mo_setReach_81 : decode prog_10_method_38_code 81 = .ok (.aload_n 0, 1) := by decide +kernel
theorem d_Mo_setReach_82 : decode prog_10_method_38_code 82 = .ok (.iload_n 1, 1) := by decide +kernel
theorem d_Mo_setReach_83 : decode prog_10_method_38_code 83 = .ok (.iload_n 2, 1) := by decide +kernel
theorem d_Mo_setReach_84 : decode prog_10_method_38_code 84 = .ok (.iconst 0, 1) := by decide +kernel
theorem d_Mo_setReach_85 : decode prog_10_method_38_code 85 = .ok (.invokevirtual 63, 3) := by decide +kernel
theorem d_Mo_setReach_88 : decode prog_10_method_38_code 88 = .ok (.aload_n 0, 1) := by decide +kernel
theorem d_Mo_setReach_89 : decode prog_10_method_38_code 89 = .ok (.iload_n 1, 1) := by decide +kernel
theorem d_Mo_setReach_90 : decode prog_10_method_38_code 90 = .ok (.iload_n 2, 1) := by decide +kernel
theorem d_Mo_setReach_91 : decode prog_10_method_38_code 91 = .ok (.iconst 1, 1) := by decide +kernel
theorem d_Mo_setReach_92 : decode prog_10_method_38_code 92 = .ok (.invokevirtual 63, 3) := by decide +kernel
theorem d_Mo_setReach_95 : decode prog_10_method_38_code 95 = .ok (.iload_n 3, 1) := by decide +kernel
theorem d_Mo_setReach_96 : decode prog_10_method_38_code 96 = .ok (.invokevirtual 92, 3) := by decide +kernel
theorem d_Mo_setReach_99 : decode prog_10_method_38_code 99 = .ok (.aload_n 0, 1) := by decide +kernel
theorem d_Mo_setReach_100 : decode prog_10_method_38_code 100 = .ok (.invokevirtual 102, 3) := by decide +kernel
theorem d_Mo_setReach_103 : decode prog_10_method_38_code 103 = .ok (.iload 4, 2) := by decide +kernel
theorem d_Mo_setReach_105 : decode prog_10_method_38_code 105 = .ok (.ireturn, 1) := by decide +kernel
theorem d_Mo_setOperator_0 : decode prog_10_method_40_code 0 = .ok (.aload_n 0, 1) := by decide +kernel
theorem d_Mo_setOperator_1 : decode prog_10_method_40_code 1 = .ok (.iconst 0, 1) := by decide +kernel
theorem d_Mo_setOperator_2 : decode prog_10_method_40_code 2 = .ok (.putfield 37, 3) := by decide +kernel
theorem d_Mo_setOperator_5 : decode prog_10_method_40_code 5 = .ok (.iload_n 2, 1) := by decide +kernel
theorem d_Mo_setOperator_6 : decode prog_10_method_40_code 6 = .ok (.ifCond .ne 14, 3) := by decide +kernel
theorem d_Mo_setOperator_9 : decode prog_10_method_40_code 9 = .ok (.iload_n 3, 1) := by decide +kernel
theorem d_Mo_setOperator_10 : decode prog_10_method_40_code 10 = .ok (.iconst 1, 1) := by decide +kernel
theorem d_Mo_setOperator_11 : decode prog_10_method_40_code 11 = .ok (.sipush 9999, 3) := by decide +kernel
theorem d_Mo_setOperator_14 : decode prog_10_method_40_code 14 = .ok (.invokestatic 47, 3) := by decide +kernel
theorem d_Mo_setOperator_17 : decode prog_10_method_40_code 17 = .ok (.goto 23, 3) := by decide +kernel
theorem d_Mo_setOperator_20 : decode prog_10_method_40_code 20 = .ok (.iload_n 2, 1) := by decide +kernel
theorem d_Mo_setOperator_21 : decode prog_10_method_40_code 21 = .ok (.iconst 1, 1) := by decide +kernel
theorem d_Mo_setOperator_22 : decode prog_10_method_40_code 22 = .ok (.if_icmp .ne 17, 3) := by decide +kernel
theorem d_Mo_setOperator_25 : decode prog_10_method_40_code 25 = .ok (.iload_n 3, 1) := by decide +kernel
theorem d_Mo_setOperator_26 : decode prog_10_method_40_code 26 = .ok (.iconst 0, 1) := by decide +kernel
theorem d_Mo_setOperator_27 : decode prog_10_method_40_code 27 = .ok (.ldc 133, 2) := by decide +kernel
theorem d_Mo_setOperator_29 : decode prog_10_method_40_code 29 = .ok (.invokestatic 47, 3) := by decide +kernel
theorem d_Mo_setOperator_32 : decode prog_10_method_40_code 32 = .ok (.ifCond .eq 7, 3) := by decide +kernel
theorem d_Mo_setOperator_35 : decode prog_10_method_40_code 35 = .ok (.iconst 1, 1) := by decide +kernel
theorem d_Mo_setOperator_36 : decode prog_10_method_40_code 36 = .ok (.goto 4, 3) := by decide +kernel
theorem d_Mo_setOperator_39 : decode prog_10_method_40_code 39 = .ok (.iconst 0, 1) := by decide +kernel
theorem d_Mo_setOperator_40 : decode prog_10_method_40_code 40 = .ok (.istore 4, 2) := by decide +kernel
theorem d_Mo_setOperator_42 : decode prog_10_method_40_code 42 = .ok (.iload_n 1, 1) := by decide +kernel
theorem d_Mo_setOperator_43 : decode prog_10_method_40_code 43 = .ok (.invokestatic 134, 3) := by decide +kernel
theorem d_Mo_setOperator_46 : decode prog_10_method_40_code 46 = .ok (.ifCond .eq 8, 3) := by decide +kernel
theorem d_Mo_setOperator_49 : decode prog_10_method_40_code 49 = .ok (.iload 4, 2) := by decide +kernel
theorem d_Mo_setOperator_51 : decode prog_10_method_40_code 51 = .ok (.ifCond .ne 6, 3) := by decide +kernel
theorem d_Mo_setOperator_54 : decode prog_10_method_40_code 54 = .ok (.ldc 112, 2) := by decide +kernel
theorem d_Mo_setOperator_56 : decode prog_10_method_40_code 56 = .ok (.ireturn, 1) := by decide +kernel
theorem d_Mo_setOperator_57 : decode prog_10_method_40_code 57 = .ok (.aload_n 0, 1) := by decide +kernel
theorem d_Mo_setOperator_58 : decode prog_10_method_40_code 58 = .ok (.invokevirtual 119, 3) := by decide +kernel
theorem d_Mo_setOperator_61 : decode prog_10_method_40_code 61 = .ok (.aload_n 0, 1) := by decide +kernel
theorem d_Mo_setOperator_62 : decode prog_10_method_40_code 62 = .ok (.getfield 7, 3) := by decide +kernel
theorem d_Mo_setOperator_65 : decode prog_10_method_40_code 65 = .ok (.sipush 241, 3) := by decide +kernel
theorem d_Mo_setOperator_68 : decode prog_10_method_40_code 68 = .ok (.iconst 3, 1) := by decide +kernel
theorem d_Mo_setOperator_69 : decode prog_10_method_40_code 69 = .ok (.iload_n 1, 1) := by decide +kernel
theorem d_Mo_setOperator_70 : decode prog_10_method_40_code 70 = .ok (.imul, 1) := by decide +kernel
theorem d_Mo_setOperator_71 : decode prog_10_method_40_code 71 = .ok (.iadd, 1) := by decide +kernel
theorem d_Mo_setOperator_72 : decode prog_10_method_40_code 72 = .ok (.iload_n 2, 1) := by decide +kernel
theorem d_Mo_setOperator_73 : decode prog_10_method_40_code 73 = .ok (.iadd, 1) := by decide +kernel
theorem d_Mo_setOperator_74 : decode prog_10_method_40_code 74 = .ok (.iaload, 1) := by decide +kernel
theorem d_Mo_setOperator_75 : decode prog_10_method_40_code 75 = .ok (.istore 5, 2) := by decide +kernel
theorem d_Mo_setOperator_77 : decode prog_10_method_40_code 77 = .ok (.aload_n 0, 1) := by decide +kernel
theorem d_Mo_setOperator_78 : decode prog_10_method_40_code 78 = .ok (.getfield 7, 3) := by decide +kernel
theorem d_Mo_setOperator_81 : decode prog_10_method_40_code 81 = .ok (.sipush 241, 3) := by decide +kernel
theorem d_Mo_setOperator_84 : decode prog_10_method_40_code 84 = .ok (.iconst 3, 1) := by decide +kernel
theorem d_Mo_setOperator_85 : decode prog_10_method_40_code 85 = .ok (.iload_n 1, 1) := by decide +kernel
theorem d_Mo_setOperator_86 : decode prog_10_method_40_code 86 = .ok (.imul, 1) := by decide +kernel
theorem d_Mo_setOperator_87 : decode prog_10_method_40_code 87 = .ok (.iadd, 1) := by decide +kernel
theorem d_Mo_setOperator_88 : decode prog_10_method_40_code 88 = .ok (.iload_n 2, 1) := by decide +kernel
theorem d_Mo_setOperator_89 : decode prog_10_method_40_code 89 = .ok (.iadd, 1) := by decide +kernel
theorem d_Mo_setOperator_90 : decode prog_10_method_40_code 90 = .ok (.iload_n 3, 1) := by decide +kernel
theorem d_Mo_setOperator_91 : decode prog_10_method_40_code 91 = .ok (.iastore, 1) := by decide +kernel
theorem d_Mo_setOperator_92 : decode prog_10_method_40_code 92 = .ok (.iload 5, 2) := by decide +kernel
theorem d_Mo_setOperator_94 : decode prog_10_method_40_code 94 = .ok (.ireturn, 1) := by decide +kernel
theorem d_Mo_isOperator_0 : decode prog_10_method_39_code 0 = .ok (.iload_n 0, 1) := by decide +kernel
theorem d_Mo_isOperator_1 : decode prog_10_method_39_code 1 = .ok (.iconst 0, 1) := by decide +kernel
theorem d_Mo_isOperator_2 : decode prog_10_method_39_code 2 = .ok (.iconst 2, 1) := by decide +kernel
theorem d_Mo_isOperator_3 : decode prog_10_method_39_code 3 = .ok (.invokestatic 47, 3) := by decide +kernel
theorem d_Mo_isOperator_6 : decode prog_10_method_39_code 6 = .ok (.ireturn, 1) := by decide +kernel
theorem d_Mo_edit_0 : decode prog_10_method_44_code 0 = .ok (.aload_n 0, 1) := by decide +kernel
theorem d_Mo_edit_1 : decode prog_10_method_44_code 1 = .ok (.iconst 0, 1) := by decide +kernel
theorem d_Mo_edit_2 : decode prog_10_method_44_code 2 = .ok (.putfield 37, 3) := by decide +kernel
theorem d_Mo_edit_5 : decode prog_10_method_44_code 5 = .ok (.aload_n 0, 1) := by decide +kernel
theorem d_Mo_edit_6 : decode prog_10_method_44_code 6 = .ok (.iload_n 1, 1) := by decide +kernel
theorem d_Mo_edit_7 : decode prog_10_method_44_code 7 = .ok (.iload_n 2, 1) := by decide +kernel
theorem d_Mo_edit_8 : decode prog_10_method_44_code 8 = .ok (.iload_n 3, 1) := by decide +kernel
theorem d_Mo_edit_9 : decode prog_10_method_44_code 9 = .ok (.iload 4, 2) := by decide +kernel
theorem d_Mo_edit_11 : decode prog_10_method_44_code 11 = .ok (.iload 5, 2) := by decide +kernel
theorem d_Mo_edit_13 : decode prog_10_method_44_code 13 = .ok (.invokevirtual 140, 3) := by decide +kernel
theorem d_Mo_edit_16 : decode prog_10_method_44_code 16 = .ok (.ifCond .ne 6, 3) := by decide +kernel
theorem d_Mo_edit_19 : decode prog_10_method_44_code 19 = .ok (.ldc 112, 2) := by decide +kernel
theorem d_Mo_edit_21 : decode prog_10_method_44_code 21 = .ok (.ireturn, 1) := by decide +kernel
theorem d_Mo_edit_22 : decode prog_10_method_44_code 22 = .ok (.aload_n 0, 1) := by decide +kernel
theorem d_Mo_edit_23 : decode prog_10_method_44_code 23 = .ok (.iload_n 1, 1) := by decide +kernel
theorem d_Mo_edit_24 : decode prog_10_method_44_code 24 = .ok (.iload_n 2, 1) := by decide +kernel
theorem d_Mo_edit_25 : decode prog_10_method_44_code 25 = .ok (.iload_n 3, 1) := by decide +kernel
theorem d_Mo_edit_26 : decode prog_10_method_44_code 26 = .ok (.iload 4, 2) := by decide +kernel
theorem d_Mo_edit_28 : decode prog_10_method_44_code 28 = .ok (.iload 5, 2) := by decide +kernel
theorem d_Mo_edit_30 : decode prog_10_method_44_code 30 = .ok (.invokevirtual 144, 3) := by decide +kernel
theorem d_Mo_edit_33 : decode prog_10_method_44_code 33 = .ok (.ifCond .eq 6, 3) := by decide +kernel
theorem d_Mo_edit_36 : decode prog_10_method_44_code 36 = .ok (.ldc 117, 2) := by decide +kernel
theorem d_Mo_edit_38 : decode prog_10_method_44_code 38 = .ok (.ireturn, 1) := by decide +kernel
theorem d_Mo_edit_39 : decode prog_10_method_44_code 39 = .ok (.aload_n 0, 1) := by decide +kernel
theorem d_Mo_edit_40 : decode prog_10_method_44_code 40 = .ok (.invokevirtual 119, 3) := by decide +kernel
theorem d_Mo_edit_43 : decode prog_10_method_44_code 43 = .ok (.aload_n 0, 1) := by decide +kernel
theorem d_Mo_edit_44 : decode prog_10_method_44_code 44 = .ok (.getfield 7, 3) := by decide +kernel
theorem d_Mo_edit_47 : decode prog_10_method_44_code 47 = .ok (.iload_n 2, 1) := by decide +kernel
theorem d_Mo_edit_48 : decode prog_10_method_44_code 48 = .ok (.iload_n 3, 1) := by decide +kernel
theorem d_Mo_edit_49 : decode prog_10_method_44_code 49 = .ok (.invokestatic 59, 3) := by decide +kernel
theorem d_Mo_edit_52 : decode prog_10_method_44_code 52 = .ok (.iload 4, 2) := by decide +kernel
theorem d_Mo_edit_54 : decode prog_10_method_44_code 54 = .ok (.iadd, 1) := by decide +kernel
theorem d_Mo_edit_55 : decode prog_10_method_44_code 55 = .ok (.iaload, 1) := by decide +kernel
theorem d_Mo_edit_56 : decode prog_10_method_44_code 56 = .ok (.istore 6, 2) := by decide +kernel
theorem d_Mo_edit_58 : decode prog_10_method_44_code 58 = .ok (.aload_n 0, 1) := by decide +kernel
theorem d_Mo_edit_59 : decode prog_10_method_44_code 59 = .ok (.iload_n 1, 1) := by decide +kernel
theorem d_Mo_edit_60 : decode prog_10_method_44_code 60 = .ok (.iload_n 2, 1) := by decide +kernel
theorem d_Mo_edit_61 : decode prog_10_method_44_code 61 = .ok (.iload_n 3, 1) := by decide +kernel
theorem d_Mo_edit_62 : decode prog_10_method_44_code 62 = .ok (.iload 4, 2) := by decide +kernel
theorem d_Mo_edit_64 : decode prog_10_method_44_code 64 = .ok (.iload 5, 2) := by decide +kernel
theorem d_Mo_edit_66 : decode prog_10_method_44_code 66 = .ok (.invokevirtual 148, 3) := by decide +kernel
theorem d_Mo_edit_69 : decode prog_10_method_44_code 69 = .ok (.iload 6, 2) := by decide +kernel
theorem d_Mo_edit_71 : decode prog_10_method_44_code 71 = .ok (.ireturn, 1) := by decide +kernel
theorem d_Mo_isEdit_0 : decode prog_10_method_43_code 0 = .ok (.iload_n 1, 1) := by decide +kernel
theorem d_Mo_isEdit_1 : decode prog_10_method_43_code 1 = .ok (.invokestatic 134, 3) := by decide +kernel
theorem d_Mo_isEdit_4 : decode prog_10_method_43_code 4 = .ok (.ifCond .eq 38, 3) := by decide +kernel
theorem d_Mo_isEdit_7 : decode prog_10_method_43_code 7 = .ok (.aload_n 0, 1) := by decide +kernel
theorem d_Mo_isEdit_8 : decode prog_10_method_43_code 8 = .ok (.iload_n 2, 1) := by decide +kernel
theorem d_Mo_isEdit_9 : decode prog_10_method_43_code 9 = .ok (.iload_n 3, 1) := by decide +kernel
theorem d_Mo_isEdit_10 : decode prog_10_method_43_code 10 = .ok (.invokevirtual 137, 3) := by decide +kernel
theorem d_Mo_isEdit_13 : decode prog_10_method_43_code 13 = .ok (.ifCond .eq 29, 3) := by decide +kernel
theorem d_Mo_isEdit_16 : decode prog_10_method_43_code 16 = .ok (.iload 4, 2) := by decide +kernel
theorem d_Mo_isEdit_18 : decode prog_10_method_43_code 18 = .ok (.iconst 0, 1) := by decide +kernel
theorem d_Mo_isEdit_19 : decode prog_10_method_43_code 19 = .ok (.iconst 2, 1) := by decide +kernel
theorem d_Mo_isEdit_20 : decode prog_10_method_43_code 20 = .ok (.invokestatic 47, 3) := by decide +kernel
theorem d_Mo_isEdit_23 : decode prog_10_method_43_code 23 = .ok (.ifCond .eq 19, 3) := by decide +kernel
theorem d_Mo_isEdit_26 : decode prog_10_method_43_code 26 = .ok (.iload 5, 2) := by decide +kernel
theorem d_Mo_isEdit_28 : decode prog_10_method_43_code 28 = .ok (.iconst 0, 1) := by decide +kernel
theorem d_Mo_isEdit_29 : decode prog_10_method_43_code 29 = .ok (.sipush 9999, 3) := by decide +kernel
theorem d_Mo_isEdit_32 : decode prog_10_method_43_code 32 = .ok (.invokestatic 47, 3) := by decide +kernel
theorem d_Mo_isEdit_35 : decode prog_10_method_43_code 35 = .ok (.ifCond .eq 7, 3) := by decide +kernel
theorem d_Mo_isEdit_38 : decode prog_10_method_43_code 38 = .ok (.iconst 1, 1) := by decide +kernel
theorem d_Mo_isEdit_39 : decode prog_10_method_43_code 39 = .ok (.goto 4, 3) := by decide +kernel
theorem d_Mo_isEdit_42 : decode prog_10_method_43_code 42 = .ok (.iconst 0, 1) := by decide +kernel
theorem d_Mo_isEdit_43 : decode prog_10_method_43_code 43 = .ok (.ireturn, 1) := by decide +kernel
theorem d_Mo_isRegion_0 : decode prog_10_method_16_code 0 = .ok (.iload_n 1, 1) := by decide +kernel
theorem d_Mo_isRegion_1 : decode prog_10_method_16_code 1 = .ok (.iconst 0, 1) := by decide +kernel
theorem d_Mo_isRegion_2 : decode prog_10_method_16_code 2 = .ok (.aload_n 0, 1) := by decide +kernel
theorem d_Mo_isRegion_3 : decode prog_10_method_16_code 3 = .ok (.iconst 0, 1) := by decide +kernel
theorem d_Mo_isRegion_4 : decode prog_10_method_16_code 4 = .ok (.invokevirtual 55, 3) := by decide +kernel
theorem d_Mo_isRegion_7 : decode prog_10_method_16_code 7 = .ok (.invokestatic 47, 3) := by decide +kernel
theorem d_Mo_isRegion_10 : decode prog_10_method_16_code 10 = .ok (.ifCond .eq 20, 3) := by decide +kernel
theorem d_Mo_isRegion_13 : decode prog_10_method_16_code 13 = .ok (.iload_n 2, 1) := by decide +kernel
theorem d_Mo_isRegion_14 : decode prog_10_method_16_code 14 = .ok (.iconst 0, 1) := by decide +kernel
theorem d_Mo_isRegion_15 : decode prog_10_method_16_code 15 = .ok (.aload_n 0, 1) := by decide +kernel
theorem d_Mo_isRegion_16 : decode prog_10_method_16_code 16 = .ok (.iconst 1, 1) := by decide +kernel
theorem d_Mo_isRegion_17 : decode prog_10_method_16_code 17 = .ok (.invokevirtual 55, 3) := by decide +kernel
theorem d_Mo_isRegion_20 : decode prog_10_method_16_code 20 = .ok (.invokestatic 47, 3) := by decide +kernel
theorem d_Mo_isRegion_23 : decode prog_10_method_16_code 23 = .ok (.ifCond .eq 7, 3) := by decide +kernel
theorem d_Mo_isRegion_26 : decode prog_10_method_16_code 26 = .ok (.iconst 1, 1) := by decide +kernel
theorem d_Mo_isRegion_27 : decode prog_10_method_16_code 27 = .ok (.goto 4, 3) := by decide +kernel
theorem d_Mo_isRegion_30 : decode prog_10_method_16_code 30 = .ok (.iconst 0, 1) := by decide +kernel
theorem d_Mo_isRegion_31 : decode prog_10_method_16_code 31 = .ok (.ireturn, 1) := by decide +kernel
theorem d_Mo_refusalOf_0 : decode prog_10_method_41_code 0 = .ok (.aload_n 0, 1) := by decide +kernel
theorem d_Mo_refusalOf_1 : decode prog_10_method_41_code 1 = .ok (.getfield 7, 3) := by decide +kernel
theorem d_Mo_refusalOf_4 : decode prog_10_method_41_code 4 = .ok (.iload_n 2, 1) := by decide +kernel
theorem d_Mo_refusalOf_5 : decode prog_10_method_41_code 5 = .ok (.iload_n 3, 1) := by decide +kernel
theorem d_Mo_refusalOf_6 : decode prog_10_method_41_code 6 = .ok (.invokestatic 59, 3) := by decide +kernel
theorem d_Mo_refusalOf_9 : decode prog_10_method_41_code 9 = .ok (.iconst 3, 1) := by decide +kernel
theorem d_Mo_refusalOf_10 : decode prog_10_method_41_code 10 = .ok (.iadd, 1) := by decide +kernel
theorem d_Mo_refusalOf_11 : decode prog_10_method_41_code 11 = .ok (.iaload, 1) := by decide +kernel
theorem d_Mo_refusalOf_12 : decode prog_10_method_41_code 12 = .ok (.istore 6, 2) := by decide +kernel
theorem d_Mo_refusalOf_14 : decode prog_10_method_41_code 14 = .ok (.aload_n 0, 1) := by decide +kernel
theorem d_Mo_refusalOf_15 : decode prog_10_method_41_code 15 = .ok (.getfield 7, 3) := by decide +kernel
theorem d_Mo_refusalOf_18 : decode prog_10_method_41_code 18 = .ok (.iload_n 2, 1) := by decide +kernel
theorem d_Mo_refusalOf_19 : decode prog_10_method_41_code 19 = .ok (.iload_n 3, 1) := by decide +kernel
theorem d_Mo_refusalOf_20 : decode prog_10_method_41_code 20 = .ok (.invokestatic 59, 3) := by decide +kernel
theorem d_Mo_refusalOf_23 : decode prog_10_method_41_code 23 = .ok (.iload 4, 2) := by decide +kernel
theorem d_Mo_refusalOf_25 : decode prog_10_method_41_code 25 = .ok (.iadd, 1) := by decide +kernel
theorem d_Mo_refusalOf_26 : decode prog_10_method_41_code 26 = .ok (.iaload, 1) := by decide +kernel
theorem d_Mo_refusalOf_27 : decode prog_10_method_41_code 27 = .ok (.iload 5, 2) := by decide +kernel
theorem d_Mo_refusalOf_29 : decode prog_10_method_41_code 29 = .ok (.invokestatic 85, 3) := by decide +kernel
theorem d_Mo_refusalOf_32 : decode prog_10_method_41_code 32 = .ok (.istore 7, 2) := by decide +kernel
theorem d_Mo_refusalOf_34 : decode prog_10_method_41_code 34 = .ok (.iload 6, 2) := by decide +kernel
theorem d_Mo_refusalOf_36 : decode prog_10_method_41_code 36 = .ok (.iconst (-1), 1) := by decide +kernel
theorem d_Mo_refusalOf_37 : decode prog_10_method_41_code 37 = .ok (.if_icmp .eq 11, 3) := by decide +kernel
theorem d_Mo_refusalOf_40 : decode prog_10_method_41_code 40 = .ok (.iload 6, 2) := by decide +kernel
theorem d_Mo_refusalOf_42 : decode prog_10_method_41_code 42 = .ok (.iload_n 1, 1) := by decide +kernel
theorem d_Mo_refusalOf_43 : decode prog_10_method_41_code 43 = .ok (.if_icmp .eq 5, 3) := by decide +kernel
theorem d_Mo_refusalOf_46 : decode prog_10_method_41_code 46 = .ok (.iconst 1, 1) := by decide +kernel
theorem d_Mo_refusalOf_47 : decode prog_10_method_41_code 47 = .ok (.ireturn, 1) := by decide +kernel
theorem d_Mo_refusalOf_48 : decode prog_10_method_41_code 48 = .ok (.iload 7, 2) := by decide +kernel
theorem d_Mo_refusalOf_50 : decode prog_10_method_41_code 50 = .ok (.aload_n 0, 1) := by decide +kernel
theorem d_Mo_refusalOf_51 : decode prog_10_method_41_code 51 = .ok (.getfield 7, 3) := by decide +kernel
theorem d_Mo_refusalOf_54 : decode prog_10_method_41_code 54 = .ok (.sipush 241, 3) := by decide +kernel
theorem d_Mo_refusalOf_57 : decode prog_10_method_41_code 57 = .ok (.iconst 3, 1) := by decide +kernel
theorem d_Mo_refusalOf_58 : decode prog_10_method_41_code 58 = .ok (.iload_n 1, 1) := by decide +kernel
theorem d_Mo_refusalOf_59 : decode prog_10_method_41_code 59 = .ok (.imul, 1) := by decide +kernel
theorem d_Mo_refusalOf_60 : decode prog_10_method_41_code 60 = .ok (.iadd, 1) := by decide +kernel
theorem d_Mo_refusalOf_61 : decode prog_10_method_41_code 61 = .ok (.iconst 0, 1) := by decide +kernel
theorem d_Mo_refusalOf_62 : decode prog_10_method_41_code 62 = .ok (.iadd, 1) := by decide +kernel
theorem d_Mo_refusalOf_63 : decode prog_10_method_41_code 63 = .ok (.iaload, 1) := by decide +kernel
theorem d_Mo_refusalOf_64 : decode prog_10_method_41_code 64 = .ok (.if_icmp .le 7, 3) := by decide +kernel
theorem d_Mo_refusalOf_67 : decode prog_10_method_41_code 67 = .ok (.iconst 2, 1) := by decide +kernel
theorem d_Mo_refusalOf_68 : decode prog_10_method_41_code 68 = .ok (.goto 27, 3) := by decide +kernel
theorem d_Mo_refusalOf_71 : decode prog_10_method_41_code 71 = .ok (.iload 7, 2) := by decide +kernel
theorem d_Mo_refusalOf_73 : decode prog_10_method_41_code 73 = .ok (.aload_n 0, 1) := by decide +kernel
theorem d_Mo_refusalOf_74 : decode prog_10_method_41_code 74 = .ok (.getfield 7, 3) := by decide +kernel
theorem d_Mo_refusalOf_77 : decode prog_10_method_41_code 77 = .ok (.sipush 241, 3) := by decide +kernel
theorem d_Mo_refusalOf_80 : decode prog_10_method_41_code 80 = .ok (.iconst 3, 1) := by decide +kernel
theorem d_Mo_refusalOf_81 : decode prog_10_method_41_code 81 = .ok (.iload_n 1, 1) := by decide +kernel
theorem d_Mo_refusalOf_82 : decode prog_10_method_41_code 82 = .ok (.imul, 1) := by decide +kernel
theorem d_Mo_refusalOf_83 : decode prog_10_method_41_code 83 = .ok (.iadd, 1) := by decide +kernel
theorem d_Mo_refusalOf_84 : decode prog_10_method_41_code 84 = .ok (.iconst 1, 1) := by decide +kernel
theorem d_Mo_refusalOf_85 : decode prog_10_method_41_code 85 = .ok (.iadd, 1) := by decide +kernel
theorem d_Mo_refusalOf_86 : decode prog_10_method_41_code 86 = .ok (.iaload, 1) := by decide +kernel
theorem d_Mo_refusalOf_87 : decode prog_10_method_41_code 87 = .ok (.if_icmp .le 7, 3) := by decide +kernel
theorem d_Mo_refusalOf_90 : decode prog_10_method_41_code 90 = .ok (.iconst 3, 1) := by decide +kernel
theorem d_Mo_refusalOf_91 : decode prog_10_method_41_code 91 = .ok (.goto 4, 3) := by decide +kernel
theorem d_Mo_refusalOf_94 : decode prog_10_method_41_code 94 = .ok (.iconst 0, 1) := by decide +kernel
theorem d_Mo_refusalOf_95 : decode prog_10_method_41_code 95 = .ok (.ireturn, 1) := by decide +kernel
theorem d_Mo_change_0 : decode prog_10_method_42_code 0 = .ok (.aload_n 0, 1) := by decide +kernel
theorem d_Mo_change_1 : decode prog_10_method_42_code 1 = .ok (.getfield 7, 3) := by decide +kernel
theorem d_Mo_change_4 : decode prog_10_method_42_code 4 = .ok (.iload_n 2, 1) := by decide +kernel
theorem d_Mo_change_5 : decode prog_10_method_42_code 5 = .ok (.iload_n 3, 1) := by decide +kernel
theorem d_Mo_change_6 : decode prog_10_method_42_code 6 = .ok (.invokestatic 59, 3) := by decide +kernel
theorem d_Mo_change_9 : decode prog_10_method_42_code 9 = .ok (.iload 4, 2) := by decide +kernel
theorem d_Mo_change_11 : decode prog_10_method_42_code 11 = .ok (.iadd, 1) := by decide +kernel
theorem d_Mo_change_12 : decode prog_10_method_42_code 12 = .ok (.iaload, 1) := by decide +kernel
theorem d_Mo_change_13 : decode prog_10_method_42_code 13 = .ok (.istore 6, 2) := by decide +kernel
theorem d_Mo_change_15 : decode prog_10_method_42_code 15 = .ok (.aload_n 0, 1) := by decide +kernel
theorem d_Mo_change_16 : decode prog_10_method_42_code 16 = .ok (.getfield 7, 3) := by decide +kernel
theorem d_Mo_change_19 : decode prog_10_method_42_code 19 = .ok (.sipush 241, 3) := by decide +kernel
theorem d_Mo_change_22 : decode prog_10_method_42_code 22 = .ok (.iconst 3, 1) := by decide +kernel
theorem d_Mo_change_23 : decode prog_10_method_42_code 23 = .ok (.iload_n 1, 1) := by decide +kernel
theorem d_Mo_change_24 : decode prog_10_method_42_code 24 = .ok (.imul, 1) := by decide +kernel
theorem d_Mo_change_25 : decode prog_10_method_42_code 25 = .ok (.iadd, 1) := by decide +kernel
theorem d_Mo_change_26 : decode prog_10_method_42_code 26 = .ok (.iconst 1, 1) := by decide +kernel
theorem d_Mo_change_27 : decode prog_10_method_42_code 27 = .ok (.iadd, 1) := by decide +kernel
theorem d_Mo_change_28 : decode prog_10_method_42_code 28 = .ok (.dup2, 1) := by decide +kernel
theorem d_Mo_change_29 : decode prog_10_method_42_code 29 = .ok (.iaload, 1) := by decide +kernel
theorem d_Mo_change_30 : decode prog_10_method_42_code 30 = .ok (.iload 6, 2) := by decide +kernel
theorem d_Mo_change_32 : decode prog_10_method_42_code 32 = .ok (.iload 5, 2) := by decide +kernel
theorem d_Mo_change_34 : decode prog_10_method_42_code 34 = .ok (.invokestatic 85, 3) := by decide +kernel
theorem d_Mo_change_37 : decode prog_10_method_42_code 37 = .ok (.isub, 1) := by decide +kernel
theorem d_Mo_change_38 : decode prog_10_method_42_code 38 = .ok (.iastore, 1) := by decide +kernel
theorem d_Mo_change_39 : decode prog_10_method_42_code 39 = .ok (.aload_n 0, 1) := by decide +kernel
theorem d_Mo_change_40 : decode prog_10_method_42_code 40 = .ok (.getfield 7, 3) := by decide +kernel
theorem d_Mo_change_43 : decode prog_10_method_42_code 43 = .ok (.sipush 241, 3) := by decide +kernel
theorem d_Mo_change_46 : decode prog_10_method_42_code 46 = .ok (.iconst 3, 1) := by decide +kernel
theorem d_Mo_change_47 : decode prog_10_method_42_code 47 = .ok (.iload_n 1, 1) := by decide +kernel
theorem d_Mo_change_48 : decode prog_10_method_42_code 48 = .ok (.imul, 1) := by decide +kernel
theorem d_Mo_change_49 : decode prog_10_method_42_code 49 = .ok (.iadd, 1) := by decide +kernel
theorem d_Mo_change_50 : decode prog_10_method_42_code 50 = .ok (.iconst 2, 1) := by decide +kernel
theorem d_Mo_change_51 : decode prog_10_method_42_code 51 = .ok (.iadd, 1) := by decide +kernel
theorem d_Mo_change_52 : decode prog_10_method_42_code 52 = .ok (.dup2, 1) := by decide +kernel
theorem d_Mo_change_53 : decode prog_10_method_42_code 53 = .ok (.iaload, 1) := by decide +kernel
theorem d_Mo_change_54 : decode prog_10_method_42_code 54 = .ok (.iconst 1, 1) := by decide +kernel
theorem d_Mo_change_55 : decode prog_10_method_42_code 55 = .ok (.iadd, 1) := by decide +kernel
theorem d_Mo_change_56 : decode prog_10_method_42_code 56 = .ok (.iastore, 1) := by decide +kernel
theorem d_Mo_change_57 : decode prog_10_method_42_code 57 = .ok (.aload_n 0, 1) := by decide +kernel
theorem d_Mo_change_58 : decode prog_10_method_42_code 58 = .ok (.getfield 7, 3) := by decide +kernel
theorem d_Mo_change_61 : decode prog_10_method_42_code 61 = .ok (.sipush 250, 3) := by decide +kernel
theorem d_Mo_change_64 : decode prog_10_method_42_code 64 = .ok (.iload_n 1, 1) := by decide +kernel
theorem d_Mo_change_65 : decode prog_10_method_42_code 65 = .ok (.iadd, 1) := by decide +kernel
theorem d_Mo_change_66 : decode prog_10_method_42_code 66 = .ok (.dup2, 1) := by decide +kernel
theorem d_Mo_change_67 : decode prog_10_method_42_code 67 = .ok (.iaload, 1) := by decide +kernel
theorem d_Mo_change_68 : decode prog_10_method_42_code 68 = .ok (.iload 5, 2) := by decide +kernel
theorem d_Mo_change_70 : decode prog_10_method_42_code 70 = .ok (.iload 6, 2) := by decide +kernel
theorem d_Mo_change_72 : decode prog_10_method_42_code 72 = .ok (.isub, 1) := by decide +kernel
theorem d_Mo_change_73 : decode prog_10_method_42_code 73 = .ok (.iadd, 1) := by decide +kernel
theorem d_Mo_change_74 : decode prog_10_method_42_code 74 = .ok (.iastore, 1) := by decide +kernel
theorem d_Mo_change_75 : decode prog_10_method_42_code 75 = .ok (.aload_n 0, 1) := by decide +kernel
theorem d_Mo_change_76 : decode prog_10_method_42_code 76 = .ok (.getfield 7, 3) := by decide +kernel
theorem d_Mo_change_79 : decode prog_10_method_42_code 79 = .ok (.iload_n 2, 1) := by decide +kernel
theorem d_Mo_change_80 : decode prog_10_method_42_code 80 = .ok (.iload_n 3, 1) := by decide +kernel
theorem d_Mo_change_81 : decode prog_10_method_42_code 81 = .ok (.invokestatic 59, 3) := by decide +kernel
theorem d_Mo_change_84 : decode prog_10_method_42_code 84 = .ok (.iload 4, 2) := by decide +kernel
theorem d_Mo_change_86 : decode prog_10_method_42_code 86 = .ok (.iadd, 1) := by decide +kernel
theorem d_Mo_change_87 : decode prog_10_method_42_code 87 = .ok (.iload 5, 2) := by decide +kernel
theorem d_Mo_change_89 : decode prog_10_method_42_code 89 = .ok (.iastore, 1) := by decide +kernel
theorem d_Mo_change_90 : decode prog_10_method_42_code 90 = .ok (.return_, 1) := by decide +kernel
theorem d_Mo_scale_0 : decode prog_10_method_45_code 0 = .ok (.aload_n 0, 1) := by decide +kernel
theorem d_Mo_scale_1 : decode prog_10_method_45_code 1 = .ok (.iconst 0, 1) := by decide +kernel
theorem d_Mo_scale_2 : decode prog_10_method_45_code 2 = .ok (.putfield 37, 3) := by decide +kernel
theorem d_Mo_scale_5 : decode prog_10_method_45_code 5 = .ok (.iload_n 1, 1) := by decide +kernel
theorem d_Mo_scale_6 : decode prog_10_method_45_code 6 = .ok (.invokestatic 134, 3) := by decide +kernel
theorem d_Mo_scale_9 : decode prog_10_method_45_code 9 = .ok (.ifCond .eq 23, 3) := by decide +kernel
theorem d_Mo_scale_12 : decode prog_10_method_45_code 12 = .ok (.iload_n 2, 1) := by decide +kernel
theorem d_Mo_scale_13 : decode prog_10_method_45_code 13 = .ok (.iconst 0, 1) := by decide +kernel
theorem d_Mo_scale_14 : decode prog_10_method_45_code 14 = .ok (.iconst 2, 1) := by decide +kernel
theorem d_Mo_scale_15 : decode prog_10_method_45_code 15 = .ok (.invokestatic 47, 3) := by decide +kernel
theorem d_Mo_scale_18 : decode prog_10_method_45_code 18 = .ok (.ifCond .eq 14, 3) := by decide +kernel
theorem d_Mo_scale_21 : decode prog_10_method_45_code 21 = .ok (.iload_n 3, 1) := by decide +kernel
theorem d_Mo_scale_22 : decode prog_10_method_45_code 22 = .ok (.iconst 0, 1) := by decide +kernel
theorem d_Mo_scale_23 : decode prog_10_method_45_code 23 = .ok (.sipush 1000, 3) := by decide +kernel
theorem d_Mo_scale_26 : decode prog_10_method_45_code 26 = .ok (.invokestatic 47, 3) := by decide +kernel
theorem d_Mo_scale_29 : decode prog_10_method_45_code 29 = .ok (.ifCond .ne 6, 3) := by decide +kernel
theorem d_Mo_scale_32 : decode prog_10_method_45_code 32 = .ok (.ldc 112, 2) := by decide +kernel
theorem d_Mo_scale_34 : decode prog_10_method_45_code 34 = .ok (.ireturn, 1) := by decide +kernel
theorem d_Mo_scale_35 : decode prog_10_method_45_code 35 = .ok (.aload_n 0, 1) := by decide +kernel
theorem d_Mo_scale_36 : decode prog_10_method_45_code 36 = .ok (.invokevirtual 119, 3) := by decide +kernel
theorem d_Mo_scale_39 : decode prog_10_method_45_code 39 = .ok (.iconst 0, 1) := by decide +kernel
theorem d_Mo_scale_40 : decode prog_10_method_45_code 40 = .ok (.istore 4, 2) := by decide +kernel
theorem d_Mo_scale_42 : decode prog_10_method_45_code 42 = .ok (.iconst 0, 1) := by decide +kernel
theorem d_Mo_scale_43 : decode prog_10_method_45_code 43 = .ok (.istore 5, 2) := by decide +kernel
theorem d_Mo_scale_45 : decode prog_10_method_45_code 45 = .ok (.iload 5, 2) := by decide +kernel
theorem d_Mo_scale_47 : decode prog_10_method_45_code 47 = .ok (.aload_n 0, 1) := by decide +kernel
theorem d_Mo_scale_48 : decode prog_10_method_45_code 48 = .ok (.iconst 0, 1) := by decide +kernel
theorem d_Mo_scale_49 : decode prog_10_method_45_code 49 = .ok (.invokevirtual 55, 3) := by decide +kernel
theorem d_Mo_scale_52 : decode prog_10_method_45_code 52 = .ok (.if_icmp .gt 97, 3) := by decide +kernel
theorem d_Mo_scale_55 : decode prog_10_method_45_code 55 = .ok (.iconst 0, 1) := by decide +kernel
theorem d_Mo_scale_56 : decode prog_10_method_45_code 56 = .ok (.istore 6, 2) := by decide +kernel
theorem d_Mo_scale_58 : decode prog_10_method_45_code 58 = .ok (.iload 6, 2) := by decide +kernel
theorem d_Mo_scale_60 : decode prog_10_method_45_code 60 = .ok (.aload_n 0, 1) := by decide +kernel
theorem d_Mo_scale_61 : decode prog_10_method_45_code 61 = .ok (.iconst 1, 1) := by decide +kernel
theorem d_Mo_scale_62 : decode prog_10_method_45_code 62 = .ok (.invokevirtual 55, 3) := by decide +kernel
theorem d_Mo_scale_65 : decode prog_10_method_45_code 65 = .ok (.if_icmp .gt 78, 3) := by decide +kernel
theorem d_Mo_scale_68 : decode prog_10_method_45_code 68 = .ok (.aload_n 0, 1) := by decide +kernel
theorem d_Mo_scale_69 : decode prog_10_method_45_code 69 = .ok (.getfield 7, 3) := by decide +kernel
theorem d_Mo_scale_72 : decode prog_10_method_45_code 72 = .ok (.iload 5, 2) := by decide +kernel
theorem d_Mo_scale_74 : decode prog_10_method_45_code 74 = .ok (.iload 6, 2) := by decide +kernel
theorem d_Mo_scale_76 : decode prog_10_method_45_code 76 = .ok (.invokestatic 59, 3) := by decide +kernel
theorem d_Mo_scale_79 : decode prog_10_method_45_code 79 = .ok (.iload_n 2, 1) := by decide +kernel
theorem d_Mo_scale_80 : decode prog_10_method_45_code 80 = .ok (.iadd, 1) := by decide +kernel
theorem d_Mo_scale_81 : decode prog_10_method_45_code 81 = .ok (.iaload, 1) := by decide +kernel
theorem d_Mo_scale_82 : decode prog_10_method_45_code 82 = .ok (.iload_n 3, 1) := by decide +kernel
theorem d_Mo_scale_83 : decode prog_10_method_45_code 83 = .ok (.imul, 1) := by decide +kernel
theorem d_Mo_scale_84 : decode prog_10_method_45_code 84 = .ok (.bipush 100, 2) := by decide +kernel
theorem d_Mo_scale_86 : decode prog_10_method_45_code 86 = .ok (.idiv, 1) := by decide +kernel
theorem d_Mo_scale_87 : decode prog_10_method_45_code 87 = .ok (.istore 7, 2) := by decide +kernel
theorem d_Mo_scale_89 : decode prog_10_method_45_code 89 = .ok (.iload 7, 2) := by decide +kernel
theorem d_Mo_scale_91 : decode prog_10_method_45_code 91 = .ok (.sipush 9999, 3) := by decide +kernel
theorem d_Mo_scale_94 : decode prog_10_method_45_code 94 = .ok (.if_icmp .le 9, 3) := by decide +kernel
theorem d_Mo_scale_97 : decode prog_10_method_45_code 97 = .ok (.sipush 9999, 3) := by decide +kernel
theorem d_Mo_scale_100 : decode prog_10_method_45_code 100 = .ok (.goto 5, 3) := by decide +kernel
theorem d_Mo_scale_103 : decode prog_10_method_45_code 103 = .ok (.iload 7, 2) := by decide +kernel
theorem d_Mo_scale_105 : decode prog_10_method_45_code 105 = .ok (.istore 7, 2) := by decide +kernel
theorem d_Mo_scale_107 : decode prog_10_method_45_code 107 = .ok (.aload_n 0, 1) := by decide +kernel
theorem d_Mo_scale_108 : decode prog_10_method_45_code 108 = .ok (.iload_n 1, 1) := by decide +kernel
theorem d_Mo_scale_109 : decode prog_10_method_45_code 109 = .ok (.iload 5, 2) := by decide +kernel
theorem d_Mo_scale_111 : decode prog_10_method_45_code 111 = .ok (.iload 6, 2) := by decide +kernel
theorem d_Mo_scale_113 : decode prog_10_method_45_code 113 = .ok (.iload_n 2, 1) := by decide +kernel
theorem d_Mo_scale_114 : decode prog_10_method_45_code 114 = .ok (.iload 7, 2) := by decide +kernel
theorem d_Mo_scale_116 : decode prog_10_method_45_code 116 = .ok (.invokevirtual 144, 3) := by decide +kernel
theorem d_Mo_scale_119 : decode prog_10_method_45_code 119 = .ok (.ifCond .ne 18, 3) := by decide +kernel
theorem d_Mo_scale_122 : decode prog_10_method_45_code 122 = .ok (.aload_n 0, 1) := by decide +kernel
theorem d_Mo_scale_123 : decode prog_10_method_45_code 123 = .ok (.iload_n 1, 1) := by decide +kernel
theorem d_Mo_scale_124 : decode prog_10_method_45_code 124 = .ok (.iload 5, 2) := by decide +kernel
theorem d_Mo_scale_126 : decode prog_10_method_45_code 126 = .ok (.iload 6, 2) := by decide +kernel
theorem d_Mo_scale_128 : decode prog_10_method_45_code 128 = .ok (.iload_n 2, 1) := by decide +kernel
theorem d_Mo_scale_129 : decode prog_10_method_45_code 129 = .ok (.iload 7, 2) := by decide +kernel
theorem d_Mo_scale_131 : decode prog_10_method_45_code 131 = .ok (.invokevirtual 148, 3) := by decide +kernel
theorem d_Mo_scale_134 : decode prog_10_method_45_code 134 = .ok (.iinc 4 1, 3) := by decide +kernel
theorem d_Mo_scale_137 : decode prog_10_method_45_code 137 = .ok (.iinc 6 1, 3) := by decide +kernel
theorem d_Mo_scale_140 : decode prog_10_method_45_code 140 = .ok (.goto (-82), 3) := by decide +kernel
theorem d_Mo_scale_143 : decode prog_10_method_45_code 143 = .ok (.iinc 5 1, 3) := by decide +kernel
theorem d_Mo_scale_146 : decode prog_10_method_45_code 146 = .ok (.goto (-101), 3) := by decide +kernel
theorem d_Mo_scale_149 : decode prog_10_method_45_code 149 = .ok (.iload 4, 2) := by decide +kernel
theorem d_Mo_scale_151 : decode prog_10_method_45_code 151 = .ok (.ireturn, 1) := by decide +kernel
theorem d_Mo_lock_0 : decode prog_10_method_47_code 0 = .ok (.aload_n 0, 1) := by decide +kernel
theorem d_Mo_lock_1 : decode prog_10_method_47_code 1 = .ok (.iconst 0, 1) := by decide +kernel
theorem d_Mo_lock_2 : decode prog_10_method_47_code 2 = .ok (.putfield 37, 3) := by decide +kernel
theorem d_Mo_lock_5 : decode prog_10_method_47_code 5 = .ok (.iload_n 1, 1) := by decide +kernel
theorem d_Mo_lock_6 : decode prog_10_method_47_code 6 = .ok (.invokestatic 134, 3) := by decide +kernel
theorem d_Mo_lock_9 : decode prog_10_method_47_code 9 = .ok (.ifCond .eq 22, 3) := by decide +kernel
theorem d_Mo_lock_12 : decode prog_10_method_47_code 12 = .ok (.aload_n 0, 1) := by decide +kernel
theorem d_Mo_lock_13 : decode prog_10_method_47_code 13 = .ok (.iload_n 2, 1) := by decide +kernel
theorem d_Mo_lock_14 : decode prog_10_method_47_code 14 = .ok (.iload_n 3, 1) := by decide +kernel
theorem d_Mo_lock_15 : decode prog_10_method_47_code 15 = .ok (.invokevirtual 137, 3) := by decide +kernel
theorem d_Mo_lock_18 : decode prog_10_method_47_code 18 = .ok (.ifCond .eq 13, 3) := by decide +kernel
theorem d_Mo_lock_21 : decode prog_10_method_47_code 21 = .ok (.iload 4, 2) := by decide +kernel
theorem d_Mo_lock_23 : decode prog_10_method_47_code 23 = .ok (.iconst 0, 1) := by decide +kernel
theorem d_Mo_lock_24 : decode prog_10_method_47_code 24 = .ok (.iconst 1, 1) := by decide +kernel
theorem d_Mo_lock_25 : decode prog_10_method_47_code 25 = .ok (.invokestatic 47, 3) := by decide +kernel
theorem d_Mo_lock_28 : decode prog_10_method_47_code 28 = .ok (.ifCond .ne 6, 3) := by decide +kernel
theorem d_Mo_lock_31 : decode prog_10_method_47_code 31 = .ok (.ldc 112, 2) := by decide +kernel
theorem d_Mo_lock_33 : decode prog_10_method_47_code 33 = .ok (.ireturn, 1) := by decide +kernel
theorem d_Mo_lock_34 : decode prog_10_method_47_code 34 = .ok (.aload_n 0, 1) := by decide +kernel
theorem d_Mo_lock_35 : decode prog_10_method_47_code 35 = .ok (.getfield 7, 3) := by decide +kernel
theorem d_Mo_lock_38 : decode prog_10_method_47_code 38 = .ok (.iload_n 2, 1) := by decide +kernel
theorem d_Mo_lock_39 : decode prog_10_method_47_code 39 = .ok (.iload_n 3, 1) := by decide +kernel
theorem d_Mo_lock_40 : decode prog_10_method_47_code 40 = .ok (.invokestatic 59, 3) := by decide +kernel
theorem d_Mo_lock_43 : decode prog_10_method_47_code 43 = .ok (.iconst 3, 1) := by decide +kernel
theorem d_Mo_lock_44 : decode prog_10_method_47_code 44 = .ok (.iadd, 1) := by decide +kernel
theorem d_Mo_lock_45 : decode prog_10_method_47_code 45 = .ok (.iaload, 1) := by decide +kernel
theorem d_Mo_lock_46 : decode prog_10_method_47_code 46 = .ok (.iload 4, 2) := by decide +kernel
theorem d_Mo_lock_48 : decode prog_10_method_47_code 48 = .ok (.iconst 1, 1) := by decide +kernel
theorem d_Mo_lock_49 : decode prog_10_method_47_code 49 = .ok (.if_icmp .ne 7, 3) := by decide +kernel
theorem d_Mo_lock_52 : decode prog_10_method_47_code 52 = .ok (.iconst (-1), 1) := by decide +kernel
theorem d_Mo_lock_53 : decode prog_10_method_47_code 53 = .ok (.goto 4, 3) := by decide +kernel
theorem d_Mo_lock_56 : decode prog_10_method_47_code 56 = .ok (.iload_n 1, 1) := by decide +kernel
theorem d_Mo_lock_57 : decode prog_10_method_47_code 57 = .ok (.if_icmp .eq 6, 3) := by decide +kernel
theorem d_Mo_lock_60 : decode prog_10_method_47_code 60 = .ok (.ldc 117, 2) := by decide +kernel
theorem d_Mo_lock_62 : decode prog_10_method_47_code 62 = .ok (.ireturn, 1) := by decide +kernel
theorem d_Mo_lock_63 : decode prog_10_method_47_code 63 = .ok (.aload_n 0, 1) := by decide +kernel
theorem d_Mo_lock_64 : decode prog_10_method_47_code 64 = .ok (.invokevirtual 119, 3) := by decide +kernel
theorem d_Mo_lock_67 : decode prog_10_method_47_code 67 = .ok (.aload_n 0, 1) := by decide +kernel
theorem d_Mo_lock_68 : decode prog_10_method_47_code 68 = .ok (.getfield 7, 3) := by decide +kernel
theorem d_Mo_lock_71 : decode prog_10_method_47_code 71 = .ok (.iload_n 2, 1) := by decide +kernel
theorem d_Mo_lock_72 : decode prog_10_method_47_code 72 = .ok (.iload_n 3, 1) := by decide +kernel
theorem d_Mo_lock_73 : decode prog_10_method_47_code 73 = .ok (.invokestatic 59, 3) := by decide +kernel
theorem d_Mo_lock_76 : decode prog_10_method_47_code 76 = .ok (.iconst 3, 1) := by decide +kernel
theorem d_Mo_lock_77 : decode prog_10_method_47_code 77 = .ok (.iadd, 1) := by decide +kernel
theorem d_Mo_lock_78 : decode prog_10_method_47_code 78 = .ok (.iload 4, 2) := by decide +kernel
theorem d_Mo_lock_80 : decode prog_10_method_47_code 80 = .ok (.iconst 1, 1) := by decide +kernel
theorem d_Mo_lock_81 : decode prog_10_method_47_code 81 = .ok (.if_icmp .ne 7, 3) := by decide +kernel
theorem d_Mo_lock_84 : decode prog_10_method_47_code 84 = .ok (.iload_n 1, 1) := by decide +kernel
theorem d_Mo_lock_85 : decode prog_10_method_47_code 85 = .ok (.goto 4, 3) := by decide +kernel
theorem d_Mo_lock_88 : decode prog_10_method_47_code 88 = .ok (.iconst (-1), 1) := by decide +kernel
theorem d_Mo_lock_89 : decode prog_10_method_47_code 89 = .ok (.iastore, 1) := by decide +kernel
theorem d_Mo_lock_90 : decode prog_10_method_47_code 90 = .ok (.aload_n 0, 1) := by decide +kernel
theorem d_Mo_lock_91 : decode prog_10_method_47_code 91 = .ok (.iload_n 1, 1) := by decide +kernel
theorem d_Mo_lock_92 : decode prog_10_method_47_code 92 = .ok (.invokevirtual 151, 3) := by decide +kernel
theorem d_Mo_lock_95 : decode prog_10_method_47_code 95 = .ok (.ireturn, 1) := by decide +kernel
theorem d_Mo_locksOf_0 : decode prog_10_method_46_code 0 = .ok (.iconst 0, 1) := by decide +kernel
theorem d_Mo_locksOf_1 : decode prog_10_method_46_code 1 = .ok (.istore_n 2, 1) := by decide +kernel
theorem d_Mo_locksOf_2 : decode prog_10_method_46_code 2 = .ok (.iconst 0, 1) := by decide +kernel
theorem d_Mo_locksOf_3 : decode prog_10_method_46_code 3 = .ok (.istore_n 3, 1) := by decide +kernel
theorem d_Mo_locksOf_4 : decode prog_10_method_46_code 4 = .ok (.iload_n 3, 1) := by decide +kernel
theorem d_Mo_locksOf_5 : decode prog_10_method_46_code 5 = .ok (.aload_n 0, 1) := by decide +kernel
theorem d_Mo_locksOf_6 : decode prog_10_method_46_code 6 = .ok (.iconst 0, 1) := by decide +kernel
theorem d_Mo_locksOf_7 : decode prog_10_method_46_code 7 = .ok (.invokevirtual 55, 3) := by decide +kernel
theorem d_Mo_locksOf_10 : decode prog_10_method_46_code 10 = .ok (.if_icmp .gt 53, 3) := by decide +kernel
theorem d_Mo_locksOf_13 : decode prog_10_method_46_code 13 = .ok (.iconst 0, 1) := by decide +kernel
theorem d_Mo_locksOf_14 : decode prog_10_method_46_code 14 = .ok (.istore 4, 2) := by decide +kernel
theorem d_Mo_locksOf_16 : decode prog_10_method_46_code 16 = .ok (.iload 4, 2) := by decide +kernel
theorem d_Mo_locksOf_18 : decode prog_10_method_46_code 18 = .ok (.aload_n 0, 1) := by decide +kernel
theorem d_Mo_locksOf_19 : decode prog_10_method_46_code 19 = .ok (.iconst 1, 1) := by decide +kernel
theorem d_Mo_locksOf_20 : decode prog_10_method_46_code 20 = .ok (.invokevirtual 55, 3) := by decide +kernel
theorem d_Mo_locksOf_23 : decode prog_10_method_46_code 23 = .ok (.if_icmp .gt 34, 3) := by decide +kernel
theorem d_Mo_locksOf_26 : decode prog_10_method_46_code 26 = .ok (.iload_n 2, 1) := by decide +kernel
theorem d_Mo_locksOf_27 : decode prog_10_method_46_code 27 = .ok (.aload_n 0, 1) := by decide +kernel
theorem d_Mo_locksOf_28 : decode prog_10_method_46_code 28 = .ok (.getfield 7, 3) := by decide +kernel
theorem d_Mo_locksOf_31 : decode prog_10_method_46_code 31 = .ok (.iload_n 3, 1) := by decide +kernel
theorem d_Mo_locksOf_32 : decode prog_10_method_46_code 32 = .ok (.iload 4, 2) := by decide +kernel
theorem d_Mo_locksOf_34 : decode prog_10_method_46_code 34 = .ok (.invokestatic 59, 3) := by decide +kernel
theorem d_Mo_locksOf_37 : decode prog_10_method_46_code 37 = .ok (.iconst 3, 1) := by decide +kernel
theorem d_Mo_locksOf_38 : decode prog_10_method_46_code 38 = .ok (.iadd, 1) := by decide +kernel
theorem d_Mo_locksOf_39 : decode prog_10_method_46_code 39 = .ok (.iaload, 1) := by decide +kernel
theorem d_Mo_locksOf_40 : decode prog_10_method_46_code 40 = .ok (.iload_n 1, 1) := by decide +kernel
theorem d_Mo_locksOf_41 : decode prog_10_method_46_code 41 = .ok (.if_icmp .ne 7, 3) := by decide +kernel
theorem d_Mo_locksOf_44 : decode prog_10_method_46_code 44 = .ok (.iconst 1, 1) := by decide +kernel
theorem d_Mo_locksOf_45 : decode prog_10_method_46_code 45 = .ok (.goto 4, 3) := by decide +kernel
theorem d_Mo_locksOf_48 : decode prog_10_method_46_code 48 = .ok (.iconst 0, 1) := by decide +kernel
theorem d_Mo_locksOf_49 : decode prog_10_method_46_code 49 = .ok (.iadd, 1) := by decide +kernel
theorem d_Mo_locksOf_50 : decode prog_10_method_46_code 50 = .ok (.istore_n 2, 1) := by decide +kernel
theorem d_Mo_locksOf_51 : decode prog_10_method_46_code 51 = .ok (.iinc 4 1, 3) := by decide +kernel
theorem d_Mo_locksOf_54 : decode prog_10_method_46_code 54 = .ok (.goto (-38), 3) := by decide +kernel
theorem d_Mo_locksOf_57 : decode prog_10_method_46_code 57 = .ok (.iinc 3 1, 3) := by decide +kernel
theorem d_Mo_locksOf_60 : decode prog_10_method_46_code 60 = .ok (.goto (-56), 3) := by decide +kernel
theorem d_Mo_locksOf_63 : decode prog_10_method_46_code 63 = .ok (.iload_n 2, 1) := by decide +kernel
theorem d_Mo_locksOf_64 : decode prog_10_method_46_code 64 = .ok (.ireturn, 1) := by decide +kernel
theorem d_Mo_setMargin_0 : decode prog_10_method_48_code 0 = .ok (.aload_n 0, 1) := by decide +kernel
theorem d_Mo_setMargin_1 : decode prog_10_method_48_code 1 = .ok (.iconst 0, 1) := by decide +kernel
theorem d_Mo_setMargin_2 : decode prog_10_method_48_code 2 = .ok (.putfield 37, 3) := by decide +kernel
theorem d_Mo_setMargin_5 : decode prog_10_method_48_code 5 = .ok (.iload_n 1, 1) := by decide +kernel
theorem d_Mo_setMargin_6 : decode prog_10_method_48_code 6 = .ok (.iconst 0, 1) := by decide +kernel
theorem d_Mo_setMargin_7 : decode prog_10_method_48_code 7 = .ok (.bipush 50, 2) := by decide +kernel
theorem d_Mo_setMargin_9 : decode prog_10_method_48_code 9 = .ok (.invokestatic 47, 3) := by decide +kernel
theorem d_Mo_setMargin_12 : decode prog_10_method_48_code 12 = .ok (.ifCond .ne 6, 3) := by decide +kernel
theorem d_Mo_setMargin_15 : decode prog_10_method_48_code 15 = .ok (.ldc 112, 2) := by decide +kernel
theorem d_Mo_setMargin_17 : decode prog_10_method_48_code 17 = .ok (.ireturn, 1) := by decide +kernel
theorem d_Mo_setMargin_18 : decode prog_10_method_48_code 18 = .ok (.aload_n 0, 1) := by decide +kernel
theorem d_Mo_setMargin_19 : decode prog_10_method_48_code 19 = .ok (.invokevirtual 119, 3) := by decide +kernel
theorem d_Mo_setMargin_22 : decode prog_10_method_48_code 22 = .ok (.aload_n 0, 1) := by decide +kernel
theorem d_Mo_setMargin_23 : decode prog_10_method_48_code 23 = .ok (.getfield 7, 3) := by decide +kernel
theorem d_Mo_setMargin_26 : decode prog_10_method_48_code 26 = .ok (.sipush 238, 3) := by decide +kernel
theorem d_Mo_setMargin_29 : decode prog_10_method_48_code 29 = .ok (.iaload, 1) := by decide +kernel
theorem d_Mo_setMargin_30 : decode prog_10_method_48_code 30 = .ok (.istore_n 2, 1) := by decide +kernel
theorem d_Mo_setMargin_31 : decode prog_10_method_48_code 31 = .ok (.aload_n 0, 1) := by decide +kernel
theorem d_Mo_setMargin_32 : decode prog_10_method_48_code 32 = .ok (.getfield 7, 3) := by decide +kernel
theorem d_Mo_setMargin_35 : decode prog_10_method_48_code 35 = .ok (.sipush 238, 3) := by decide +kernel
theorem d_Mo_setMargin_38 : decode prog_10_method_48_code 38 = .ok (.iload_n 1, 1) := by decide +kernel
theorem d_Mo_setMargin_39 : decode prog_10_method_48_code 39 = .ok (.iastore, 1) := by decide +kernel
theorem d_Mo_setMargin_40 : decode prog_10_method_48_code 40 = .ok (.iload_n 2, 1) := by decide +kernel
theorem d_Mo_setMargin_41 : decode prog_10_method_48_code 41 = .ok (.ireturn, 1) := by decide +kernel
theorem d_Mo_move_0 : decode prog_10_method_56_code 0 = .ok (.aload_n 0, 1) := by decide +kernel
theorem d_Mo_move_1 : decode prog_10_method_56_code 1 = .ok (.iconst 0, 1) := by decide +kernel
theorem d_Mo_move_2 : decode prog_10_method_56_code 2 = .ok (.putfield 37, 3) := by decide +kernel
theorem d_Mo_move_5 : decode prog_10_method_56_code 5 = .ok (.iload_n 1, 1) := by decide +kernel
theorem d_Mo_move_6 : decode prog_10_method_56_code 6 = .ok (.invokestatic 179, 3) := by decide +kernel
theorem d_Mo_move_9 : decode prog_10_method_56_code 9 = .ok (.ifCond .eq 10, 3) := by decide +kernel
theorem d_Mo_move_12 : decode prog_10_method_56_code 12 = .ok (.iload_n 2, 1) := by decide +kernel
theorem d_Mo_move_13 : decode prog_10_method_56_code 13 = .ok (.invokestatic 179, 3) := by decide +kernel
theorem d_Mo_move_16 : decode prog_10_method_56_code 16 = .ok (.ifCond .ne 6, 3) := by decide +kernel
theorem d_Mo_move_19 : decode prog_10_method_56_code 19 = .ok (.ldc 112, 2) := by decide +kernel
theorem d_Mo_move_21 : decode prog_10_method_56_code 21 = .ok (.ireturn, 1) := by decide +kernel
theorem d_Mo_move_22 : decode prog_10_method_56_code 22 = .ok (.aload_n 0, 1) := by decide +kernel
theorem d_Mo_move_23 : decode prog_10_method_56_code 23 = .ok (.invokevirtual 119, 3) := by decide +kernel
theorem d_Mo_move_26 : decode prog_10_method_56_code 26 = .ok (.aload_n 0, 1) := by decide +kernel
theorem d_Mo_move_27 : decode prog_10_method_56_code 27 = .ok (.iload_n 1, 1) := by decide +kernel
theorem d_Mo_move_28 : decode prog_10_method_56_code 28 = .ok (.iload_n 2, 1) := by decide +kernel
theorem d_Mo_move_29 : decode prog_10_method_56_code 29 = .ok (.invokevirtual 182, 3) := by decide +kernel
theorem d_Mo_move_32 : decode prog_10_method_56_code 32 = .ok (.ireturn, 1) := by decide +kernel
theorem d_Mo_isCoordinate_0 : decode prog_10_method_55_code 0 = .ok (.iload_n 0, 1) := by decide +kernel
theorem d_Mo_isCoordinate_1 : decode prog_10_method_55_code 1 = .ok (.iconst 0, 1) := by decide +kernel
theorem d_Mo_isCoordinate_2 : decode prog_10_method_55_code 2 = .ok (.sipush 1000, 3) := by decide +kernel
theorem d_Mo_isCoordinate_5 : decode prog_10_method_55_code 5 = .ok (.invokestatic 47, 3) := by decide +kernel
theorem d_Mo_isCoordinate_8 : decode prog_10_method_55_code 8 = .ok (.ireturn, 1) := by decide +kernel
theorem d_Mo_moves_0 : decode prog_10_method_54_code 0 = .ok (.aload_n 0, 1) := by decide +kernel
theorem d_Mo_moves_1 : decode prog_10_method_54_code 1 = .ok (.iload_n 1, 1) := by decide +kernel
theorem d_Mo_moves_2 : decode prog_10_method_54_code 2 = .ok (.iload_n 2, 1) := by decide +kernel
theorem d_Mo_moves_3 : decode prog_10_method_54_code 3 = .ok (.invokevirtual 163, 3) := by decide +kernel
theorem d_Mo_moves_6 : decode prog_10_method_54_code 6 = .ok (.ifCond .eq 18, 3) := by decide +kernel
theorem d_Mo_moves_9 : decode prog_10_method_54_code 9 = .ok (.aload_n 0, 1) := by decide +kernel
theorem d_Mo_moves_10 : decode prog_10_method_54_code 10 = .ok (.getfield 7, 3) := by decide +kernel
theorem d_Mo_moves_13 : decode prog_10_method_54_code 13 = .ok (.sipush 239, 3) := by decide +kernel
theorem d_Mo_moves_16 : decode prog_10_method_54_code 16 = .ok (.dup2, 1) := by decide +kernel
theorem d_Mo_moves_17 : decode prog_10_method_54_code 17 = .ok (.iaload, 1) := by decide +kernel
theorem d_Mo_moves_18 : decode prog_10_method_54_code 18 = .ok (.iconst 1, 1) := by decide +kernel
theorem d_Mo_moves_19 : decode prog_10_method_54_code 19 = .ok (.iadd, 1) := by decide +kernel
theorem d_Mo_moves_20 : decode prog_10_method_54_code 20 = .ok (.iastore, 1) := by decide +kernel
theorem d_Mo_moves_21 : decode prog_10_method_54_code 21 = .ok (.ldc 67, 2) := by decide +kernel
theorem d_Mo_moves_23 : decode prog_10_method_54_code 23 = .ok (.ireturn, 1) := by decide +kernel
theorem d_Mo_moves_24 : decode prog_10_method_54_code 24 = .ok (.aload_n 0, 1) := by decide +kernel
theorem d_Mo_moves_25 : decode prog_10_method_54_code 25 = .ok (.invokevirtual 166, 3) := by decide +kernel
theorem d_Mo_moves_28 : decode prog_10_method_54_code 28 = .ok (.aload_n 0, 1) := by decide +kernel
theorem d_Mo_moves_29 : decode prog_10_method_54_code 29 = .ok (.iload_n 1, 1) := by decide +kernel
theorem d_Mo_moves_30 : decode prog_10_method_54_code 30 = .ok (.iload_n 2, 1) := by decide +kernel
theorem d_Mo_moves_31 : decode prog_10_method_54_code 31 = .ok (.invokevirtual 169, 3) := by decide +kernel
theorem d_Mo_moves_34 : decode prog_10_method_54_code 34 = .ok (.aload_n 0, 1) := by decide +kernel
theorem d_Mo_moves_35 : decode prog_10_method_54_code 35 = .ok (.getfield 7, 3) := by decide +kernel
theorem d_Mo_moves_38 : decode prog_10_method_54_code 38 = .ok (.sipush 240, 3) := by decide +kernel
theorem d_Mo_moves_41 : decode prog_10_method_54_code 41 = .ok (.dup2, 1) := by decide +kernel
theorem d_Mo_moves_42 : decode prog_10_method_54_code 42 = .ok (.iaload, 1) := by decide +kernel
theorem d_Mo_moves_43 : decode prog_10_method_54_code 43 = .ok (.iconst 1, 1) := by decide +kernel
theorem d_Mo_moves_44 : decode prog_10_method_54_code 44 = .ok (.iadd, 1) := by decide +kernel
theorem d_Mo_moves_45 : decode prog_10_method_54_code 45 = .ok (.iastore, 1) := by decide +kernel
theorem d_Mo_moves_46 : decode prog_10_method_54_code 46 = .ok (.aload_n 0, 1) := by decide +kernel
theorem d_Mo_moves_47 : decode prog_10_method_54_code 47 = .ok (.invokevirtual 173, 3) := by decide +kernel
theorem d_Mo_moves_50 : decode prog_10_method_54_code 50 = .ok (.istore_n 3, 1) := by decide +kernel
theorem d_Mo_moves_51 : decode prog_10_method_54_code 51 = .ok (.aload_n 0, 1) := by decide +kernel
theorem d_Mo_moves_52 : decode prog_10_method_54_code 52 = .ok (.invokevirtual 176, 3) := by decide +kernel
theorem d_Mo_moves_55 : decode prog_10_method_54_code 55 = .ok (.istore 4, 2) := by decide +kernel
theorem d_Mo_moves_57 : decode prog_10_method_54_code 57 = .ok (.aload_n 0, 1) := by decide +kernel
theorem d_Mo_moves_58 : decode prog_10_method_54_code 58 = .ok (.getfield 7, 3) := by decide +kernel
theorem d_Mo_moves_61 : decode prog_10_method_54_code 61 = .ok (.iload 4, 2) := by decide +kernel
theorem d_Mo_moves_63 : decode prog_10_method_54_code 63 = .ok (.iload_n 1, 1) := by decide +kernel
theorem d_Mo_moves_64 : decode prog_10_method_54_code 64 = .ok (.iastore, 1) := by decide +kernel
theorem d_Mo_moves_65 : decode prog_10_method_54_code 65 = .ok (.aload_n 0, 1) := by decide +kernel
theorem d_Mo_moves_66 : decode prog_10_method_54_code 66 = .ok (.getfield 7, 3) := by decide +kernel
theorem d_Mo_moves_69 : decode prog_10_method_54_code 69 = .ok (.iload 4, 2) := by decide +kernel
theorem d_Mo_moves_71 : decode prog_10_method_54_code 71 = .ok (.iconst 1, 1) := by decide +kernel
theorem d_Mo_moves_72 : decode prog_10_method_54_code 72 = .ok (.iadd, 1) := by decide +kernel
theorem d_Mo_moves_73 : decode prog_10_method_54_code 73 = .ok (.iload_n 2, 1) := by decide +kernel
theorem d_Mo_moves_74 : decode prog_10_method_54_code 74 = .ok (.iastore, 1) := by decide +kernel
theorem d_Mo_moves_75 : decode prog_10_method_54_code 75 = .ok (.aload_n 0, 1) := by decide +kernel
theorem d_Mo_moves_76 : decode prog_10_method_54_code 76 = .ok (.getfield 7, 3) := by decide +kernel
theorem d_Mo_moves_79 : decode prog_10_method_54_code 79 = .ok (.iload 4, 2) := by decide +kernel
theorem d_Mo_moves_81 : decode prog_10_method_54_code 81 = .ok (.iconst 2, 1) := by decide +kernel
theorem d_Mo_moves_82 : decode prog_10_method_54_code 82 = .ok (.iadd, 1) := by decide +kernel
theorem d_Mo_moves_83 : decode prog_10_method_54_code 83 = .ok (.aload_n 0, 1) := by decide +kernel
theorem d_Mo_moves_84 : decode prog_10_method_54_code 84 = .ok (.getfield 7, 3) := by decide +kernel
theorem d_Mo_moves_87 : decode prog_10_method_54_code 87 = .ok (.sipush 236, 3) := by decide +kernel
theorem d_Mo_moves_90 : decode prog_10_method_54_code 90 = .ok (.iaload, 1) := by decide +kernel
theorem d_Mo_moves_91 : decode prog_10_method_54_code 91 = .ok (.iastore, 1) := by decide +kernel
theorem d_Mo_moves_92 : decode prog_10_method_54_code 92 = .ok (.aload_n 0, 1) := by decide +kernel
theorem d_Mo_moves_93 : decode prog_10_method_54_code 93 = .ok (.getfield 7, 3) := by decide +kernel
theorem d_Mo_moves_96 : decode prog_10_method_54_code 96 = .ok (.iload 4, 2) := by decide +kernel
theorem d_Mo_moves_98 : decode prog_10_method_54_code 98 = .ok (.iconst 3, 1) := by decide +kernel
theorem d_Mo_moves_99 : decode prog_10_method_54_code 99 = .ok (.iadd, 1) := by decide +kernel
theorem d_Mo_moves_100 : decode prog_10_method_54_code 100 = .ok (.aload_n 0, 1) := by decide +kernel
theorem d_Mo_moves_101 : decode prog_10_method_54_code 101 = .ok (.getfield 7, 3) := by decide +kernel
theorem d_Mo_moves_104 : decode prog_10_method_54_code 104 = .ok (.sipush 237, 3) := by decide +kernel
theorem d_Mo_moves_107 : decode prog_10_method_54_code 107 = .ok (.iaload, 1) := by decide +kernel
theorem d_Mo_moves_108 : decode prog_10_method_54_code 108 = .ok (.iastore, 1) := by decide +kernel
theorem d_Mo_moves_109 : decode prog_10_method_54_code 109 = .ok (.aload_n 0, 1) := by decide +kernel
theorem d_Mo_moves_110 : decode prog_10_method_54_code 110 = .ok (.getfield 7, 3) := by decide +kernel
theorem d_Mo_moves_113 : decode prog_10_method_54_code 113 = .ok (.iload 4, 2) := by decide +kernel
theorem d_Mo_moves_115 : decode prog_10_method_54_code 115 = .ok (.iconst 4, 1) := by decide +kernel
theorem d_Mo_moves_116 : decode prog_10_method_54_code 116 = .ok (.iadd, 1) := by decide +kernel
theorem d_Mo_moves_117 : decode prog_10_method_54_code 117 = .ok (.aload_n 0, 1) := by decide +kernel
theorem d_Mo_moves_118 : decode prog_10_method_54_code 118 = .ok (.iconst 0, 1) := by decide +kernel
theorem d_Mo_moves_119 : decode prog_10_method_54_code 119 = .ok (.invokevirtual 157, 3) := by decide +kernel
theorem d_Mo_moves_122 : decode prog_10_method_54_code 122 = .ok (.iastore, 1) := by decide +kernel
theorem d_Mo_moves_123 : decode prog_10_method_54_code 123 = .ok (.aload_n 0, 1) := by decide +kernel
theorem d_Mo_moves_124 : decode prog_10_method_54_code 124 = .ok (.getfield 7, 3) := by decide +kernel
theorem d_Mo_moves_127 : decode prog_10_method_54_code 127 = .ok (.iload 4, 2) := by decide +kernel
theorem d_Mo_moves_129 : decode prog_10_method_54_code 129 = .ok (.iconst 5, 1) := by decide +kernel
theorem d_Mo_moves_130 : decode prog_10_method_54_code 130 = .ok (.iadd, 1) := by decide +kernel
theorem d_Mo_moves_131 : decode prog_10_method_54_code 131 = .ok (.aload_n 0, 1) := by decide +kernel
theorem d_Mo_moves_132 : decode prog_10_method_54_code 132 = .ok (.iconst 1, 1) := by decide +kernel
theorem d_Mo_moves_133 : decode prog_10_method_54_code 133 = .ok (.invokevirtual 157, 3) := by decide +kernel
theorem d_Mo_moves_136 : decode prog_10_method_54_code 136 = .ok (.iastore, 1) := by decide +kernel
theorem d_Mo_moves_137 : decode prog_10_method_54_code 137 = .ok (.aload_n 0, 1) := by decide +kernel
theorem d_Mo_moves_138 : decode prog_10_method_54_code 138 = .ok (.getfield 7, 3) := by decide +kernel
theorem d_Mo_moves_141 : decode prog_10_method_54_code 141 = .ok (.iload 4, 2) := by decide +kernel
theorem d_Mo_moves_143 : decode prog_10_method_54_code 143 = .ok (.bipush 6, 2) := by decide +kernel
theorem d_Mo_moves_145 : decode prog_10_method_54_code 145 = .ok (.iadd, 1) := by decide +kernel
theorem d_Mo_moves_146 : decode prog_10_method_54_code 146 = .ok (.aload_n 0, 1) := by decide +kernel
theorem d_Mo_moves_147 : decode prog_10_method_54_code 147 = .ok (.iconst 2, 1) := by decide +kernel
theorem d_Mo_moves_148 : decode prog_10_method_54_code 148 = .ok (.invokevirtual 157, 3) := by decide +kernel
theorem d_Mo_moves_151 : decode prog_10_method_54_code 151 = .ok (.iastore, 1) := by decide +kernel
theorem d_Mo_moves_152 : decode prog_10_method_54_code 152 = .ok (.aload_n 0, 1) := by decide +kernel
theorem d_Mo_moves_153 : decode prog_10_method_54_code 153 = .ok (.getfield 7, 3) := by decide +kernel
theorem d_Mo_moves_156 : decode prog_10_method_54_code 156 = .ok (.iload 4, 2) := by decide +kernel
theorem d_Mo_moves_158 : decode prog_10_method_54_code 158 = .ok (.bipush 7, 2) := by decide +kernel
theorem d_Mo_moves_160 : decode prog_10_method_54_code 160 = .ok (.iadd, 1) := by decide +kernel
theorem d_Mo_moves_161 : decode prog_10_method_54_code 161 = .ok (.iload_n 3, 1) := by decide +kernel
theorem d_Mo_moves_162 : decode prog_10_method_54_code 162 = .ok (.iastore, 1) := by decide +kernel
theorem d_Mo_moves_163 : decode prog_10_method_54_code 163 = .ok (.iload_n 3, 1) := by decide +kernel
theorem d_Mo_moves_164 : decode prog_10_method_54_code 164 = .ok (.ireturn, 1) := by decide +kernel
theorem d_Mo_isIgnored_0 : decode prog_10_method_49_code 0 = .ok (.iload_n 1, 1) := by decide +kernel
theorem d_Mo_isIgnored_1 : decode prog_10_method_49_code 1 = .ok (.aload_n 0, 1) := by decide +kernel
theorem d_Mo_isIgnored_2 : decode prog_10_method_49_code 2 = .ok (.getfield 7, 3) := by decide +kernel
theorem d_Mo_isIgnored_5 : decode prog_10_method_49_code 5 = .ok (.sipush 234, 3) := by decide +kernel
theorem d_Mo_isIgnored_8 : decode prog_10_method_49_code 8 = .ok (.iaload, 1) := by decide +kernel
theorem d_Mo_isIgnored_9 : decode prog_10_method_49_code 9 = .ok (.invokestatic 85, 3) := by decide +kernel
theorem d_Mo_isIgnored_12 : decode prog_10_method_49_code 12 = .ok (.aload_n 0, 1) := by decide +kernel
theorem d_Mo_isIgnored_13 : decode prog_10_method_49_code 13 = .ok (.getfield 7, 3) := by decide +kernel
theorem d_Mo_isIgnored_16 : decode prog_10_method_49_code 16 = .ok (.sipush 238, 3) := by decide +kernel
theorem d_Mo_isIgnored_19 : decode prog_10_method_49_code 19 = .ok (.iaload, 1) := by decide +kernel
theorem d_Mo_isIgnored_20 : decode prog_10_method_49_code 20 = .ok (.if_icmp .ge 30, 3) := by decide +kernel
theorem d_Mo_isIgnored_23 : decode prog_10_method_49_code 23 = .ok (.iload_n 2, 1) := by decide +kernel
theorem d_Mo_isIgnored_24 : decode prog_10_method_49_code 24 = .ok (.aload_n 0, 1) := by decide +kernel
theorem d_Mo_isIgnored_25 : decode prog_10_method_49_code 25 = .ok (.getfield 7, 3) := by decide +kernel
theorem d_Mo_isIgnored_28 : decode prog_10_method_49_code 28 = .ok (.sipush 235, 3) := by decide +kernel
theorem d_Mo_isIgnored_31 : decode prog_10_method_49_code 31 = .ok (.iaload, 1) := by decide +kernel
theorem d_Mo_isIgnored_32 : decode prog_10_method_49_code 32 = .ok (.invokestatic 85, 3) := by decide +kernel
theorem d_Mo_isIgnored_35 : decode prog_10_method_49_code 35 = .ok (.aload_n 0, 1) := by decide +kernel
theorem d_Mo_isIgnored_36 : decode prog_10_method_49_code 36 = .ok (.getfield 7, 3) := by decide +kernel
theorem d_Mo_isIgnored_39 : decode prog_10_method_49_code 39 = .ok (.sipush 238, 3) := by decide +kernel
theorem d_Mo_isIgnored_42 : decode prog_10_method_49_code 42 = .ok (.iaload, 1) := by decide +kernel
theorem d_Mo_isIgnored_43 : decode prog_10_method_49_code 43 = .ok (.if_icmp .ge 7, 3) := by decide +kernel
theorem d_Mo_isIgnored_46 : decode prog_10_method_49_code 46 = .ok (.iconst 1, 1) := by decide +kernel
theorem d_Mo_isIgnored_47 : decode prog_10_method_49_code 47 = .ok (.goto 4, 3) := by decide +kernel
theorem d_Mo_isIgnored_50 : decode prog_10_method_49_code 50 = .ok (.iconst 0, 1) := by decide +kernel
theorem d_Mo_isIgnored_51 : decode prog_10_method_49_code 51 = .ok (.ireturn, 1) := by decide +kernel
theorem d_Mo_noteValues_0 : decode prog_10_method_51_code 0 = .ok (.aload_n 0, 1) := by decide +kernel
theorem d_Mo_noteValues_1 : decode prog_10_method_51_code 1 = .ok (.invokevirtual 154, 3) := by decide +kernel
theorem d_Mo_noteValues_4 : decode prog_10_method_51_code 4 = .ok (.iconst 0, 1) := by decide +kernel
theorem d_Mo_noteValues_5 : decode prog_10_method_51_code 5 = .ok (.istore_n 1, 1) := by decide +kernel
theorem d_Mo_noteValues_6 : decode prog_10_method_51_code 6 = .ok (.iload_n 1, 1) := by decide +kernel
theorem d_Mo_noteValues_7 : decode prog_10_method_51_code 7 = .ok (.iconst 3, 1) := by decide +kernel
theorem d_Mo_noteValues_8 : decode prog_10_method_51_code 8 = .ok (.if_icmp .ge 20, 3) := by decide +kernel
theorem d_Mo_noteValues_11 : decode prog_10_method_51_code 11 = .ok (.aload_n 0, 1) := by decide +kernel
theorem d_Mo_noteValues_12 : decode prog_10_method_51_code 12 = .ok (.getfield 34, 3) := by decide +kernel
theorem d_Mo_noteValues_15 : decode prog_10_method_51_code 15 = .ok (.iload_n 1, 1) := by decide +kernel
theorem d_Mo_noteValues_16 : decode prog_10_method_51_code 16 = .ok (.aload_n 0, 1) := by decide +kernel
theorem d_Mo_noteValues_17 : decode prog_10_method_51_code 17 = .ok (.iload_n 1, 1) := by decide +kernel
theorem d_Mo_noteValues_18 : decode prog_10_method_51_code 18 = .ok (.invokevirtual 157, 3) := by decide +kernel
theorem d_Mo_noteValues_21 : decode prog_10_method_51_code 21 = .ok (.iastore, 1) := by decide +kernel
theorem d_Mo_noteValues_22 : decode prog_10_method_51_code 22 = .ok (.iinc 1 1, 3) := by decide +kernel
theorem d_Mo_noteValues_25 : decode prog_10_method_51_code 25 = .ok (.goto (-19), 3) := by decide +kernel
theorem d_Mo_noteValues_28 : decode prog_10_method_51_code 28 = .ok (.return_, 1) := by decide +kernel
theorem d_Mo_locatePoint_0 : decode prog_10_method_25_code 0 = .ok (.aload_n 0, 1) := by decide +kernel
theorem d_Mo_locatePoint_1 : decode prog_10_method_25_code 1 = .ok (.iconst 0, 1) := by decide +kernel
theorem d_Mo_locatePoint_2 : decode prog_10_method_25_code 2 = .ok (.aload_n 0, 1) := by decide +kernel
theorem d_Mo_locatePoint_3 : decode prog_10_method_25_code 3 = .ok (.getfield 7, 3) := by decide +kernel
theorem d_Mo_locatePoint_6 : decode prog_10_method_25_code 6 = .ok (.sipush 236, 3) := by decide +kernel
theorem d_Mo_locatePoint_9 : decode prog_10_method_25_code 9 = .ok (.iaload, 1) := by decide +kernel
theorem d_Mo_locatePoint_10 : decode prog_10_method_25_code 10 = .ok (.aload_n 0, 1) := by decide +kernel
theorem d_Mo_locatePoint_11 : decode prog_10_method_25_code 11 = .ok (.getfield 7, 3) := by decide +kernel
theorem d_Mo_locatePoint_14 : decode prog_10_method_25_code 14 = .ok (.sipush 234, 3) := by decide +kernel
theorem d_Mo_locatePoint_17 : decode prog_10_method_25_code 17 = .ok (.iaload, 1) := by decide +kernel
theorem d_Mo_locatePoint_18 : decode prog_10_method_25_code 18 = .ok (.invokevirtual 74, 3) := by decide +kernel
theorem d_Mo_locatePoint_21 : decode prog_10_method_25_code 21 = .ok (.aload_n 0, 1) := by decide +kernel
theorem d_Mo_locatePoint_22 : decode prog_10_method_25_code 22 = .ok (.iconst 1, 1) := by decide +kernel
theorem d_Mo_locatePoint_23 : decode prog_10_method_25_code 23 = .ok (.aload_n 0, 1) := by decide +kernel
theorem d_Mo_locatePoint_24 : decode prog_10_method_25_code 24 = .ok (.getfield 7, 3) := by decide +kernel
theorem d_Mo_locatePoint_27 : decode prog_10_method_25_code 27 = .ok (.sipush 237, 3) := by decide +kernel
theorem d_Mo_locatePoint_30 : decode prog_10_method_25_code 30 = .ok (.iaload, 1) := by decide +kernel
theorem d_Mo_locatePoint_31 : decode prog_10_method_25_code 31 = .ok (.aload_n 0, 1) := by decide +kernel
theorem d_Mo_locatePoint_32 : decode prog_10_method_25_code 32 = .ok (.getfield 7, 3) := by decide +kernel
theorem d_Mo_locatePoint_35 : decode prog_10_method_25_code 35 = .ok (.sipush 235, 3) := by decide +kernel
theorem d_Mo_locatePoint_38 : decode prog_10_method_25_code 38 = .ok (.iaload, 1) := by decide +kernel
theorem d_Mo_locatePoint_39 : decode prog_10_method_25_code 39 = .ok (.invokevirtual 74, 3) := by decide +kernel
theorem d_Mo_locatePoint_42 : decode prog_10_method_25_code 42 = .ok (.return_, 1) := by decide +kernel
theorem d_Mo_locate_0 : decode prog_10_method_24_code 0 = .ok (.iload_n 3, 1) := by decide +kernel
theorem d_Mo_locate_1 : decode prog_10_method_24_code 1 = .ok (.istore 4, 2) := by decide +kernel
theorem d_Mo_locate_3 : decode prog_10_method_24_code 3 = .ok (.iload_n 2, 1) := by decide +kernel
theorem d_Mo_locate_4 : decode prog_10_method_24_code 4 = .ok (.ifCond .ne 8, 3) := by decide +kernel
theorem d_Mo_locate_7 : decode prog_10_method_24_code 7 = .ok (.ldc 67, 2) := by decide +kernel
theorem d_Mo_locate_9 : decode prog_10_method_24_code 9 = .ok (.goto 11, 3) := by decide +kernel
theorem d_Mo_locate_12 : decode prog_10_method_24_code 12 = .ok (.aload_n 0, 1) := by decide +kernel
theorem d_Mo_locate_13 : decode prog_10_method_24_code 13 = .ok (.iload_n 1, 1) := by decide +kernel
theorem d_Mo_locate_14 : decode prog_10_method_24_code 14 = .ok (.iload_n 2, 1) := by decide +kernel
theorem d_Mo_locate_15 : decode prog_10_method_24_code 15 = .ok (.iconst 1, 1) := by decide +kernel
theorem d_Mo_locate_16 : decode prog_10_method_24_code 16 = .ok (.isub, 1) := by decide +kernel
theorem d_Mo_locate_17 : decode prog_10_method_24_code 17 = .ok (.invokevirtual 71, 3) := by decide +kernel
theorem d_Mo_locate_20 : decode prog_10_method_24_code 20 = .ok (.istore 5, 2) := by decide +kernel
theorem d_Mo_locate_22 : decode prog_10_method_24_code 22 = .ok (.iload 5, 2) := by decide +kernel
theorem d_Mo_locate_24 : decode prog_10_method_24_code 24 = .ok (.ldc 67, 2) := by decide +kernel
theorem d_Mo_locate_26 : decode prog_10_method_24_code 26 = .ok (.if_icmp .eq 27, 3) := by decide +kernel
theorem d_Mo_locate_29 : decode prog_10_method_24_code 29 = .ok (.iload 4, 2) := by decide +kernel
theorem d_Mo_locate_31 : decode prog_10_method_24_code 31 = .ok (.aload_n 0, 1) := by decide +kernel
theorem d_Mo_locate_32 : decode prog_10_method_24_code 32 = .ok (.iload_n 1, 1) := by decide +kernel
theorem d_Mo_locate_33 : decode prog_10_method_24_code 33 = .ok (.iload 5, 2) := by decide +kernel
theorem d_Mo_locate_35 : decode prog_10_method_24_code 35 = .ok (.iconst 0, 1) := by decide +kernel
theorem d_Mo_locate_36 : decode prog_10_method_24_code 36 = .ok (.invokevirtual 63, 3) := by decide +kernel
theorem d_Mo_locate_39 : decode prog_10_method_24_code 39 = .ok (.if_icmp .ge 14, 3) := by decide +kernel
theorem d_Mo_locate_42 : decode prog_10_method_24_code 42 = .ok (.aload_n 0, 1) := by decide +kernel
theorem d_Mo_locate_43 : decode prog_10_method_24_code 43 = .ok (.iload_n 1, 1) := by decide +kernel
theorem d_Mo_locate_44 : decode prog_10_method_24_code 44 = .ok (.iload 5, 2) := by decide +kernel
theorem d_Mo_locate_46 : decode prog_10_method_24_code 46 = .ok (.iconst 0, 1) := by decide +kernel
theorem d_Mo_locate_47 : decode prog_10_method_24_code 47 = .ok (.invokevirtual 63, 3) := by decide +kernel
theorem d_Mo_locate_50 : decode prog_10_method_24_code 50 = .ok (.goto 5, 3) := by decide +kernel
theorem d_Mo_locate_53 : decode prog_10_method_24_code 53 = .ok (.iload 4, 2) := by decide +kernel
theorem d_Mo_locate_55 : decode prog_10_method_24_code 55 = .ok (.istore 4, 2) := by decide +kernel
theorem d_Mo_locate_57 : decode prog_10_method_24_code 57 = .ok (.aload_n 0, 1) := by decide +kernel
theorem d_Mo_locate_58 : decode prog_10_method_24_code 58 = .ok (.iload_n 1, 1) := by decide +kernel
theorem d_Mo_locate_59 : decode prog_10_method_24_code 59 = .ok (.iload_n 2, 1) := by decide +kernel
theorem d_Mo_locate_60 : decode prog_10_method_24_code 60 = .ok (.invokevirtual 71, 3) := by decide +kernel
theorem d_Mo_locate_63 : decode prog_10_method_24_code 63 = .ok (.istore 5, 2) := by decide +kernel
theorem d_Mo_locate_65 : decode prog_10_method_24_code 65 = .ok (.iload 5, 2) := by decide +kernel
theorem d_Mo_locate_67 : decode prog_10_method_24_code 67 = .ok (.ldc 67, 2) := by decide +kernel
theorem d_Mo_locate_69 : decode prog_10_method_24_code 69 = .ok (.if_icmp .eq 29, 3) := by decide +kernel
theorem d_Mo_locate_72 : decode prog_10_method_24_code 72 = .ok (.iload 4, 2) := by decide +kernel
theorem d_Mo_locate_74 : decode prog_10_method_24_code 74 = .ok (.aload_n 0, 1) := by decide +kernel
theorem d_Mo_locate_75 : decode prog_10_method_24_code 75 = .ok (.iload_n 1, 1) := by decide +kernel
theorem d_Mo_locate_76 : decode prog_10_method_24_code 76 = .ok (.iload 5, 2) := by decide +kernel
theorem d_Mo_locate_78 : decode prog_10_method_24_code 78 = .ok (.iconst 0, 1) := by decide +kernel
theorem d_Mo_locate_79 : decode prog_10_method_24_code 79 = .ok (.invokevirtual 63, 3) := by decide +kernel
theorem d_Mo_locate_82 : decode prog_10_method_24_code 82 = .ok (.if_icmp .lt 16, 3) := by decide +kernel
theorem d_Mo_locate_85 : decode prog_10_method_24_code 85 = .ok (.aload_n 0, 1) := by decide +kernel
theorem d_Mo_locate_86 : decode prog_10_method_24_code 86 = .ok (.iload_n 1, 1) := by decide +kernel
theorem d_Mo_locate_87 : decode prog_10_method_24_code 87 = .ok (.iload 5, 2) := by decide +kernel
theorem d_Mo_locate_89 : decode prog_10_method_24_code 89 = .ok (.iconst 0, 1) := by decide +kernel
theorem d_Mo_locate_90 : decode prog_10_method_24_code 90 = .ok (.invokevirtual 63, 3) := by decide +kernel
theorem d_Mo_locate_93 : decode prog_10_method_24_code 93 = .ok (.iconst 1, 1) := by decide +kernel
theorem d_Mo_locate_94 : decode prog_10_method_24_code 94 = .ok (.isub, 1) := by decide +kernel
theorem d_Mo_locate_95 : decode prog_10_method_24_code 95 = .ok (.goto 5, 3) := by decide +kernel
theorem d_Mo_locate_98 : decode prog_10_method_24_code 98 = .ok (.iload 4, 2) := by decide +kernel
theorem d_Mo_locate_100 : decode prog_10_method_24_code 100 = .ok (.istore 4, 2) := by decide +kernel
theorem d_Mo_locate_102 : decode prog_10_method_24_code 102 = .ok (.iconst 0, 1) := by decide +kernel
theorem d_Mo_locate_103 : decode prog_10_method_24_code 103 = .ok (.istore 6, 2) := by decide +kernel
theorem d_Mo_locate_105 : decode prog_10_method_24_code 105 = .ok (.iconst 0, 1) := by decide +kernel
theorem d_Mo_locate_106 : decode prog_10_method_24_code 106 = .ok (.istore 7, 2) := by decide +kernel
theorem d_Mo_locate_108 : decode prog_10_method_24_code 108 = .ok (.iload 7, 2) := by decide +kernel
theorem d_Mo_locate_110 : decode prog_10_method_24_code 110 = .ok (.aload_n 0, 1) := by decide +kernel
theorem d_Mo_locate_111 : decode prog_10_method_24_code 111 = .ok (.iload_n 1, 1) := by decide +kernel
theorem d_Mo_locate_112 : decode prog_10_method_24_code 112 = .ok (.invokevirtual 55, 3) := by decide +kernel
theorem d_Mo_locate_115 : decode prog_10_method_24_code 115 = .ok (.if_icmp .ge 32, 3) := by decide +kernel
theorem d_Mo_locate_118 : decode prog_10_method_24_code 118 = .ok (.iload 6, 2) := by decide +kernel
theorem d_Mo_locate_120 : decode prog_10_method_24_code 120 = .ok (.aload_n 0, 1) := by decide +kernel
theorem d_Mo_locate_121 : decode prog_10_method_24_code 121 = .ok (.iload_n 1, 1) := by decide +kernel
theorem d_Mo_locate_122 : decode prog_10_method_24_code 122 = .ok (.iload 7, 2) := by decide +kernel
theorem d_Mo_locate_124 : decode prog_10_method_24_code 124 = .ok (.iconst 0, 1) := by decide +kernel
theorem d_Mo_locate_125 : decode prog_10_method_24_code 125 = .ok (.invokevirtual 63, 3) := by decide +kernel
theorem d_Mo_locate_128 : decode prog_10_method_24_code 128 = .ok (.iload 4, 2) := by decide +kernel
theorem d_Mo_locate_130 : decode prog_10_method_24_code 130 = .ok (.if_icmp .gt 7, 3) := by decide +kernel
theorem d_Mo_locate_133 : decode prog_10_method_24_code 133 = .ok (.iconst 1, 1) := by decide +kernel
theorem d_Mo_locate_134 : decode prog_10_method_24_code 134 = .ok (.goto 4, 3) := by decide +kernel
theorem d_Mo_locate_137 : decode prog_10_method_24_code 137 = .ok (.iconst 0, 1) := by decide +kernel
theorem d_Mo_locate_138 : decode prog_10_method_24_code 138 = .ok (.iadd, 1) := by decide +kernel
theorem d_Mo_locate_139 : decode prog_10_method_24_code 139 = .ok (.istore 6, 2) := by decide +kernel
theorem d_Mo_locate_141 : decode prog_10_method_24_code 141 = .ok (.iinc 7 1, 3) := by decide +kernel
theorem d_Mo_locate_144 : decode prog_10_method_24_code 144 = .ok (.goto (-36), 3) := by decide +kernel
theorem d_Mo_locate_147 : decode prog_10_method_24_code 147 = .ok (.aload_n 0, 1) := by decide +kernel
theorem d_Mo_locate_148 : decode prog_10_method_24_code 148 = .ok (.getfield 22, 3) := by decide +kernel
theorem d_Mo_locate_151 : decode prog_10_method_24_code 151 = .ok (.iload_n 1, 1) := by decide +kernel
theorem d_Mo_locate_152 : decode prog_10_method_24_code 152 = .ok (.iload 6, 2) := by decide +kernel
theorem d_Mo_locate_154 : decode prog_10_method_24_code 154 = .ok (.iastore, 1) := by decide +kernel
theorem d_Mo_locate_155 : decode prog_10_method_24_code 155 = .ok (.aload_n 0, 1) := by decide +kernel
theorem d_Mo_locate_156 : decode prog_10_method_24_code 156 = .ok (.getfield 25, 3) := by decide +kernel
theorem d_Mo_locate_159 : decode prog_10_method_24_code 159 = .ok (.iload_n 1, 1) := by decide +kernel
theorem d_Mo_locate_160 : decode prog_10_method_24_code 160 = .ok (.iload 6, 2) := by decide +kernel
theorem d_Mo_locate_162 : decode prog_10_method_24_code 162 = .ok (.iastore, 1) := by decide +kernel
theorem d_Mo_locate_163 : decode prog_10_method_24_code 163 = .ok (.aload_n 0, 1) := by decide +kernel
theorem d_Mo_locate_164 : decode prog_10_method_24_code 164 = .ok (.getfield 28, 3) := by decide +kernel
theorem d_Mo_locate_167 : decode prog_10_method_24_code 167 = .ok (.iload_n 1, 1) := by decide +kernel
theorem d_Mo_locate_168 : decode prog_10_method_24_code 168 = .ok (.iconst 0, 1) := by decide +kernel
theorem d_Mo_locate_169 : decode prog_10_method_24_code 169 = .ok (.iastore, 1) := by decide +kernel
theorem d_Mo_locate_170 : decode prog_10_method_24_code 170 = .ok (.aload_n 0, 1) := by decide +kernel
theorem d_Mo_locate_171 : decode prog_10_method_24_code 171 = .ok (.getfield 31, 3) := by decide +kernel
theorem d_Mo_locate_174 : decode prog_10_method_24_code 174 = .ok (.iload_n 1, 1) := by decide +kernel
theorem d_Mo_locate_175 : decode prog_10_method_24_code 175 = .ok (.iconst 1, 1) := by decide +kernel
theorem d_Mo_locate_176 : decode prog_10_method_24_code 176 = .ok (.iastore, 1) := by decide +kernel
theorem d_Mo_locate_177 : decode prog_10_method_24_code 177 = .ok (.iconst 0, 1) := by decide +kernel
theorem d_Mo_locate_178 : decode prog_10_method_24_code 178 = .ok (.istore 7, 2) := by decide +kernel
theorem d_Mo_locate_180 : decode prog_10_method_24_code 180 = .ok (.iload 7, 2) := by decide +kernel
theorem d_Mo_locate_182 : decode prog_10_method_24_code 182 = .ok (.aload_n 0, 1) := by decide +kernel
theorem d_Mo_locate_183 : decode prog_10_method_24_code 183 = .ok (.iload_n 1, 1) := by decide +kernel
theorem d_Mo_locate_184 : decode prog_10_method_24_code 184 = .ok (.invokevirtual 55, 3) := by decide +kernel
theorem d_Mo_locate_187 : decode prog_10_method_24_code 187 = .ok (.if_icmp .ge 101, 3) := by decide +kernel
theorem d_Mo_locate_190 : decode prog_10_method_24_code 190 = .ok (.aload_n 0, 1) := by decide +kernel
theorem d_Mo_locate_191 : decode prog_10_method_24_code 191 = .ok (.iload_n 1, 1) := by decide +kernel
theorem d_Mo_locate_192 : decode prog_10_method_24_code 192 = .ok (.iload 7, 2) := by decide +kernel
theorem d_Mo_locate_194 : decode prog_10_method_24_code 194 = .ok (.iconst 0, 1) := by decide +kernel
theorem d_Mo_locate_195 : decode prog_10_method_24_code 195 = .ok (.invokevirtual 63, 3) := by decide +kernel
theorem d_Mo_locate_198 : decode prog_10_method_24_code 198 = .ok (.istore 8, 2) := by decide +kernel
theorem d_Mo_locate_200 : decode prog_10_method_24_code 200 = .ok (.aload_n 0, 1) := by decide +kernel
theorem d_Mo_locate_201 : decode prog_10_method_24_code 201 = .ok (.iload_n 1, 1) := by decide +kernel
theorem d_Mo_locate_202 : decode prog_10_method_24_code 202 = .ok (.iload 7, 2) := by decide +kernel
theorem d_Mo_locate_204 : decode prog_10_method_24_code 204 = .ok (.iconst 2, 1) := by decide +kernel
theorem d_Mo_locate_205 : decode prog_10_method_24_code 205 = .ok (.invokevirtual 63, 3) := by decide +kernel
theorem d_Mo_locate_208 : decode prog_10_method_24_code 208 = .ok (.istore 9, 2) := by decide +kernel
theorem d_Mo_locate_210 : decode prog_10_method_24_code 210 = .ok (.aload_n 0, 1) := by decide +kernel
theorem d_Mo_locate_211 : decode prog_10_method_24_code 211 = .ok (.iload_n 1, 1) := by decide +kernel
theorem d_Mo_locate_212 : decode prog_10_method_24_code 212 = .ok (.iload 7, 2) := by decide +kernel
theorem d_Mo_locate_214 : decode prog_10_method_24_code 214 = .ok (.iconst 1, 1) := by decide +kernel
theorem d_Mo_locate_215 : decode prog_10_method_24_code 215 = .ok (.invokevirtual 63, 3) := by decide +kernel
theorem d_Mo_locate_218 : decode prog_10_method_24_code 218 = .ok (.iconst 1, 1) := by decide +kernel
theorem d_Mo_locate_219 : decode prog_10_method_24_code 219 = .ok (.if_icmp .ne 63, 3) := by decide +kernel
theorem d_Mo_locate_222 : decode prog_10_method_24_code 222 = .ok (.iload 4, 2) := by decide +kernel
theorem d_Mo_locate_224 : decode prog_10_method_24_code 224 = .ok (.iload 8, 2) := by decide +kernel
theorem d_Mo_locate_226 : decode prog_10_method_24_code 226 = .ok (.iload 9, 2) := by decide +kernel
theorem d_Mo_locate_228 : decode prog_10_method_24_code 228 = .ok (.isub, 1) := by decide +kernel
theorem d_Mo_locate_229 : decode prog_10_method_24_code 229 = .ok (.iload 8, 2) := by decide +kernel
theorem d_Mo_locate_231 : decode prog_10_method_24_code 231 = .ok (.iload 9, 2) := by decide +kernel
theorem d_Mo_locate_233 : decode prog_10_method_24_code 233 = .ok (.iadd, 1) := by decide +kernel
theorem d_Mo_locate_234 : decode prog_10_method_24_code 234 = .ok (.invokestatic 47, 3) := by decide +kernel
theorem d_Mo_locate_237 : decode prog_10_method_24_code 237 = .ok (.ifCond .eq 45, 3) := by decide +kernel
theorem d_Mo_locate_240 : decode prog_10_method_24_code 240 = .ok (.aload_n 0, 1) := by decide +kernel
theorem d_Mo_locate_241 : decode prog_10_method_24_code 241 = .ok (.getfield 22, 3) := by decide +kernel
theorem d_Mo_locate_244 : decode prog_10_method_24_code 244 = .ok (.iload_n 1, 1) := by decide +kernel
theorem d_Mo_locate_245 : decode prog_10_method_24_code 245 = .ok (.iload 7, 2) := by decide +kernel
theorem d_Mo_locate_247 : decode prog_10_method_24_code 247 = .ok (.iastore, 1) := by decide +kernel
theorem d_Mo_locate_248 : decode prog_10_method_24_code 248 = .ok (.aload_n 0, 1) := by decide +kernel
theorem d_Mo_locate_249 : decode prog_10_method_24_code 249 = .ok (.getfield 25, 3) := by decide +kernel
theorem d_Mo_locate_252 : decode prog_10_method_24_code 252 = .ok (.iload_n 1, 1) := by decide +kernel
theorem d_Mo_locate_253 : decode prog_10_method_24_code 253 = .ok (.iload 7, 2) := by decide +kernel
theorem d_Mo_locate_255 : decode prog_10_method_24_code 255 = .ok (.iconst 1, 1) := by decide +kernel
theorem d_Mo_locate_256 : decode prog_10_method_24_code 256 = .ok (.iadd, 1) := by decide +kernel
theorem d_Mo_locate_257 : decode prog_10_method_24_code 257 = .ok (.iastore, 1) := by decide +kernel
theorem d_Mo_locate_258 : decode prog_10_method_24_code 258 = .ok (.aload_n 0, 1) := by decide +kernel
theorem d_Mo_locate_259 : decode prog_10_method_24_code 259 = .ok (.getfield 28, 3) := by decide +kernel
theorem d_Mo_locate_262 : decode prog_10_method_24_code 262 = .ok (.iload_n 1, 1) := by decide +kernel
theorem d_Mo_locate_263 : decode prog_10_method_24_code 263 = .ok (.iload 4, 2) := by decide +kernel
theorem d_Mo_locate_265 : decode prog_10_method_24_code 265 = .ok (.iload 8, 2) := by decide +kernel
theorem d_Mo_locate_267 : decode prog_10_method_24_code 267 = .ok (.isub, 1) := by decide +kernel
theorem d_Mo_locate_268 : decode prog_10_method_24_code 268 = .ok (.iload 9, 2) := by decide +kernel
theorem d_Mo_locate_270 : decode prog_10_method_24_code 270 = .ok (.iadd, 1) := by decide +kernel
theorem d_Mo_locate_271 : decode prog_10_method_24_code 271 = .ok (.iastore, 1) := by decide +kernel
theorem d_Mo_locate_272 : decode prog_10_method_24_code 272 = .ok (.aload_n 0, 1) := by decide +kernel
theorem d_Mo_locate_273 : decode prog_10_method_24_code 273 = .ok (.getfield 31, 3) := by decide +kernel
theorem d_Mo_locate_276 : decode prog_10_method_24_code 276 = .ok (.iload_n 1, 1) := by decide +kernel
theorem d_Mo_locate_277 : decode prog_10_method_24_code 277 = .ok (.iconst 2, 1) := by decide +kernel
theorem d_Mo_locate_278 : decode prog_10_method_24_code 278 = .ok (.iload 9, 2) := by decide +kernel
theorem d_Mo_locate_280 : decode prog_10_method_24_code 280 = .ok (.imul, 1) := by decide +kernel
theorem d_Mo_locate_281 : decode prog_10_method_24_code 281 = .ok (.iastore, 1) := by decide +kernel
theorem d_Mo_locate_282 : decode prog_10_method_24_code 282 = .ok (.iinc 7 1, 3) := by decide +kernel
theorem d_Mo_locate_285 : decode prog_10_method_24_code 285 = .ok (.goto (-105), 3) := by decide +kernel
theorem d_Mo_locate_288 : decode prog_10_method_24_code 288 = .ok (.return_, 1) := by decide +kernel
theorem d_Mo_sticky_0 : decode prog_10_method_19_code 0 = .ok (.iload_n 2, 1) := by decide +kernel
theorem d_Mo_sticky_1 : decode prog_10_method_19_code 1 = .ok (.istore_n 3, 1) := by decide +kernel
theorem d_Mo_sticky_2 : decode prog_10_method_19_code 2 = .ok (.iconst 0, 1) := by decide +kernel
theorem d_Mo_sticky_3 : decode prog_10_method_19_code 3 = .ok (.istore 4, 2) := by decide +kernel
theorem d_Mo_sticky_5 : decode prog_10_method_19_code 5 = .ok (.iload 4, 2) := by decide +kernel
theorem d_Mo_sticky_7 : decode prog_10_method_19_code 7 = .ok (.aload_n 0, 1) := by decide +kernel
theorem d_Mo_sticky_8 : decode prog_10_method_19_code 8 = .ok (.iload_n 1, 1) := by decide +kernel
theorem d_Mo_sticky_9 : decode prog_10_method_19_code 9 = .ok (.invokevirtual 55, 3) := by decide +kernel
theorem d_Mo_sticky_12 : decode prog_10_method_19_code 12 = .ok (.if_icmp .ge 30, 3) := by decide +kernel
theorem d_Mo_sticky_15 : decode prog_10_method_19_code 15 = .ok (.aload_n 0, 1) := by decide +kernel
theorem d_Mo_sticky_16 : decode prog_10_method_19_code 16 = .ok (.iload_n 1, 1) := by decide +kernel
theorem d_Mo_sticky_17 : decode prog_10_method_19_code 17 = .ok (.iload 4, 2) := by decide +kernel
theorem d_Mo_sticky_19 : decode prog_10_method_19_code 19 = .ok (.iconst 1, 1) := by decide +kernel
theorem d_Mo_sticky_20 : decode prog_10_method_19_code 20 = .ok (.invokevirtual 63, 3) := by decide +kernel
theorem d_Mo_sticky_23 : decode prog_10_method_19_code 23 = .ok (.ifCond .ne 13, 3) := by decide +kernel
theorem d_Mo_sticky_26 : decode prog_10_method_19_code 26 = .ok (.iload_n 3, 1) := by decide +kernel
theorem d_Mo_sticky_27 : decode prog_10_method_19_code 27 = .ok (.ifCond .ne 6, 3) := by decide +kernel
theorem d_Mo_sticky_30 : decode prog_10_method_19_code 30 = .ok (.iload 4, 2) := by decide +kernel
theorem d_Mo_sticky_32 : decode prog_10_method_19_code 32 = .ok (.ireturn, 1) := by decide +kernel
theorem d_Mo_sticky_33 : decode prog_10_method_19_code 33 = .ok (.iinc 3 (-1), 3) := by decide +kernel
theorem d_Mo_sticky_36 : decode prog_10_method_19_code 36 = .ok (.iinc 4 1, 3) := by decide +kernel
theorem d_Mo_sticky_39 : decode prog_10_method_19_code 39 = .ok (.goto (-34), 3) := by decide +kernel
theorem d_Mo_sticky_42 : decode prog_10_method_19_code 42 = .ok (.ldc 67, 2) := by decide +kernel
theorem d_Mo_sticky_44 : decode prog_10_method_19_code 44 = .ok (.ireturn, 1) := by decide +kernel
end
section
-- what the bytes say, instruction by instruction
theorem d_Mo_value_0 : decode prog_10_method_28_code 0 = .ok (.aload_n 0, 1) := by decide +kernel
theorem d_Mo_value_1 : decode prog_10_method_28_code 1 = .ok (.iload_n 1, 1) := by decide +kernel
theorem d_Mo_value_2 : decode prog_10_method_28_code 2 = .ok (.invokevirtual 78, 3) := by decide +kernel
theorem d_Mo_value_5 : decode prog_10_method_28_code 5 = .ok (.aload_n 0, 1) := by decide +kernel
theorem d_Mo_value_6 : decode prog_10_method_28_code 6 = .ok (.invokevirtual 81, 3) := by decide +kernel
theorem d_Mo_value_9 : decode prog_10_method_28_code 9 = .ok (.idiv, 1) := by decide +kernel
theorem d_Mo_value_10 : decode prog_10_method_28_code 10 = .ok (.ireturn, 1) := by decide +kernel
theorem d_Mo_numerator_0 : decode prog_10_method_27_code 0 = .ok (.aload_n 0, 1) := by decide +kernel
theorem d_Mo_numerator_1 : decode prog_10_method_27_code 1 = .ok (.getfield 31, 3) := by decide +kernel
theorem d_Mo_numerator_4 : decode prog_10_method_27_code 4 = .ok (.iconst 0, 1) := by decide +kernel
theorem d_Mo_numerator_5 : decode prog_10_method_27_code 5 = .ok (.iaload, 1) := by decide +kernel
theorem d_Mo_numerator_6 : decode prog_10_method_27_code 6 = .ok (.aload_n 0, 1) := by decide +kernel
theorem d_Mo_numerator_7 : decode prog_10_method_27_code 7 = .ok (.getfield 28, 3) := by decide +kernel
theorem d_Mo_numerator_10 : decode prog_10_method_27_code 10 = .ok (.iconst 0, 1) := by decide +kernel
theorem d_Mo_numerator_11 : decode prog_10_method_27_code 11 = .ok (.iaload, 1) := by decide +kernel
theorem d_Mo_numerator_12 : decode prog_10_method_27_code 12 = .ok (.isub, 1) := by decide +kernel
theorem d_Mo_numerator_13 : decode prog_10_method_27_code 13 = .ok (.istore_n 2, 1) := by decide +kernel
theorem d_Mo_numerator_14 : decode prog_10_method_27_code 14 = .ok (.aload_n 0, 1) := by decide +kernel
theorem d_Mo_numerator_15 : decode prog_10_method_27_code 15 = .ok (.getfield 31, 3) := by decide +kernel
theorem d_Mo_numerator_18 : decode prog_10_method_27_code 18 = .ok (.iconst 1, 1) := by decide +kernel
theorem d_Mo_numerator_19 : decode prog_10_method_27_code 19 = .ok (.iaload, 1) := by decide +kernel
theorem d_Mo_numerator_20 : decode prog_10_method_27_code 20 = .ok (.aload_n 0, 1) := by decide +kernel
theorem d_Mo_numerator_21 : decode prog_10_method_27_code 21 = .ok (.getfield 28, 3) := by decide +kernel
theorem d_Mo_numerator_24 : decode prog_10_method_27_code 24 = .ok (.iconst 1, 1) := by decide +kernel
theorem d_Mo_numerator_25 : decode prog_10_method_27_code 25 = .ok (.iaload, 1) := by decide +kernel
theorem d_Mo_numerator_26 : decode prog_10_method_27_code 26 = .ok (.isub, 1) := by decide +kernel
theorem d_Mo_numerator_27 : decode prog_10_method_27_code 27 = .ok (.istore_n 3, 1) := by decide +kernel
theorem d_Mo_numerator_28 : decode prog_10_method_27_code 28 = .ok (.iload_n 2, 1) := by decide +kernel
theorem d_Mo_numerator_29 : decode prog_10_method_27_code 29 = .ok (.iload_n 3, 1) := by decide +kernel
theorem d_Mo_numerator_30 : decode prog_10_method_27_code 30 = .ok (.imul, 1) := by decide +kernel
theorem d_Mo_numerator_31 : decode prog_10_method_27_code 31 = .ok (.aload_n 0, 1) := by decide +kernel
theorem d_Mo_numerator_32 : decode prog_10_method_27_code 32 = .ok (.getfield 7, 3) := by decide +kernel
theorem d_Mo_numerator_35 : decode prog_10_method_27_code 35 = .ok (.aload_n 0, 1) := by decide +kernel
theorem d_Mo_numerator_36 : decode prog_10_method_27_code 36 = .ok (.getfield 22, 3) := by decide +kernel
theorem d_Mo_numerator_39 : decode prog_10_method_27_code 39 = .ok (.iconst 0, 1) := by decide +kernel
theorem d_Mo_numerator_40 : decode prog_10_method_27_code 40 = .ok (.iaload, 1) := by decide +kernel
theorem d_Mo_numerator_41 : decode prog_10_method_27_code 41 = .ok (.aload_n 0, 1) := by decide +kernel
theorem d_Mo_numerator_42 : decode prog_10_method_27_code 42 = .ok (.getfield 22, 3) := by decide +kernel
theorem d_Mo_numerator_45 : decode prog_10_method_27_code 45 = .ok (.iconst 1, 1) := by decide +kernel
theorem d_Mo_numerator_46 : decode prog_10_method_27_code 46 = .ok (.iaload, 1) := by decide +kernel
theorem d_Mo_numerator_47 : decode prog_10_method_27_code 47 = .ok (.invokestatic 59, 3) := by decide +kernel
theorem d_Mo_numerator_50 : decode prog_10_method_27_code 50 = .ok (.iload_n 1, 1) := by decide +kernel
theorem d_Mo_numerator_51 : decode prog_10_method_27_code 51 = .ok (.iadd, 1) := by decide +kernel
theorem d_Mo_numerator_52 : decode prog_10_method_27_code 52 = .ok (.iaload, 1) := by decide +kernel
theorem d_Mo_numerator_53 : decode prog_10_method_27_code 53 = .ok (.imul, 1) := by decide +kernel
theorem d_Mo_numerator_54 : decode prog_10_method_27_code 54 = .ok (.istore 4, 2) := by decide +kernel
theorem d_Mo_numerator_56 : decode prog_10_method_27_code 56 = .ok (.iload 4, 2) := by decide +kernel
theorem d_Mo_numerator_58 : decode prog_10_method_27_code 58 = .ok (.aload_n 0, 1) := by decide +kernel
theorem d_Mo_numerator_59 : decode prog_10_method_27_code 59 = .ok (.getfield 28, 3) := by decide +kernel
theorem d_Mo_numerator_62 : decode prog_10_method_27_code 62 = .ok (.iconst 0, 1) := by decide +kernel
theorem d_Mo_numerator_63 : decode prog_10_method_27_code 63 = .ok (.iaload, 1) := by decide +kernel
theorem d_Mo_numerator_64 : decode prog_10_method_27_code 64 = .ok (.iload_n 3, 1) := by decide +kernel
theorem d_Mo_numerator_65 : decode prog_10_method_27_code 65 = .ok (.imul, 1) := by decide +kernel
theorem d_Mo_numerator_66 : decode prog_10_method_27_code 66 = .ok (.aload_n 0, 1) := by decide +kernel
theorem d_Mo_numerator_67 : decode prog_10_method_27_code 67 = .ok (.getfield 7, 3) := by decide +kernel
theorem d_Mo_numerator_70 : decode prog_10_method_27_code 70 = .ok (.aload_n 0, 1) := by decide +kernel
theorem d_Mo_numerator_71 : decode prog_10_method_27_code 71 = .ok (.getfield 25, 3) := by decide +kernel
theorem d_Mo_numerator_74 : decode prog_10_method_27_code 74 = .ok (.iconst 0, 1) := by decide +kernel
theorem d_Mo_numerator_75 : decode prog_10_method_27_code 75 = .ok (.iaload, 1) := by decide +kernel
theorem d_Mo_numerator_76 : decode prog_10_method_27_code 76 = .ok (.aload_n 0, 1) := by decide +kernel
theorem d_Mo_numerator_77 : decode prog_10_method_27_code 77 = .ok (.getfield 22, 3) := by decide +kernel
theorem d_Mo_numerator_80 : decode prog_10_method_27_code 80 = .ok (.iconst 1, 1) := by decide +kernel
theorem d_Mo_numerator_81 : decode prog_10_method_27_code 81 = .ok (.iaload, 1) := by decide +kernel
theorem d_Mo_numerator_82 : decode prog_10_method_27_code 82 = .ok (.invokestatic 59, 3) := by decide +kernel
theorem d_Mo_numerator_85 : decode prog_10_method_27_code 85 = .ok (.iload_n 1, 1) := by decide +kernel
theorem d_Mo_numerator_86 : decode prog_10_method_27_code 86 = .ok (.iadd, 1) := by decide +kernel
theorem d_Mo_numerator_87 : decode prog_10_method_27_code 87 = .ok (.iaload, 1) := by decide +kernel
theorem d_Mo_numerator_88 : decode prog_10_method_27_code 88 = .ok (.imul, 1) := by decide +kernel
theorem d_Mo_numerator_89 : decode prog_10_method_27_code 89 = .ok (.iadd, 1) := by decide +kernel
theorem d_Mo_numerator_90 : decode prog_10_method_27_code 90 = .ok (.istore 4, 2) := by decide +kernel
theorem d_Mo_numerator_92 : decode prog_10_method_27_code 92 = .ok (.iload 4, 2) := by decide +kernel
theorem d_Mo_numerator_94 : decode prog_10_method_27_code 94 = .ok (.iload_n 2, 1) := by decide +kernel
theorem d_Mo_numerator_95 : decode prog_10_method_27_code 95 = .ok (.aload_n 0, 1) := by decide +kernel
theorem d_Mo_numerator_96 : decode prog_10_method_27_code 96 = .ok (.getfield 28, 3) := by decide +kernel
theorem d_Mo_numerator_99 : decode prog_10_method_27_code 99 = .ok (.iconst 1, 1) := by decide +kernel
theorem d_Mo_numerator_100 : decode prog_10_method_27_code 100 = .ok (.iaload, 1) := by decide +kernel
theorem d_Mo_numerator_101 : decode prog_10_method_27_code 101 = .ok (.imul, 1) := by decide +kernel
theorem d_Mo_numerator_102 : decode prog_10_method_27_code 102 = .ok (.aload_n 0, 1) := by decide +kernel
theorem d_Mo_numerator_103 : decode prog_10_method_27_code 103 = .ok (.getfield 7, 3) := by decide +kernel
theorem d_Mo_numerator_106 : decode prog_10_method_27_code 106 = .ok (.aload_n 0, 1) := by decide +kernel
theorem d_Mo_numerator_107 : decode prog_10_method_27_code 107 = .ok (.getfield 22, 3) := by decide +kernel
theorem d_Mo_numerator_110 : decode prog_10_method_27_code 110 = .ok (.iconst 0, 1) := by decide +kernel
theorem d_Mo_numerator_111 : decode prog_10_method_27_code 111 = .ok (.iaload, 1) := by decide +kernel
theorem d_Mo_numerator_112 : decode prog_10_method_27_code 112 = .ok (.aload_n 0, 1) := by decide +kernel
theorem d_Mo_numerator_113 : decode prog_10_method_27_code 113 = .ok (.getfield 25, 3) := by decide +kernel
theorem d_Mo_numerator_116 : decode prog_10_method_27_code 116 = .ok (.iconst 1, 1) := by decide +kernel
theorem d_Mo_numerator_117 : decode prog_10_method_27_code 117 = .ok (.iaload, 1) := by decide +kernel
theorem d_Mo_numerator_118 : decode prog_10_method_27_code 118 = .ok (.invokestatic 59, 3) := by decide +kernel
theorem d_Mo_numerator_121 : decode prog_10_method_27_code 121 = .ok (.iload_n 1, 1) := by decide +kernel
theorem d_Mo_numerator_122 : decode prog_10_method_27_code 122 = .ok (.iadd, 1) := by decide +kernel
theorem d_Mo_numerator_123 : decode prog_10_method_27_code 123 = .ok (.iaload, 1) := by decide +kernel
theorem d_Mo_numerator_124 : decode prog_10_method_27_code 124 = .ok (.imul, 1) := by decide +kernel
theorem d_Mo_numerator_125 : decode prog_10_method_27_code 125 = .ok (.iadd, 1) := by decide +kernel
theorem d_Mo_numerator_126 : decode prog_10_method_27_code 126 = .ok (.istore 4, 2) := by decide +kernel
theorem d_Mo_numerator_128 : decode prog_10_method_27_code 128 = .ok (.iload 4, 2) := by decide +kernel
theorem d_Mo_numerator_130 : decode prog_10_method_27_code 130 = .ok (.aload_n 0, 1) := by decide +kernel
theorem d_Mo_numerator_131 : decode prog_10_method_27_code 131 = .ok (.getfield 28, 3) := by decide +kernel
theorem d_Mo_numerator_134 : decode prog_10_method_27_code 134 = .ok (.iconst 0, 1) := by decide +kernel
theorem d_Mo_numerator_135 : decode prog_10_method_27_code 135 = .ok (.iaload, 1) := by decide +kernel
theorem d_Mo_numerator_136 : decode prog_10_method_27_code 136 = .ok (.aload_n 0, 1) := by decide +kernel
theorem d_Mo_numerator_137 : decode prog_10_method_27_code 137 = .ok (.getfield 28, 3) := by decide +kernel
theorem d_Mo_numerator_140 : decode prog_10_method_27_code 140 = .ok (.iconst 1, 1) := by decide +kernel
theorem d_Mo_numerator_141 : decode prog_10_method_27_code 141 = .ok (.iaload, 1) := by decide +kernel
theorem d_Mo_numerator_142 : decode prog_10_method_27_code 142 = .ok (.imul, 1) := by decide +kernel
theorem d_Mo_numerator_143 : decode prog_10_method_27_code 143 = .ok (.aload_n 0, 1) := by decide +kernel
theorem d_Mo_numerator_144 : decode prog_10_method_27_code 144 = .ok (.getfield 7, 3) := by decide +kernel
theorem d_Mo_numerator_147 : decode prog_10_method_27_code 147 = .ok (.aload_n 0, 1) := by decide +kernel
theorem d_Mo_numerator_148 : decode prog_10_method_27_code 148 = .ok (.getfield 25, 3) := by decide +kernel
theorem d_Mo_numerator_151 : decode prog_10_method_27_code 151 = .ok (.iconst 0, 1) := by decide +kernel
theorem d_Mo_numerator_152 : decode prog_10_method_27_code 152 = .ok (.iaload, 1) := by decide +kernel
theorem d_Mo_numerator_153 : decode prog_10_method_27_code 153 = .ok (.aload_n 0, 1) := by decide +kernel
theorem d_Mo_numerator_154 : decode prog_10_method_27_code 154 = .ok (.getfield 25, 3) := by decide +kernel
theorem d_Mo_numerator_157 : decode prog_10_method_27_code 157 = .ok (.iconst 1, 1) := by decide +kernel
theorem d_Mo_numerator_158 : decode prog_10_method_27_code 158 = .ok (.iaload, 1) := by decide +kernel
theorem d_Mo_numerator_159 : decode prog_10_method_27_code 159 = .ok (.invokestatic 59, 3) := by decide +kernel
theorem d_Mo_numerator_162 : decode prog_10_method_27_code 162 = .ok (.iload_n 1, 1) := by decide +kernel
theorem d_Mo_numerator_163 : decode prog_10_method_27_code 163 = .ok (.iadd, 1) := by decide +kernel
theorem d_Mo_numerator_164 : decode prog_10_method_27_code 164 = .ok (.iaload, 1) := by decide +kernel
theorem d_Mo_numerator_165 : decode prog_10_method_27_code 165 = .ok (.imul, 1) := by decide +kernel
theorem d_Mo_numerator_166 : decode prog_10_method_27_code 166 = .ok (.iadd, 1) := by decide +kernel
theorem d_Mo_numerator_167 : decode prog_10_method_27_code 167 = .ok (.ireturn, 1) := by decide +kernel
theorem d_Mo_denominator_0 : decode prog_10_method_26_code 0 = .ok (.aload_n 0, 1) := by decide +kernel
theorem d_Mo_denominator_1 : decode prog_10_method_26_code 1 = .ok (.getfield 31, 3) := by decide +kernel
theorem d_Mo_denominator_4 : decode prog_10_method_26_code 4 = .ok (.iconst 0, 1) := by decide +kernel
theorem d_Mo_denominator_5 : decode prog_10_method_26_code 5 = .ok (.iaload, 1) := by decide +kernel
theorem d_Mo_denominator_6 : decode prog_10_method_26_code 6 = .ok (.aload_n 0, 1) := by decide +kernel
theorem d_Mo_denominator_7 : decode prog_10_method_26_code 7 = .ok (.getfield 31, 3) := by decide +kernel
theorem d_Mo_denominator_10 : decode prog_10_method_26_code 10 = .ok (.iconst 1, 1) := by decide +kernel
theorem d_Mo_denominator_11 : decode prog_10_method_26_code 11 = .ok (.iaload, 1) := by decide +kernel
theorem d_Mo_denominator_12 : decode prog_10_method_26_code 12 = .ok (.imul, 1) := by decide +kernel
theorem d_Mo_denominator_13 : decode prog_10_method_26_code 13 = .ok (.ireturn, 1) := by decide +kernel
theorem d_Mo_goTo_0 : decode prog_10_method_53_code 0 = .ok (.aload_n 0, 1) := by decide +kernel
theorem d_Mo_goTo_1 : decode prog_10_method_53_code 1 = .ok (.getfield 7, 3) := by decide +kernel
theorem d_Mo_goTo_4 : decode prog_10_method_53_code 4 = .ok (.sipush 234, 3) := by decide +kernel
theorem d_Mo_goTo_7 : decode prog_10_method_53_code 7 = .ok (.iload_n 1, 1) := by decide +kernel
theorem d_Mo_goTo_8 : decode prog_10_method_53_code 8 = .ok (.iastore, 1) := by decide +kernel
theorem d_Mo_goTo_9 : decode prog_10_method_53_code 9 = .ok (.aload_n 0, 1) := by decide +kernel
theorem d_Mo_goTo_10 : decode prog_10_method_53_code 10 = .ok (.getfield 7, 3) := by decide +kernel
theorem d_Mo_goTo_13 : decode prog_10_method_53_code 13 = .ok (.sipush 235, 3) := by decide +kernel
theorem d_Mo_goTo_16 : decode prog_10_method_53_code 16 = .ok (.iload_n 2, 1) := by decide +kernel
theorem d_Mo_goTo_17 : decode prog_10_method_53_code 17 = .ok (.iastore, 1) := by decide +kernel
theorem d_Mo_goTo_18 : decode prog_10_method_53_code 18 = .ok (.aload_n 0, 1) := by decide +kernel
theorem d_Mo_goTo_19 : decode prog_10_method_53_code 19 = .ok (.getfield 7, 3) := by decide +kernel
theorem d_Mo_goTo_22 : decode prog_10_method_53_code 22 = .ok (.sipush 236, 3) := by decide +kernel
theorem d_Mo_goTo_25 : decode prog_10_method_53_code 25 = .ok (.aload_n 0, 1) := by decide +kernel
theorem d_Mo_goTo_26 : decode prog_10_method_53_code 26 = .ok (.iconst 0, 1) := by decide +kernel
theorem d_Mo_goTo_27 : decode prog_10_method_53_code 27 = .ok (.aload_n 0, 1) := by decide +kernel
theorem d_Mo_goTo_28 : decode prog_10_method_53_code 28 = .ok (.getfield 7, 3) := by decide +kernel
theorem d_Mo_goTo_31 : decode prog_10_method_53_code 31 = .ok (.sipush 236, 3) := by decide +kernel
theorem d_Mo_goTo_34 : decode prog_10_method_53_code 34 = .ok (.iaload, 1) := by decide +kernel
theorem d_Mo_goTo_35 : decode prog_10_method_53_code 35 = .ok (.iload_n 1, 1) := by decide +kernel
theorem d_Mo_goTo_36 : decode prog_10_method_53_code 36 = .ok (.invokevirtual 160, 3) := by decide +kernel
theorem d_Mo_goTo_39 : decode prog_10_method_53_code 39 = .ok (.iastore, 1) := by decide +kernel
theorem d_Mo_goTo_40 : decode prog_10_method_53_code 40 = .ok (.aload_n 0, 1) := by decide +kernel
theorem d_Mo_goTo_41 : decode prog_10_method_53_code 41 = .ok (.getfield 7, 3) := by decide +kernel
theorem d_Mo_goTo_44 : decode prog_10_method_53_code 44 = .ok (.sipush 237, 3) := by decide +kernel
theorem d_Mo_goTo_47 : decode prog_10_method_53_code 47 = .ok (.aload_n 0, 1) := by decide +kernel
theorem d_Mo_goTo_48 : decode prog_10_method_53_code 48 = .ok (.iconst 1, 1) := by decide +kernel
theorem d_Mo_goTo_49 : decode prog_10_method_53_code 49 = .ok (.aload_n 0, 1) := by decide +kernel
theorem d_Mo_goTo_50 : decode prog_10_method_53_code 50 = .ok (.getfield 7, 3) := by decide +kernel
theorem d_Mo_goTo_53 : decode prog_10_method_53_code 53 = .ok (.sipush 237, 3) := by decide +kernel
theorem d_Mo_goTo_56 : decode prog_10_method_53_code 56 = .ok (.iaload, 1) := by decide +kernel
theorem d_Mo_goTo_57 : decode prog_10_method_53_code 57 = .ok (.iload_n 2, 1) := by decide +kernel
theorem d_Mo_goTo_58 : decode prog_10_method_53_code 58 = .ok (.invokevirtual 160, 3) := by decide +kernel
theorem d_Mo_goTo_61 : decode prog_10_method_53_code 61 = .ok (.iastore, 1) := by decide +kernel
theorem d_Mo_goTo_62 : decode prog_10_method_53_code 62 = .ok (.return_, 1) := by decide +kernel
theorem d_Mo_zoneBehind_0 : decode prog_10_method_23_code 0 = .ok (.iload_n 2, 1) := by decide +kernel
theorem d_Mo_zoneBehind_1 : decode prog_10_method_23_code 1 = .ok (.istore 4, 2) := by decide +kernel
theorem d_Mo_zoneBehind_3 : decode prog_10_method_23_code 3 = .ok (.aload_n 0, 1) := by decide +kernel
theorem d_Mo_zoneBehind_4 : decode prog_10_method_23_code 4 = .ok (.iload_n 1, 1) := by decide +kernel
theorem d_Mo_zoneBehind_5 : decode prog_10_method_23_code 5 = .ok (.iload 4, 2) := by decide +kernel
theorem d_Mo_zoneBehind_7 : decode prog_10_method_23_code 7 = .ok (.invokevirtual 71, 3) := by decide +kernel
theorem d_Mo_zoneBehind_10 : decode prog_10_method_23_code 10 = .ok (.istore 5, 2) := by decide +kernel
theorem d_Mo_zoneBehind_12 : decode prog_10_method_23_code 12 = .ok (.iload 5, 2) := by decide +kernel
theorem d_Mo_zoneBehind_14 : decode prog_10_method_23_code 14 = .ok (.ldc 67, 2) := by decide +kernel
theorem d_Mo_zoneBehind_16 : decode prog_10_method_23_code 16 = .ok (.if_icmp .eq 39, 3) := by decide +kernel
theorem d_Mo_zoneBehind_19 : decode prog_10_method_23_code 19 = .ok (.iload_n 3, 1) := by decide +kernel
theorem d_Mo_zoneBehind_20 : decode prog_10_method_23_code 20 = .ok (.aload_n 0, 1) := by decide +kernel
theorem d_Mo_zoneBehind_21 : decode prog_10_method_23_code 21 = .ok (.iload_n 1, 1) := by decide +kernel
theorem d_Mo_zoneBehind_22 : decode prog_10_method_23_code 22 = .ok (.iload 5, 2) := by decide +kernel
theorem d_Mo_zoneBehind_24 : decode prog_10_method_23_code 24 = .ok (.iconst 0, 1) := by decide +kernel
theorem d_Mo_zoneBehind_25 : decode prog_10_method_23_code 25 = .ok (.invokevirtual 63, 3) := by decide +kernel
theorem d_Mo_zoneBehind_28 : decode prog_10_method_23_code 28 = .ok (.aload_n 0, 1) := by decide +kernel
theorem d_Mo_zoneBehind_29 : decode prog_10_method_23_code 29 = .ok (.iload_n 1, 1) := by decide +kernel
theorem d_Mo_zoneBehind_30 : decode prog_10_method_23_code 30 = .ok (.iload 5, 2) := by decide +kernel
theorem d_Mo_zoneBehind_32 : decode prog_10_method_23_code 32 = .ok (.iconst 2, 1) := by decide +kernel
theorem d_Mo_zoneBehind_33 : decode prog_10_method_23_code 33 = .ok (.invokevirtual 63, 3) := by decide +kernel
theorem d_Mo_zoneBehind_36 : decode prog_10_method_23_code 36 = .ok (.iadd, 1) := by decide +kernel
theorem d_Mo_zoneBehind_37 : decode prog_10_method_23_code 37 = .ok (.if_icmp .lt 18, 3) := by decide +kernel
theorem d_Mo_zoneBehind_40 : decode prog_10_method_23_code 40 = .ok (.iinc 4 1, 3) := by decide +kernel
theorem d_Mo_zoneBehind_43 : decode prog_10_method_23_code 43 = .ok (.aload_n 0, 1) := by decide +kernel
theorem d_Mo_zoneBehind_44 : decode prog_10_method_23_code 44 = .ok (.iload_n 1, 1) := by decide +kernel
theorem d_Mo_zoneBehind_45 : decode prog_10_method_23_code 45 = .ok (.iload 4, 2) := by decide +kernel
theorem d_Mo_zoneBehind_47 : decode prog_10_method_23_code 47 = .ok (.invokevirtual 71, 3) := by decide +kernel
theorem d_Mo_zoneBehind_50 : decode prog_10_method_23_code 50 = .ok (.istore 5, 2) := by decide +kernel
theorem d_Mo_zoneBehind_52 : decode prog_10_method_23_code 52 = .ok (.goto (-40), 3) := by decide +kernel
theorem d_Mo_zoneBehind_55 : decode prog_10_method_23_code 55 = .ok (.iload 4, 2) := by decide +kernel
theorem d_Mo_zoneBehind_57 : decode prog_10_method_23_code 57 = .ok (.ifCond .ne 8, 3) := by decide +kernel
theorem d_Mo_zoneBehind_60 : decode prog_10_method_23_code 60 = .ok (.ldc 67, 2) := by decide +kernel
theorem d_Mo_zoneBehind_62 : decode prog_10_method_23_code 62 = .ok (.goto 12, 3) := by decide +kernel
theorem d_Mo_zoneBehind_65 : decode prog_10_method_23_code 65 = .ok (.aload_n 0, 1) := by decide +kernel
theorem d_Mo_zoneBehind_66 : decode prog_10_method_23_code 66 = .ok (.iload_n 1, 1) := by decide +kernel
theorem d_Mo_zoneBehind_67 : decode prog_10_method_23_code 67 = .ok (.iload 4, 2) := by decide +kernel
theorem d_Mo_zoneBehind_69 : decode prog_10_method_23_code 69 = .ok (.iconst 1, 1) := by decide +kernel
theorem d_Mo_zoneBehind_70 : decode prog_10_method_23_code 70 = .ok (.isub, 1) := by decide +kernel
theorem d_Mo_zoneBehind_71 : decode prog_10_method_23_code 71 = .ok (.invokevirtual 71, 3) := by decide +kernel
theorem d_Mo_zoneBehind_74 : decode prog_10_method_23_code 74 = .ok (.istore 5, 2) := by decide +kernel
theorem d_Mo_zoneBehind_76 : decode prog_10_method_23_code 76 = .ok (.iload 5, 2) := by decide +kernel
theorem d_Mo_zoneBehind_78 : decode prog_10_method_23_code 78 = .ok (.ldc 67, 2) := by decide +kernel
theorem d_Mo_zoneBehind_80 : decode prog_10_method_23_code 80 = .ok (.if_icmp .eq 51, 3) := by decide +kernel
theorem d_Mo_zoneBehind_83 : decode prog_10_method_23_code 83 = .ok (.iload_n 3, 1) := by decide +kernel
theorem d_Mo_zoneBehind_84 : decode prog_10_method_23_code 84 = .ok (.aload_n 0, 1) := by decide +kernel
theorem d_Mo_zoneBehind_85 : decode prog_10_method_23_code 85 = .ok (.iload_n 1, 1) := by decide +kernel
theorem d_Mo_zoneBehind_86 : decode prog_10_method_23_code 86 = .ok (.iload 5, 2) := by decide +kernel
theorem d_Mo_zoneBehind_88 : decode prog_10_method_23_code 88 = .ok (.iconst 0, 1) := by decide +kernel
theorem d_Mo_zoneBehind_89 : decode prog_10_method_23_code 89 = .ok (.invokevirtual 63, 3) := by decide +kernel
theorem d_Mo_zoneBehind_92 : decode prog_10_method_23_code 92 = .ok (.aload_n 0, 1) := by decide +kernel
theorem d_Mo_zoneBehind_93 : decode prog_10_method_23_code 93 = .ok (.iload_n 1, 1) := by decide +kernel
theorem d_Mo_zoneBehind_94 : decode prog_10_method_23_code 94 = .ok (.iload 5, 2) := by decide +kernel
theorem d_Mo_zoneBehind_96 : decode prog_10_method_23_code 96 = .ok (.iconst 2, 1) := by decide +kernel
theorem d_Mo_zoneBehind_97 : decode prog_10_method_23_code 97 = .ok (.invokevirtual 63, 3) := by decide +kernel
theorem d_Mo_zoneBehind_100 : decode prog_10_method_23_code 100 = .ok (.isub, 1) := by decide +kernel
theorem d_Mo_zoneBehind_101 : decode prog_10_method_23_code 101 = .ok (.if_icmp .ge 30, 3) := by decide +kernel
theorem d_Mo_zoneBehind_104 : decode prog_10_method_23_code 104 = .ok (.iinc 4 (-1), 3) := by decide +kernel
theorem d_Mo_zoneBehind_107 : decode prog_10_method_23_code 107 = .ok (.iload 4, 2) := by decide +kernel
theorem d_Mo_zoneBehind_109 : decode prog_10_method_23_code 109 = .ok (.ifCond .ne 8, 3) := by decide +kernel
theorem d_Mo_zoneBehind_112 : decode prog_10_method_23_code 112 = .ok (.ldc 67, 2) := by decide +kernel
theorem d_Mo_zoneBehind_114 : decode prog_10_method_23_code 114 = .ok (.goto 12, 3) := by decide +kernel
theorem d_Mo_zoneBehind_117 : decode prog_10_method_23_code 117 = .ok (.aload_n 0, 1) := by decide +kernel
theorem d_Mo_zoneBehind_118 : decode prog_10_method_23_code 118 = .ok (.iload_n 1, 1) := by decide +kernel
theorem d_Mo_zoneBehind_119 : decode prog_10_method_23_code 119 = .ok (.iload 4, 2) := by decide +kernel
theorem d_Mo_zoneBehind_121 : decode prog_10_method_23_code 121 = .ok (.iconst 1, 1) := by decide +kernel
theorem d_Mo_zoneBehind_122 : decode prog_10_method_23_code 122 = .ok (.isub, 1) := by decide +kernel
theorem d_Mo_zoneBehind_123 : decode prog_10_method_23_code 123 = .ok (.invokevirtual 71, 3) := by decide +kernel
theorem d_Mo_zoneBehind_126 : decode prog_10_method_23_code 126 = .ok (.istore 5, 2) := by decide +kernel
theorem d_Mo_zoneBehind_128 : decode prog_10_method_23_code 128 = .ok (.goto (-52), 3) := by decide +kernel
theorem d_Mo_zoneBehind_131 : decode prog_10_method_23_code 131 = .ok (.iload 4, 2) := by decide +kernel
theorem d_Mo_zoneBehind_133 : decode prog_10_method_23_code 133 = .ok (.ireturn, 1) := by decide +kernel
theorem d_Mo_jump_0 : decode prog_10_method_52_code 0 = .ok (.aload_n 0, 1) := by decide +kernel
theorem d_Mo_jump_1 : decode prog_10_method_52_code 1 = .ok (.invokevirtual 154, 3) := by decide +kernel
theorem d_Mo_jump_4 : decode prog_10_method_52_code 4 = .ok (.iconst 0, 1) := by decide +kernel
theorem d_Mo_jump_5 : decode prog_10_method_52_code 5 = .ok (.istore_n 1, 1) := by decide +kernel
theorem d_Mo_jump_6 : decode prog_10_method_52_code 6 = .ok (.iconst 0, 1) := by decide +kernel
theorem d_Mo_jump_7 : decode prog_10_method_52_code 7 = .ok (.istore_n 2, 1) := by decide +kernel
theorem d_Mo_jump_8 : decode prog_10_method_52_code 8 = .ok (.iload_n 2, 1) := by decide +kernel
theorem d_Mo_jump_9 : decode prog_10_method_52_code 9 = .ok (.iconst 3, 1) := by decide +kernel
theorem d_Mo_jump_10 : decode prog_10_method_52_code 10 = .ok (.if_icmp .ge 35, 3) := by decide +kernel
theorem d_Mo_jump_13 : decode prog_10_method_52_code 13 = .ok (.aload_n 0, 1) := by decide +kernel
theorem d_Mo_jump_14 : decode prog_10_method_52_code 14 = .ok (.iload_n 2, 1) := by decide +kernel
theorem d_Mo_jump_15 : decode prog_10_method_52_code 15 = .ok (.invokevirtual 157, 3) := by decide +kernel
theorem d_Mo_jump_18 : decode prog_10_method_52_code 18 = .ok (.aload_n 0, 1) := by decide +kernel
theorem d_Mo_jump_19 : decode prog_10_method_52_code 19 = .ok (.getfield 34, 3) := by decide +kernel
theorem d_Mo_jump_22 : decode prog_10_method_52_code 22 = .ok (.iload_n 2, 1) := by decide +kernel
theorem d_Mo_jump_23 : decode prog_10_method_52_code 23 = .ok (.iaload, 1) := by decide +kernel
theorem d_Mo_jump_24 : decode prog_10_method_52_code 24 = .ok (.invokestatic 85, 3) := by decide +kernel
theorem d_Mo_jump_27 : decode prog_10_method_52_code 27 = .ok (.istore_n 3, 1) := by decide +kernel
theorem d_Mo_jump_28 : decode prog_10_method_52_code 28 = .ok (.iload_n 3, 1) := by decide +kernel
theorem d_Mo_jump_29 : decode prog_10_method_52_code 29 = .ok (.iload_n 1, 1) := by decide +kernel
theorem d_Mo_jump_30 : decode prog_10_method_52_code 30 = .ok (.if_icmp .le 7, 3) := by decide +kernel
theorem d_Mo_jump_33 : decode prog_10_method_52_code 33 = .ok (.iload_n 3, 1) := by decide +kernel
theorem d_Mo_jump_34 : decode prog_10_method_52_code 34 = .ok (.goto 4, 3) := by decide +kernel
theorem d_Mo_jump_37 : decode prog_10_method_52_code 37 = .ok (.iload_n 1, 1) := by decide +kernel
theorem d_Mo_jump_38 : decode prog_10_method_52_code 38 = .ok (.istore_n 1, 1) := by decide +kernel
theorem d_Mo_jump_39 : decode prog_10_method_52_code 39 = .ok (.iinc 2 1, 3) := by decide +kernel
theorem d_Mo_jump_42 : decode prog_10_method_52_code 42 = .ok (.goto (-34), 3) := by decide +kernel
theorem d_Mo_jump_45 : decode prog_10_method_52_code 45 = .ok (.iload_n 1, 1) := by decide +kernel
theorem d_Mo_jump_46 : decode prog_10_method_52_code 46 = .ok (.ireturn, 1) := by decide +kernel
theorem d_Mo_newEntry_0 : decode prog_10_method_50_code 0 = .ok (.aload_n 0, 1) := by decide +kernel
theorem d_Mo_newEntry_1 : decode prog_10_method_50_code 1 = .ok (.getfield 7, 3) := by decide +kernel
theorem d_Mo_newEntry_4 : decode prog_10_method_50_code 4 = .ok (.sipush 254, 3) := by decide +kernel
theorem d_Mo_newEntry_7 : decode prog_10_method_50_code 7 = .ok (.iaload, 1) := by decide +kernel
theorem d_Mo_newEntry_8 : decode prog_10_method_50_code 8 = .ok (.bipush 20, 2) := by decide +kernel
theorem d_Mo_newEntry_10 : decode prog_10_method_50_code 10 = .ok (.if_icmp .ne 47, 3) := by decide +kernel
theorem d_Mo_newEntry_13 : decode prog_10_method_50_code 13 = .ok (.sipush 255, 3) := by decide +kernel
theorem d_Mo_newEntry_16 : decode prog_10_method_50_code 16 = .ok (.istore_n 1, 1) := by decide +kernel
theorem d_Mo_newEntry_17 : decode prog_10_method_50_code 17 = .ok (.iload_n 1, 1) := by decide +kernel
theorem d_Mo_newEntry_18 : decode prog_10_method_50_code 18 = .ok (.sipush 407, 3) := by decide +kernel
theorem d_Mo_newEntry_21 : decode prog_10_method_50_code 21 = .ok (.if_icmp .ge 24, 3) := by decide +kernel
theorem d_Mo_newEntry_24 : decode prog_10_method_50_code 24 = .ok (.aload_n 0, 1) := by decide +kernel
theorem d_Mo_newEntry_25 : decode prog_10_method_50_code 25 = .ok (.getfield 7, 3) := by decide +kernel
theorem d_Mo_newEntry_28 : decode prog_10_method_50_code 28 = .ok (.iload_n 1, 1) := by decide +kernel
theorem d_Mo_newEntry_29 : decode prog_10_method_50_code 29 = .ok (.aload_n 0, 1) := by decide +kernel
theorem d_Mo_newEntry_30 : decode prog_10_method_50_code 30 = .ok (.getfield 7, 3) := by decide +kernel
theorem d_Mo_newEntry_33 : decode prog_10_method_50_code 33 = .ok (.iload_n 1, 1) := by decide +kernel
theorem d_Mo_newEntry_34 : decode prog_10_method_50_code 34 = .ok (.bipush 8, 2) := by decide +kernel
theorem d_Mo_newEntry_36 : decode prog_10_method_50_code 36 = .ok (.iadd, 1) := by decide +kernel
theorem d_Mo_newEntry_37 : decode prog_10_method_50_code 37 = .ok (.iaload, 1) := by decide +kernel
theorem d_Mo_newEntry_38 : decode prog_10_method_50_code 38 = .ok (.iastore, 1) := by decide +kernel
theorem d_Mo_newEntry_39 : decode prog_10_method_50_code 39 = .ok (.iinc 1 1, 3) := by decide +kernel
theorem d_Mo_newEntry_42 : decode prog_10_method_50_code 42 = .ok (.goto (-25), 3) := by decide +kernel
theorem d_Mo_newEntry_45 : decode prog_10_method_50_code 45 = .ok (.aload_n 0, 1) := by decide +kernel
theorem d_Mo_newEntry_46 : decode prog_10_method_50_code 46 = .ok (.getfield 7, 3) := by decide +kernel
theorem d_Mo_newEntry_49 : decode prog_10_method_50_code 49 = .ok (.sipush 254, 3) := by decide +kernel
theorem d_Mo_newEntry_52 : decode prog_10_method_50_code 52 = .ok (.dup2, 1) := by decide +kernel
theorem d_Mo_newEntry_53 : decode prog_10_method_50_code 53 = .ok (.iaload, 1) := by decide +kernel
theorem d_Mo_newEntry_54 : decode prog_10_method_50_code 54 = .ok (.iconst 1, 1) := by decide +kernel
theorem d_Mo_newEntry_55 : decode prog_10_method_50_code 55 = .ok (.isub, 1) := by decide +kernel
theorem d_Mo_newEntry_56 : decode prog_10_method_50_code 56 = .ok (.iastore, 1) := by decide +kernel
theorem d_Mo_newEntry_57 : decode prog_10_method_50_code 57 = .ok (.aload_n 0, 1) := by decide +kernel
theorem d_Mo_newEntry_58 : decode prog_10_method_50_code 58 = .ok (.getfield 7, 3) := by decide +kernel
theorem d_Mo_newEntry_61 : decode prog_10_method_50_code 61 = .ok (.sipush 254, 3) := by decide +kernel
theorem d_Mo_newEntry_64 : decode prog_10_method_50_code 64 = .ok (.dup2, 1) := by decide +kernel
theorem d_Mo_newEntry_65 : decode prog_10_method_50_code 65 = .ok (.iaload, 1) := by decide +kernel
theorem d_Mo_newEntry_66 : decode prog_10_method_50_code 66 = .ok (.iconst 1, 1) := by decide +kernel
theorem d_Mo_newEntry_67 : decode prog_10_method_50_code 67 = .ok (.iadd, 1) := by decide +kernel
theorem d_Mo_newEntry_68 : decode prog_10_method_50_code 68 = .ok (.iastore, 1) := by decide +kernel
theorem d_Mo_newEntry_69 : decode prog_10_method_50_code 69 = .ok (.sipush 255, 3) := by decide +kernel
theorem d_Mo_newEntry_72 : decode prog_10_method_50_code 72 = .ok (.bipush 8, 2) := by decide +kernel
theorem d_Mo_newEntry_74 : decode prog_10_method_50_code 74 = .ok (.aload_n 0, 1) := by decide +kernel
theorem d_Mo_newEntry_75 : decode prog_10_method_50_code 75 = .ok (.getfield 7, 3) := by decide +kernel
theorem d_Mo_newEntry_78 : decode prog_10_method_50_code 78 = .ok (.sipush 254, 3) := by decide +kernel
theorem d_Mo_newEntry_81 : decode prog_10_method_50_code 81 = .ok (.iaload, 1) := by decide +kernel
theorem d_Mo_newEntry_82 : decode prog_10_method_50_code 82 = .ok (.iconst 1, 1) := by decide +kernel
theorem d_Mo_newEntry_83 : decode prog_10_method_50_code 83 = .ok (.isub, 1) := by decide +kernel
theorem d_Mo_newEntry_84 : decode prog_10_method_50_code 84 = .ok (.imul, 1) := by decide +kernel
theorem d_Mo_newEntry_85 : decode prog_10_method_50_code 85 = .ok (.iadd, 1) := by decide +kernel
theorem d_Mo_newEntry_86 : decode prog_10_method_50_code 86 = .ok (.ireturn, 1) := by decide +kernel
theorem d_Mo_sweep_0 : decode prog_10_method_57_code 0 = .ok (.aload_n 0, 1) := by decide +kernel
theorem d_Mo_sweep_1 : decode prog_10_method_57_code 1 = .ok (.iconst 0, 1) := by decide +kernel
theorem d_Mo_sweep_2 : decode prog_10_method_57_code 2 = .ok (.putfield 37, 3) := by decide +kernel
theorem d_Mo_sweep_5 : decode prog_10_method_57_code 5 = .ok (.iload_n 1, 1) := by decide +kernel
theorem d_Mo_sweep_6 : decode prog_10_method_57_code 6 = .ok (.invokestatic 51, 3) := by decide +kernel
theorem d_Mo_sweep_9 : decode prog_10_method_57_code 9 = .ok (.ifCond .eq 21, 3) := by decide +kernel
theorem d_Mo_sweep_12 : decode prog_10_method_57_code 12 = .ok (.iload_n 2, 1) := by decide +kernel
theorem d_Mo_sweep_13 : decode prog_10_method_57_code 13 = .ok (.invokestatic 179, 3) := by decide +kernel
theorem d_Mo_sweep_16 : decode prog_10_method_57_code 16 = .ok (.ifCond .eq 14, 3) := by decide +kernel
theorem d_Mo_sweep_19 : decode prog_10_method_57_code 19 = .ok (.iload_n 3, 1) := by decide +kernel
theorem d_Mo_sweep_20 : decode prog_10_method_57_code 20 = .ok (.iconst 1, 1) := by decide +kernel
theorem d_Mo_sweep_21 : decode prog_10_method_57_code 21 = .ok (.sipush 1000, 3) := by decide +kernel
theorem d_Mo_sweep_24 : decode prog_10_method_57_code 24 = .ok (.invokestatic 47, 3) := by decide +kernel
theorem d_Mo_sweep_27 : decode prog_10_method_57_code 27 = .ok (.ifCond .ne 6, 3) := by decide +kernel
theorem d_Mo_sweep_30 : decode prog_10_method_57_code 30 = .ok (.ldc 112, 2) := by decide +kernel
theorem d_Mo_sweep_32 : decode prog_10_method_57_code 32 = .ok (.ireturn, 1) := by decide +kernel
theorem d_Mo_sweep_33 : decode prog_10_method_57_code 33 = .ok (.aload_n 0, 1) := by decide +kernel
theorem d_Mo_sweep_34 : decode prog_10_method_57_code 34 = .ok (.getfield 7, 3) := by decide +kernel
theorem d_Mo_sweep_37 : decode prog_10_method_57_code 37 = .ok (.sipush 234, 3) := by decide +kernel
theorem d_Mo_sweep_40 : decode prog_10_method_57_code 40 = .ok (.iload_n 1, 1) := by decide +kernel
theorem d_Mo_sweep_41 : decode prog_10_method_57_code 41 = .ok (.iadd, 1) := by decide +kernel
theorem d_Mo_sweep_42 : decode prog_10_method_57_code 42 = .ok (.iaload, 1) := by decide +kernel
theorem d_Mo_sweep_43 : decode prog_10_method_57_code 43 = .ok (.iload_n 2, 1) := by decide +kernel
theorem d_Mo_sweep_44 : decode prog_10_method_57_code 44 = .ok (.if_icmp .ne 6, 3) := by decide +kernel
theorem d_Mo_sweep_47 : decode prog_10_method_57_code 47 = .ok (.ldc 117, 2) := by decide +kernel
theorem d_Mo_sweep_49 : decode prog_10_method_57_code 49 = .ok (.ireturn, 1) := by decide +kernel
theorem d_Mo_sweep_50 : decode prog_10_method_57_code 50 = .ok (.aload_n 0, 1) := by decide +kernel
theorem d_Mo_sweep_51 : decode prog_10_method_57_code 51 = .ok (.invokevirtual 119, 3) := by decide +kernel
theorem d_Mo_sweep_54 : decode prog_10_method_57_code 54 = .ok (.iconst 0, 1) := by decide +kernel
theorem d_Mo_sweep_55 : decode prog_10_method_57_code 55 = .ok (.istore 4, 2) := by decide +kernel
theorem d_Mo_sweep_57 : decode prog_10_method_57_code 57 = .ok (.aload_n 0, 1) := by decide +kernel
theorem d_Mo_sweep_58 : decode prog_10_method_57_code 58 = .ok (.getfield 7, 3) := by decide +kernel
theorem d_Mo_sweep_61 : decode prog_10_method_57_code 61 = .ok (.sipush 234, 3) := by decide +kernel
theorem d_Mo_sweep_64 : decode prog_10_method_57_code 64 = .ok (.iload_n 1, 1) := by decide +kernel
theorem d_Mo_sweep_65 : decode prog_10_method_57_code 65 = .ok (.iadd, 1) := by decide +kernel
theorem d_Mo_sweep_66 : decode prog_10_method_57_code 66 = .ok (.iaload, 1) := by decide +kernel
theorem d_Mo_sweep_67 : decode prog_10_method_57_code 67 = .ok (.istore 5, 2) := by decide +kernel
theorem d_Mo_sweep_69 : decode prog_10_method_57_code 69 = .ok (.iload 5, 2) := by decide +kernel
theorem d_Mo_sweep_71 : decode prog_10_method_57_code 71 = .ok (.iload_n 2, 1) := by decide +kernel
theorem d_Mo_sweep_72 : decode prog_10_method_57_code 72 = .ok (.if_icmp .eq 128, 3) := by decide +kernel
theorem d_Mo_sweep_75 : decode prog_10_method_57_code 75 = .ok (.iload 5, 2) := by decide +kernel
theorem d_Mo_sweep_77 : decode prog_10_method_57_code 77 = .ok (.iload_n 2, 1) := by decide +kernel
theorem d_Mo_sweep_78 : decode prog_10_method_57_code 78 = .ok (.invokestatic 85, 3) := by decide +kernel
theorem d_Mo_sweep_81 : decode prog_10_method_57_code 81 = .ok (.iload_n 3, 1) := by decide +kernel
theorem d_Mo_sweep_82 : decode prog_10_method_57_code 82 = .ok (.if_icmp .ge 12, 3) := by decide +kernel
theorem d_Mo_sweep_85 : decode prog_10_method_57_code 85 = .ok (.iload 5, 2) := by decide +kernel
theorem d_Mo_sweep_87 : decode prog_10_method_57_code 87 = .ok (.iload_n 2, 1) := by decide +kernel
theorem d_Mo_sweep_88 : decode prog_10_method_57_code 88 = .ok (.invokestatic 85, 3) := by decide +kernel
theorem d_Mo_sweep_91 : decode prog_10_method_57_code 91 = .ok (.goto 4, 3) := by decide +kernel
theorem d_Mo_sweep_94 : decode prog_10_method_57_code 94 = .ok (.iload_n 3, 1) := by decide +kernel
theorem d_Mo_sweep_95 : decode prog_10_method_57_code 95 = .ok (.istore 6, 2) := by decide +kernel
theorem d_Mo_sweep_97 : decode prog_10_method_57_code 97 = .ok (.iload 5, 2) := by decide +kernel
theorem d_Mo_sweep_99 : decode prog_10_method_57_code 99 = .ok (.iload 5, 2) := by decide +kernel
theorem d_Mo_sweep_101 : decode prog_10_method_57_code 101 = .ok (.iload_n 2, 1) := by decide +kernel
theorem d_Mo_sweep_102 : decode prog_10_method_57_code 102 = .ok (.if_icmp .ge 8, 3) := by decide +kernel
theorem d_Mo_sweep_105 : decode prog_10_method_57_code 105 = .ok (.iload 6, 2) := by decide +kernel
theorem d_Mo_sweep_107 : decode prog_10_method_57_code 107 = .ok (.goto 6, 3) := by decide +kernel
theorem d_Mo_sweep_110 : decode prog_10_method_57_code 110 = .ok (.iload 6, 2) := by decide +kernel
theorem d_Mo_sweep_112 : decode prog_10_method_57_code 112 = .ok (.ineg, 1) := by decide +kernel
theorem d_Mo_sweep_113 : decode prog_10_method_57_code 113 = .ok (.iadd, 1) := by decide +kernel
theorem d_Mo_sweep_114 : decode prog_10_method_57_code 114 = .ok (.istore 5, 2) := by decide +kernel
theorem d_Mo_sweep_116 : decode prog_10_method_57_code 116 = .ok (.aload_n 0, 1) := by decide +kernel
theorem d_Mo_sweep_117 : decode prog_10_method_57_code 117 = .ok (.getfield 7, 3) := by decide +kernel
theorem d_Mo_sweep_120 : decode prog_10_method_57_code 120 = .ok (.sipush 236, 3) := by decide +kernel
theorem d_Mo_sweep_123 : decode prog_10_method_57_code 123 = .ok (.iload_n 1, 1) := by decide +kernel
theorem d_Mo_sweep_124 : decode prog_10_method_57_code 124 = .ok (.iadd, 1) := by decide +kernel
theorem d_Mo_sweep_125 : decode prog_10_method_57_code 125 = .ok (.iaload, 1) := by decide +kernel
theorem d_Mo_sweep_126 : decode prog_10_method_57_code 126 = .ok (.istore 7, 2) := by decide +kernel
theorem d_Mo_sweep_128 : decode prog_10_method_57_code 128 = .ok (.iload_n 1, 1) := by decide +kernel
theorem d_Mo_sweep_129 : decode prog_10_method_57_code 129 = .ok (.ifCond .ne 20, 3) := by decide +kernel
theorem d_Mo_sweep_132 : decode prog_10_method_57_code 132 = .ok (.aload_n 0, 1) := by decide +kernel
theorem d_Mo_sweep_133 : decode prog_10_method_57_code 133 = .ok (.iload 5, 2) := by decide +kernel
theorem d_Mo_sweep_135 : decode prog_10_method_57_code 135 = .ok (.aload_n 0, 1) := by decide +kernel
theorem d_Mo_sweep_136 : decode prog_10_method_57_code 136 = .ok (.getfield 7, 3) := by decide +kernel
theorem d_Mo_sweep_139 : decode prog_10_method_57_code 139 = .ok (.sipush 235, 3) := by decide +kernel
theorem d_Mo_sweep_142 : decode prog_10_method_57_code 142 = .ok (.iaload, 1) := by decide +kernel
theorem d_Mo_sweep_143 : decode prog_10_method_57_code 143 = .ok (.invokevirtual 182, 3) := by decide +kernel
theorem d_Mo_sweep_146 : decode prog_10_method_57_code 146 = .ok (.goto 17, 3) := by decide +kernel
theorem d_Mo_sweep_149 : decode prog_10_method_57_code 149 = .ok (.aload_n 0, 1) := by decide +kernel
theorem d_Mo_sweep_150 : decode prog_10_method_57_code 150 = .ok (.aload_n 0, 1) := by decide +kernel
theorem d_Mo_sweep_151 : decode prog_10_method_57_code 151 = .ok (.getfield 7, 3) := by decide +kernel
theorem d_Mo_sweep_154 : decode prog_10_method_57_code 154 = .ok (.sipush 234, 3) := by decide +kernel
theorem d_Mo_sweep_157 : decode prog_10_method_57_code 157 = .ok (.iaload, 1) := by decide +kernel
theorem d_Mo_sweep_158 : decode prog_10_method_57_code 158 = .ok (.iload 5, 2) := by decide +kernel
theorem d_Mo_sweep_160 : decode prog_10_method_57_code 160 = .ok (.invokevirtual 182, 3) := by decide +kernel
theorem d_Mo_sweep_163 : decode prog_10_method_57_code 163 = .ok (.istore 8, 2) := by decide +kernel
theorem d_Mo_sweep_165 : decode prog_10_method_57_code 165 = .ok (.iload 4, 2) := by decide +kernel
theorem d_Mo_sweep_167 : decode prog_10_method_57_code 167 = .ok (.iload 8, 2) := by decide +kernel
theorem d_Mo_sweep_169 : decode prog_10_method_57_code 169 = .ok (.ldc 67, 2) := by decide +kernel
theorem d_Mo_sweep_171 : decode prog_10_method_57_code 171 = .ok (.if_icmp .eq 22, 3) := by decide +kernel
theorem d_Mo_sweep_174 : decode prog_10_method_57_code 174 = .ok (.aload_n 0, 1) := by decide +kernel
theorem d_Mo_sweep_175 : decode prog_10_method_57_code 175 = .ok (.getfield 7, 3) := by decide +kernel
theorem d_Mo_sweep_178 : decode prog_10_method_57_code 178 = .ok (.sipush 236, 3) := by decide +kernel
theorem d_Mo_sweep_181 : decode prog_10_method_57_code 181 = .ok (.iload_n 1, 1) := by decide +kernel
theorem d_Mo_sweep_182 : decode prog_10_method_57_code 182 = .ok (.iadd, 1) := by decide +kernel
theorem d_Mo_sweep_183 : decode prog_10_method_57_code 183 = .ok (.iaload, 1) := by decide +kernel
theorem d_Mo_sweep_184 : decode prog_10_method_57_code 184 = .ok (.iload 7, 2) := by decide +kernel
theorem d_Mo_sweep_186 : decode prog_10_method_57_code 186 = .ok (.if_icmp .eq 7, 3) := by decide +kernel
theorem d_Mo_sweep_189 : decode prog_10_method_57_code 189 = .ok (.iconst 1, 1) := by decide +kernel
theorem d_Mo_sweep_190 : decode prog_10_method_57_code 190 = .ok (.goto 4, 3) := by decide +kernel
theorem d_Mo_sweep_193 : decode prog_10_method_57_code 193 = .ok (.iconst 0, 1) := by decide +kernel
theorem d_Mo_sweep_194 : decode prog_10_method_57_code 194 = .ok (.iadd, 1) := by decide +kernel
theorem d_Mo_sweep_195 : decode prog_10_method_57_code 195 = .ok (.istore 4, 2) := by decide +kernel
theorem d_Mo_sweep_197 : decode prog_10_method_57_code 197 = .ok (.goto (-128), 3) := by decide +kernel
theorem d_Mo_sweep_200 : decode prog_10_method_57_code 200 = .ok (.iload 4, 2) := by decide +kernel
theorem d_Mo_sweep_202 : decode prog_10_method_57_code 202 = .ok (.ireturn, 1) := by decide +kernel
theorem d_Mo_take_0 : decode prog_10_method_59_code 0 = .ok (.aload_n 0, 1) := by decide +kernel
theorem d_Mo_take_1 : decode prog_10_method_59_code 1 = .ok (.iconst 0, 1) := by decide +kernel
theorem d_Mo_take_2 : decode prog_10_method_59_code 2 = .ok (.putfield 37, 3) := by decide +kernel
theorem d_Mo_take_5 : decode prog_10_method_59_code 5 = .ok (.iload_n 1, 1) := by decide +kernel
theorem d_Mo_take_6 : decode prog_10_method_59_code 6 = .ok (.invokestatic 185, 3) := by decide +kernel
theorem d_Mo_take_9 : decode prog_10_method_59_code 9 = .ok (.ifCond .ne 6, 3) := by decide +kernel
theorem d_Mo_take_12 : decode prog_10_method_59_code 12 = .ok (.ldc 112, 2) := by decide +kernel
theorem d_Mo_take_14 : decode prog_10_method_59_code 14 = .ok (.ireturn, 1) := by decide +kernel
theorem d_Mo_take_15 : decode prog_10_method_59_code 15 = .ok (.aload_n 0, 1) := by decide +kernel
theorem d_Mo_take_16 : decode prog_10_method_59_code 16 = .ok (.invokevirtual 119, 3) := by decide +kernel
theorem d_Mo_take_19 : decode prog_10_method_59_code 19 = .ok (.sipush 415, 3) := by decide +kernel
theorem d_Mo_take_22 : decode prog_10_method_59_code 22 = .ok (.sipush 235, 3) := by decide +kernel
theorem d_Mo_take_25 : decode prog_10_method_59_code 25 = .ok (.iload_n 1, 1) := by decide +kernel
theorem d_Mo_take_26 : decode prog_10_method_59_code 26 = .ok (.imul, 1) := by decide +kernel
theorem d_Mo_take_27 : decode prog_10_method_59_code 27 = .ok (.iadd, 1) := by decide +kernel
theorem d_Mo_take_28 : decode prog_10_method_59_code 28 = .ok (.istore_n 2, 1) := by decide +kernel
theorem d_Mo_take_29 : decode prog_10_method_59_code 29 = .ok (.aload_n 0, 1) := by decide +kernel
theorem d_Mo_take_30 : decode prog_10_method_59_code 30 = .ok (.getfield 7, 3) := by decide +kernel
theorem d_Mo_take_33 : decode prog_10_method_59_code 33 = .ok (.iload_n 2, 1) := by decide +kernel
theorem d_Mo_take_34 : decode prog_10_method_59_code 34 = .ok (.iconst 1, 1) := by decide +kernel
theorem d_Mo_take_35 : decode prog_10_method_59_code 35 = .ok (.iastore, 1) := by decide +kernel
theorem d_Mo_take_36 : decode prog_10_method_59_code 36 = .ok (.iconst 0, 1) := by decide +kernel
theorem d_Mo_take_37 : decode prog_10_method_59_code 37 = .ok (.istore_n 3, 1) := by decide +kernel
theorem d_Mo_take_38 : decode prog_10_method_59_code 38 = .ok (.iload_n 3, 1) := by decide +kernel
theorem d_Mo_take_39 : decode prog_10_method_59_code 39 = .ok (.sipush 234, 3) := by decide +kernel
theorem d_Mo_take_42 : decode prog_10_method_59_code 42 = .ok (.if_icmp .ge 25, 3) := by decide +kernel
theorem d_Mo_take_45 : decode prog_10_method_59_code 45 = .ok (.aload_n 0, 1) := by decide +kernel
theorem d_Mo_take_46 : decode prog_10_method_59_code 46 = .ok (.getfield 7, 3) := by decide +kernel
theorem d_Mo_take_49 : decode prog_10_method_59_code 49 = .ok (.iload_n 2, 1) := by decide +kernel
theorem d_Mo_take_50 : decode prog_10_method_59_code 50 = .ok (.iconst 1, 1) := by decide +kernel
theorem d_Mo_take_51 : decode prog_10_method_59_code 51 = .ok (.iadd, 1) := by decide +kernel
theorem d_Mo_take_52 : decode prog_10_method_59_code 52 = .ok (.iload_n 3, 1) := by decide +kernel
theorem d_Mo_take_53 : decode prog_10_method_59_code 53 = .ok (.iadd, 1) := by decide +kernel
theorem d_Mo_take_54 : decode prog_10_method_59_code 54 = .ok (.aload_n 0, 1) := by decide +kernel
theorem d_Mo_take_55 : decode prog_10_method_59_code 55 = .ok (.getfield 7, 3) := by decide +kernel
theorem d_Mo_take_58 : decode prog_10_method_59_code 58 = .ok (.iload_n 3, 1) := by decide +kernel
theorem d_Mo_take_59 : decode prog_10_method_59_code 59 = .ok (.iaload, 1) := by decide +kernel
theorem d_Mo_take_60 : decode prog_10_method_59_code 60 = .ok (.iastore, 1) := by decide +kernel
theorem d_Mo_take_61 : decode prog_10_method_59_code 61 = .ok (.iinc 3 1, 3) := by decide +kernel
theorem d_Mo_take_64 : decode prog_10_method_59_code 64 = .ok (.goto (-26), 3) := by decide +kernel
theorem d_Mo_take_67 : decode prog_10_method_59_code 67 = .ok (.aload_n 0, 1) := by decide +kernel
theorem d_Mo_take_68 : decode prog_10_method_59_code 68 = .ok (.invokevirtual 188, 3) := by decide +kernel
theorem d_Mo_take_71 : decode prog_10_method_59_code 71 = .ok (.ireturn, 1) := by decide +kernel
theorem d_Mo_isPlace_0 : decode prog_10_method_58_code 0 = .ok (.iload_n 0, 1) := by decide +kernel
theorem d_Mo_isPlace_1 : decode prog_10_method_58_code 1 = .ok (.iconst 0, 1) := by decide +kernel
theorem d_Mo_isPlace_2 : decode prog_10_method_58_code 2 = .ok (.iconst 2, 1) := by decide +kernel
theorem d_Mo_isPlace_3 : decode prog_10_method_58_code 3 = .ok (.invokestatic 47, 3) := by decide +kernel
theorem d_Mo_isPlace_6 : decode prog_10_method_58_code 6 = .ok (.ireturn, 1) := by decide +kernel
theorem d_Mo_regions_0 : decode prog_10_method_17_code 0 = .ok (.aload_n 0, 1) := by decide +kernel
theorem d_Mo_regions_1 : decode prog_10_method_17_code 1 = .ok (.iconst 0, 1) := by decide +kernel
theorem d_Mo_regions_2 : decode prog_10_method_17_code 2 = .ok (.invokevirtual 55, 3) := by decide +kernel
theorem d_Mo_regions_5 : decode prog_10_method_17_code 5 = .ok (.iconst 1, 1) := by decide +kernel
theorem d_Mo_regions_6 : decode prog_10_method_17_code 6 = .ok (.iadd, 1) := by decide +kernel
theorem d_Mo_regions_7 : decode prog_10_method_17_code 7 = .ok (.aload_n 0, 1) := by decide +kernel
theorem d_Mo_regions_8 : decode prog_10_method_17_code 8 = .ok (.iconst 1, 1) := by decide +kernel
theorem d_Mo_regions_9 : decode prog_10_method_17_code 9 = .ok (.invokevirtual 55, 3) := by decide +kernel
theorem d_Mo_regions_12 : decode prog_10_method_17_code 12 = .ok (.iconst 1, 1) := by decide +kernel
theorem d_Mo_regions_13 : decode prog_10_method_17_code 13 = .ok (.iadd, 1) := by decide +kernel
theorem d_Mo_regions_14 : decode prog_10_method_17_code 14 = .ok (.imul, 1) := by decide +kernel
theorem d_Mo_regions_15 : decode prog_10_method_17_code 15 = .ok (.ireturn, 1) := by decide +kernel
theorem d_Mo_restore_0 : decode prog_10_method_60_code 0 = .ok (.aload_n 0, 1) := by decide +kernel
theorem d_Mo_restore_1 : decode prog_10_method_60_code 1 = .ok (.iconst 0, 1) := by decide +kernel
theorem d_Mo_restore_2 : decode prog_10_method_60_code 2 = .ok (.putfield 37, 3) := by decide +kernel
theorem d_Mo_restore_5 : decode prog_10_method_60_code 5 = .ok (.iload_n 1, 1) := by decide +kernel
theorem d_Mo_restore_6 : decode prog_10_method_60_code 6 = .ok (.invokestatic 185, 3) := by decide +kernel
theorem d_Mo_restore_9 : decode prog_10_method_60_code 9 = .ok (.ifCond .ne 6, 3) := by decide +kernel
theorem d_Mo_restore_12 : decode prog_10_method_60_code 12 = .ok (.ldc 112, 2) := by decide +kernel
theorem d_Mo_restore_14 : decode prog_10_method_60_code 14 = .ok (.ireturn, 1) := by decide +kernel
theorem d_Mo_restore_15 : decode prog_10_method_60_code 15 = .ok (.sipush 415, 3) := by decide +kernel
theorem d_Mo_restore_18 : decode prog_10_method_60_code 18 = .ok (.sipush 235, 3) := by decide +kernel
theorem d_Mo_restore_21 : decode prog_10_method_60_code 21 = .ok (.iload_n 1, 1) := by decide +kernel
theorem d_Mo_restore_22 : decode prog_10_method_60_code 22 = .ok (.imul, 1) := by decide +kernel
theorem d_Mo_restore_23 : decode prog_10_method_60_code 23 = .ok (.iadd, 1) := by decide +kernel
theorem d_Mo_restore_24 : decode prog_10_method_60_code 24 = .ok (.istore_n 2, 1) := by decide +kernel
theorem d_Mo_restore_25 : decode prog_10_method_60_code 25 = .ok (.aload_n 0, 1) := by decide +kernel
theorem d_Mo_restore_26 : decode prog_10_method_60_code 26 = .ok (.getfield 7, 3) := by decide +kernel
theorem d_Mo_restore_29 : decode prog_10_method_60_code 29 = .ok (.iload_n 2, 1) := by decide +kernel
theorem d_Mo_restore_30 : decode prog_10_method_60_code 30 = .ok (.iaload, 1) := by decide +kernel
theorem d_Mo_restore_31 : decode prog_10_method_60_code 31 = .ok (.ifCond .ne 6, 3) := by decide +kernel
theorem d_Mo_restore_34 : decode prog_10_method_60_code 34 = .ok (.ldc 117, 2) := by decide +kernel
theorem d_Mo_restore_36 : decode prog_10_method_60_code 36 = .ok (.ireturn, 1) := by decide +kernel
theorem d_Mo_restore_37 : decode prog_10_method_60_code 37 = .ok (.aload_n 0, 1) := by decide +kernel
theorem d_Mo_restore_38 : decode prog_10_method_60_code 38 = .ok (.invokevirtual 119, 3) := by decide +kernel
theorem d_Mo_restore_41 : decode prog_10_method_60_code 41 = .ok (.aload_n 0, 1) := by decide +kernel
theorem d_Mo_restore_42 : decode prog_10_method_60_code 42 = .ok (.invokevirtual 99, 3) := by decide +kernel
theorem d_Mo_restore_45 : decode prog_10_method_60_code 45 = .ok (.istore_n 3, 1) := by decide +kernel
theorem d_Mo_restore_46 : decode prog_10_method_60_code 46 = .ok (.iconst 0, 1) := by decide +kernel
theorem d_Mo_restore_47 : decode prog_10_method_60_code 47 = .ok (.istore 4, 2) := by decide +kernel
theorem d_Mo_restore_49 : decode prog_10_method_60_code 49 = .ok (.iload 4, 2) := by decide +kernel
theorem d_Mo_restore_51 : decode prog_10_method_60_code 51 = .ok (.sipush 234, 3) := by decide +kernel
theorem d_Mo_restore_54 : decode prog_10_method_60_code 54 = .ok (.if_icmp .ge 27, 3) := by decide +kernel
theorem d_Mo_restore_57 : decode prog_10_method_60_code 57 = .ok (.aload_n 0, 1) := by decide +kernel
theorem d_Mo_restore_58 : decode prog_10_method_60_code 58 = .ok (.getfield 7, 3) := by decide +kernel
theorem d_Mo_restore_61 : decode prog_10_method_60_code 61 = .ok (.iload 4, 2) := by decide +kernel
theorem d_Mo_restore_63 : decode prog_10_method_60_code 63 = .ok (.aload_n 0, 1) := by decide +kernel
theorem d_Mo_restore_64 : decode prog_10_method_60_code 64 = .ok (.getfield 7, 3) := by decide +kernel
theorem d_Mo_restore_67 : decode prog_10_method_60_code 67 = .ok (.iload_n 2, 1) := by decide +kernel
theorem d_Mo_restore_68 : decode prog_10_method_60_code 68 = .ok (.iconst 1, 1) := by decide +kernel
theorem d_Mo_restore_69 : decode prog_10_method_60_code 69 = .ok (.iadd, 1) := by decide +kernel
theorem d_Mo_restore_70 : decode prog_10_method_60_code 70 = .ok (.iload 4, 2) := by decide +kernel
theorem d_Mo_restore_72 : decode prog_10_method_60_code 72 = .ok (.iadd, 1) := by decide +kernel
theorem d_Mo_restore_73 : decode prog_10_method_60_code 73 = .ok (.iaload, 1) := by decide +kernel
theorem d_Mo_restore_74 : decode prog_10_method_60_code 74 = .ok (.iastore, 1) := by decide +kernel
theorem d_Mo_restore_75 : decode prog_10_method_60_code 75 = .ok (.iinc 4 1, 3) := by decide +kernel
theorem d_Mo_restore_78 : decode prog_10_method_60_code 78 = .ok (.goto (-29), 3) := by decide +kernel
theorem d_Mo_restore_81 : decode prog_10_method_60_code 81 = .ok (.aload_n 0, 1) := by decide +kernel
theorem d_Mo_restore_82 : decode prog_10_method_60_code 82 = .ok (.iload_n 3, 1) := by decide +kernel
theorem d_Mo_restore_83 : decode prog_10_method_60_code 83 = .ok (.invokevirtual 126, 3) := by decide +kernel
theorem d_Mo_restore_86 : decode prog_10_method_60_code 86 = .ok (.aload_n 0, 1) := by decide +kernel
theorem d_Mo_restore_87 : decode prog_10_method_60_code 87 = .ok (.invokevirtual 188, 3) := by decide +kernel
theorem d_Mo_restore_90 : decode prog_10_method_60_code 90 = .ok (.ireturn, 1) := by decide +kernel
theorem d_Mo_undo_0 : decode prog_10_method_61_code 0 = .ok (.aload_n 0, 1) := by decide +kernel
theorem d_Mo_undo_1 : decode prog_10_method_61_code 1 = .ok (.iconst 0, 1) := by decide +kernel
theorem d_Mo_undo_2 : decode prog_10_method_61_code 2 = .ok (.putfield 37, 3) := by decide +kernel
theorem d_Mo_undo_5 : decode prog_10_method_61_code 5 = .ok (.aload_n 0, 1) := by decide +kernel
theorem d_Mo_undo_6 : decode prog_10_method_61_code 6 = .ok (.getfield 44, 3) := by decide +kernel
theorem d_Mo_undo_9 : decode prog_10_method_61_code 9 = .ok (.ifCond .ne 6, 3) := by decide +kernel
theorem d_Mo_undo_12 : decode prog_10_method_61_code 12 = .ok (.ldc 117, 2) := by decide +kernel
theorem d_Mo_undo_14 : decode prog_10_method_61_code 14 = .ok (.ireturn, 1) := by decide +kernel
theorem d_Mo_undo_15 : decode prog_10_method_61_code 15 = .ok (.aload_n 0, 1) := by decide +kernel
theorem d_Mo_undo_16 : decode prog_10_method_61_code 16 = .ok (.dup, 1) := by decide +kernel
theorem d_Mo_undo_17 : decode prog_10_method_61_code 17 = .ok (.getfield 44, 3) := by decide +kernel
theorem d_Mo_undo_20 : decode prog_10_method_61_code 20 = .ok (.iconst 1, 1) := by decide +kernel
theorem d_Mo_undo_21 : decode prog_10_method_61_code 21 = .ok (.isub, 1) := by decide +kernel
theorem d_Mo_undo_22 : decode prog_10_method_61_code 22 = .ok (.putfield 44, 3) := by decide +kernel
theorem d_Mo_undo_25 : decode prog_10_method_61_code 25 = .ok (.iconst 0, 1) := by decide +kernel
theorem d_Mo_undo_26 : decode prog_10_method_61_code 26 = .ok (.istore_n 1, 1) := by decide +kernel
theorem d_Mo_undo_27 : decode prog_10_method_61_code 27 = .ok (.iload_n 1, 1) := by decide +kernel
theorem d_Mo_undo_28 : decode prog_10_method_61_code 28 = .ok (.sipush 1120, 3) := by decide +kernel
theorem d_Mo_undo_31 : decode prog_10_method_61_code 31 = .ok (.if_icmp .ge 30, 3) := by decide +kernel
theorem d_Mo_undo_34 : decode prog_10_method_61_code 34 = .ok (.aload_n 0, 1) := by decide +kernel
theorem d_Mo_undo_35 : decode prog_10_method_61_code 35 = .ok (.getfield 7, 3) := by decide +kernel
theorem d_Mo_undo_38 : decode prog_10_method_61_code 38 = .ok (.iload_n 1, 1) := by decide +kernel
theorem d_Mo_undo_39 : decode prog_10_method_61_code 39 = .ok (.aload_n 0, 1) := by decide +kernel
theorem d_Mo_undo_40 : decode prog_10_method_61_code 40 = .ok (.getfield 16, 3) := by decide +kernel
theorem d_Mo_undo_43 : decode prog_10_method_61_code 43 = .ok (.sipush 1120, 3) := by decide +kernel
theorem d_Mo_undo_46 : decode prog_10_method_61_code 46 = .ok (.aload_n 0, 1) := by decide +kernel
theorem d_Mo_undo_47 : decode prog_10_method_61_code 47 = .ok (.getfield 44, 3) := by decide +kernel
theorem d_Mo_undo_50 : decode prog_10_method_61_code 50 = .ok (.imul, 1) := by decide +kernel
theorem d_Mo_undo_51 : decode prog_10_method_61_code 51 = .ok (.iload_n 1, 1) := by decide +kernel
theorem d_Mo_undo_52 : decode prog_10_method_61_code 52 = .ok (.iadd, 1) := by decide +kernel
theorem d_Mo_undo_53 : decode prog_10_method_61_code 53 = .ok (.iaload, 1) := by decide +kernel
theorem d_Mo_undo_54 : decode prog_10_method_61_code 54 = .ok (.iastore, 1) := by decide +kernel
theorem d_Mo_undo_55 : decode prog_10_method_61_code 55 = .ok (.iinc 1 1, 3) := by decide +kernel
theorem d_Mo_undo_58 : decode prog_10_method_61_code 58 = .ok (.goto (-31), 3) := by decide +kernel
theorem d_Mo_undo_61 : decode prog_10_method_61_code 61 = .ok (.aload_n 0, 1) := by decide +kernel
theorem d_Mo_undo_62 : decode prog_10_method_61_code 62 = .ok (.getfield 44, 3) := by decide +kernel
theorem d_Mo_undo_65 : decode prog_10_method_61_code 65 = .ok (.ireturn, 1) := by decide +kernel
theorem d_Mo_append_0 : decode prog_10_method_62_code 0 = .ok (.aload_n 0, 1) := by decide +kernel
theorem d_Mo_append_1 : decode prog_10_method_62_code 1 = .ok (.iconst 0, 1) := by decide +kernel
theorem d_Mo_append_2 : decode prog_10_method_62_code 2 = .ok (.putfield 37, 3) := by decide +kernel
theorem d_Mo_append_5 : decode prog_10_method_62_code 5 = .ok (.iload_n 1, 1) := by decide +kernel
theorem d_Mo_append_6 : decode prog_10_method_62_code 6 = .ok (.iconst 1, 1) := by decide +kernel
theorem d_Mo_append_7 : decode prog_10_method_62_code 7 = .ok (.sipush 255, 3) := by decide +kernel
theorem d_Mo_append_10 : decode prog_10_method_62_code 10 = .ok (.invokestatic 47, 3) := by decide +kernel
theorem d_Mo_append_13 : decode prog_10_method_62_code 13 = .ok (.ifCond .ne 6, 3) := by decide +kernel
theorem d_Mo_append_16 : decode prog_10_method_62_code 16 = .ok (.ldc 112, 2) := by decide +kernel
theorem d_Mo_append_18 : decode prog_10_method_62_code 18 = .ok (.ireturn, 1) := by decide +kernel
theorem d_Mo_append_19 : decode prog_10_method_62_code 19 = .ok (.aload_n 0, 1) := by decide +kernel
theorem d_Mo_append_20 : decode prog_10_method_62_code 20 = .ok (.getfield 191, 3) := by decide +kernel
theorem d_Mo_append_23 : decode prog_10_method_62_code 23 = .ok (.sipush 160, 3) := by decide +kernel
theorem d_Mo_append_26 : decode prog_10_method_62_code 26 = .ok (.if_icmp .ne 6, 3) := by decide +kernel
theorem d_Mo_append_29 : decode prog_10_method_62_code 29 = .ok (.ldc 118, 2) := by decide +kernel
theorem d_Mo_append_31 : decode prog_10_method_62_code 31 = .ok (.ireturn, 1) := by decide +kernel
theorem d_Mo_append_32 : decode prog_10_method_62_code 32 = .ok (.aload_n 0, 1) := by decide +kernel
theorem d_Mo_append_33 : decode prog_10_method_62_code 33 = .ok (.getfield 19, 3) := by decide +kernel
theorem d_Mo_append_36 : decode prog_10_method_62_code 36 = .ok (.aload_n 0, 1) := by decide +kernel
theorem d_Mo_append_37 : decode prog_10_method_62_code 37 = .ok (.getfield 191, 3) := by decide +kernel
theorem d_Mo_append_40 : decode prog_10_method_62_code 40 = .ok (.iload_n 1, 1) := by decide +kernel
theorem d_Mo_append_41 : decode prog_10_method_62_code 41 = .ok (.iastore, 1) := by decide +kernel
theorem d_Mo_append_42 : decode prog_10_method_62_code 42 = .ok (.aload_n 0, 1) := by decide +kernel
theorem d_Mo_append_43 : decode prog_10_method_62_code 43 = .ok (.dup, 1) := by decide +kernel
theorem d_Mo_append_44 : decode prog_10_method_62_code 44 = .ok (.getfield 191, 3) := by decide +kernel
theorem d_Mo_append_47 : decode prog_10_method_62_code 47 = .ok (.iconst 1, 1) := by decide +kernel
theorem d_Mo_append_48 : decode prog_10_method_62_code 48 = .ok (.iadd, 1) := by decide +kernel
theorem d_Mo_append_49 : decode prog_10_method_62_code 49 = .ok (.putfield 191, 3) := by decide +kernel
theorem d_Mo_append_52 : decode prog_10_method_62_code 52 = .ok (.aload_n 0, 1) := by decide +kernel
theorem d_Mo_append_53 : decode prog_10_method_62_code 53 = .ok (.getfield 191, 3) := by decide +kernel
theorem d_Mo_append_56 : decode prog_10_method_62_code 56 = .ok (.ireturn, 1) := by decide +kernel
theorem d_Mo_clearText_0 : decode prog_10_method_63_code 0 = .ok (.aload_n 0, 1) := by decide +kernel
theorem d_Mo_clearText_1 : decode prog_10_method_63_code 1 = .ok (.iconst 0, 1) := by decide +kernel
theorem d_Mo_clearText_2 : decode prog_10_method_63_code 2 = .ok (.putfield 37, 3) := by decide +kernel
theorem d_Mo_clearText_5 : decode prog_10_method_63_code 5 = .ok (.aload_n 0, 1) := by decide +kernel
theorem d_Mo_clearText_6 : decode prog_10_method_63_code 6 = .ok (.getfield 191, 3) := by decide +kernel
theorem d_Mo_clearText_9 : decode prog_10_method_63_code 9 = .ok (.istore_n 1, 1) := by decide +kernel
theorem d_Mo_clearText_10 : decode prog_10_method_63_code 10 = .ok (.aload_n 0, 1) := by decide +kernel
theorem d_Mo_clearText_11 : decode prog_10_method_63_code 11 = .ok (.iconst 0, 1) := by decide +kernel
theorem d_Mo_clearText_12 : decode prog_10_method_63_code 12 = .ok (.putfield 191, 3) := by decide +kernel
theorem d_Mo_clearText_15 : decode prog_10_method_63_code 15 = .ok (.iload_n 1, 1) := by decide +kernel
theorem d_Mo_clearText_16 : decode prog_10_method_63_code 16 = .ok (.ireturn, 1) := by decide +kernel
theorem d_Mo_load_0 : decode prog_10_method_70_code 0 = .ok (.aload_n 0, 1) := by decide +kernel
theorem d_Mo_load_1 : decode prog_10_method_70_code 1 = .ok (.iconst 0, 1) := by decide +kernel
theorem d_Mo_load_2 : decode prog_10_method_70_code 2 = .ok (.putfield 37, 3) := by decide +kernel
theorem d_Mo_load_5 : decode prog_10_method_70_code 5 = .ok (.aload_n 0, 1) := by decide +kernel
theorem d_Mo_load_6 : decode prog_10_method_70_code 6 = .ok (.invokevirtual 217, 3) := by decide +kernel
theorem d_Mo_load_9 : decode prog_10_method_70_code 9 = .ok (.aload_n 0, 1) := by decide +kernel
theorem d_Mo_load_10 : decode prog_10_method_70_code 10 = .ok (.invokevirtual 99, 3) := by decide +kernel
theorem d_Mo_load_13 : decode prog_10_method_70_code 13 = .ok (.istore_n 1, 1) := by decide +kernel
theorem d_Mo_load_14 : decode prog_10_method_70_code 14 = .ok (.aload_n 0, 1) := by decide +kernel
theorem d_Mo_load_15 : decode prog_10_method_70_code 15 = .ok (.getfield 7, 3) := by decide +kernel
theorem d_Mo_load_18 : decode prog_10_method_70_code 18 = .ok (.iconst 0, 1) := by decide +kernel
theorem d_Mo_load_19 : decode prog_10_method_70_code 19 = .ok (.iconst 0, 1) := by decide +kernel
theorem d_Mo_load_20 : decode prog_10_method_70_code 20 = .ok (.iastore, 1) := by decide +kernel
theorem d_Mo_load_21 : decode prog_10_method_70_code 21 = .ok (.aload_n 0, 1) := by decide +kernel
theorem d_Mo_load_22 : decode prog_10_method_70_code 22 = .ok (.getfield 7, 3) := by decide +kernel
theorem d_Mo_load_25 : decode prog_10_method_70_code 25 = .ok (.bipush 19, 2) := by decide +kernel
theorem d_Mo_load_27 : decode prog_10_method_70_code 27 = .ok (.iconst 0, 1) := by decide +kernel
theorem d_Mo_load_28 : decode prog_10_method_70_code 28 = .ok (.iastore, 1) := by decide +kernel
theorem d_Mo_load_29 : decode prog_10_method_70_code 29 = .ok (.aload_n 0, 1) := by decide +kernel
theorem d_Mo_load_30 : decode prog_10_method_70_code 30 = .ok (.invokevirtual 41, 3) := by decide +kernel
theorem d_Mo_load_33 : decode prog_10_method_70_code 33 = .ok (.aload_n 0, 1) := by decide +kernel
theorem d_Mo_load_34 : decode prog_10_method_70_code 34 = .ok (.iconst 0, 1) := by decide +kernel
theorem d_Mo_load_35 : decode prog_10_method_70_code 35 = .ok (.putfield 194, 3) := by decide +kernel
theorem d_Mo_load_38 : decode prog_10_method_70_code 38 = .ok (.iconst 0, 1) := by decide +kernel
theorem d_Mo_load_39 : decode prog_10_method_70_code 39 = .ok (.istore_n 2, 1) := by decide +kernel
theorem d_Mo_load_40 : decode prog_10_method_70_code 40 = .ok (.iconst 1, 1) := by decide +kernel
theorem d_Mo_load_41 : decode prog_10_method_70_code 41 = .ok (.istore_n 3, 1) := by decide +kernel
theorem d_Mo_load_42 : decode prog_10_method_70_code 42 = .ok (.iload_n 3, 1) := by decide +kernel
theorem d_Mo_load_43 : decode prog_10_method_70_code 43 = .ok (.ifCond .eq 21, 3) := by decide +kernel
theorem d_Mo_load_46 : decode prog_10_method_70_code 46 = .ok (.aload_n 0, 1) := by decide +kernel
theorem d_Mo_load_47 : decode prog_10_method_70_code 47 = .ok (.invokevirtual 197, 3) := by decide +kernel
theorem d_Mo_load_50 : decode prog_10_method_70_code 50 = .ok (.ifCond .lt 14, 3) := by decide +kernel
theorem d_Mo_load_53 : decode prog_10_method_70_code 53 = .ok (.aload_n 0, 1) := by decide +kernel
theorem d_Mo_load_54 : decode prog_10_method_70_code 54 = .ok (.invokevirtual 220, 3) := by decide +kernel
theorem d_Mo_load_57 : decode prog_10_method_70_code 57 = .ok (.istore_n 3, 1) := by decide +kernel
theorem d_Mo_load_58 : decode prog_10_method_70_code 58 = .ok (.iinc 2 1, 3) := by decide +kernel
theorem d_Mo_load_61 : decode prog_10_method_70_code 61 = .ok (.goto (-19), 3) := by decide +kernel
theorem d_Mo_load_64 : decode prog_10_method_70_code 64 = .ok (.iload_n 3, 1) := by decide +kernel
theorem d_Mo_load_65 : decode prog_10_method_70_code 65 = .ok (.ifCond .ne 15, 3) := by decide +kernel
theorem d_Mo_load_68 : decode prog_10_method_70_code 68 = .ok (.aload_n 0, 1) := by decide +kernel
theorem d_Mo_load_69 : decode prog_10_method_70_code 69 = .ok (.invokevirtual 223, 3) := by decide +kernel
theorem d_Mo_load_72 : decode prog_10_method_70_code 72 = .ok (.ldc 226, 2) := by decide +kernel
theorem d_Mo_load_74 : decode prog_10_method_70_code 74 = .ok (.aload_n 0, 1) := by decide +kernel
theorem d_Mo_load_75 : decode prog_10_method_70_code 75 = .ok (.getfield 194, 3) := by decide +kernel
theorem d_Mo_load_78 : decode prog_10_method_70_code 78 = .ok (.isub, 1) := by decide +kernel
theorem d_Mo_load_79 : decode prog_10_method_70_code 79 = .ok (.ireturn, 1) := by decide +kernel
theorem d_Mo_load_80 : decode prog_10_method_70_code 80 = .ok (.aload_n 0, 1) := by decide +kernel
theorem d_Mo_load_81 : decode prog_10_method_70_code 81 = .ok (.iload_n 1, 1) := by decide +kernel
theorem d_Mo_load_82 : decode prog_10_method_70_code 82 = .ok (.invokevirtual 126, 3) := by decide +kernel
theorem d_Mo_load_85 : decode prog_10_method_70_code 85 = .ok (.aload_n 0, 1) := by decide +kernel
theorem d_Mo_load_86 : decode prog_10_method_70_code 86 = .ok (.invokevirtual 227, 3) := by decide +kernel
theorem d_Mo_load_89 : decode prog_10_method_70_code 89 = .ok (.aload_n 0, 1) := by decide +kernel
theorem d_Mo_load_90 : decode prog_10_method_70_code 90 = .ok (.invokevirtual 119, 3) := by decide +kernel
theorem d_Mo_load_93 : decode prog_10_method_70_code 93 = .ok (.aload_n 0, 1) := by decide +kernel
theorem d_Mo_load_94 : decode prog_10_method_70_code 94 = .ok (.invokevirtual 227, 3) := by decide +kernel
theorem d_Mo_load_97 : decode prog_10_method_70_code 97 = .ok (.aload_n 0, 1) := by decide +kernel
theorem d_Mo_load_98 : decode prog_10_method_70_code 98 = .ok (.iconst 0, 1) := by decide +kernel
theorem d_Mo_load_99 : decode prog_10_method_70_code 99 = .ok (.putfield 191, 3) := by decide +kernel
theorem d_Mo_load_102 : decode prog_10_method_70_code 102 = .ok (.iload_n 2, 1) := by decide +kernel
theorem d_Mo_load_103 : decode prog_10_method_70_code 103 = .ok (.ireturn, 1) := by decide +kernel
theorem d_Mo_hold_0 : decode prog_10_method_7_code 0 = .ok (.iconst 0, 1) := by decide +kernel
theorem d_Mo_hold_1 : decode prog_10_method_7_code 1 = .ok (.istore_n 1, 1) := by decide +kernel
theorem d_Mo_hold_2 : decode prog_10_method_7_code 2 = .ok (.iload_n 1, 1) := by decide +kernel
theorem d_Mo_hold_3 : decode prog_10_method_7_code 3 = .ok (.sipush 1120, 3) := by decide +kernel
theorem d_Mo_hold_6 : decode prog_10_method_7_code 6 = .ok (.if_icmp .ge 21, 3) := by decide +kernel
theorem d_Mo_hold_9 : decode prog_10_method_7_code 9 = .ok (.aload_n 0, 1) := by decide +kernel
theorem d_Mo_hold_10 : decode prog_10_method_7_code 10 = .ok (.getfield 13, 3) := by decide +kernel
theorem d_Mo_hold_13 : decode prog_10_method_7_code 13 = .ok (.iload_n 1, 1) := by decide +kernel
theorem d_Mo_hold_14 : decode prog_10_method_7_code 14 = .ok (.aload_n 0, 1) := by decide +kernel
theorem d_Mo_hold_15 : decode prog_10_method_7_code 15 = .ok (.getfield 7, 3) := by decide +kernel
theorem d_Mo_hold_18 : decode prog_10_method_7_code 18 = .ok (.iload_n 1, 1) := by decide +kernel
theorem d_Mo_hold_19 : decode prog_10_method_7_code 19 = .ok (.iaload, 1) := by decide +kernel
theorem d_Mo_hold_20 : decode prog_10_method_7_code 20 = .ok (.iastore, 1) := by decide +kernel
theorem d_Mo_hold_21 : decode prog_10_method_7_code 21 = .ok (.iinc 1 1, 3) := by decide +kernel
theorem d_Mo_hold_24 : decode prog_10_method_7_code 24 = .ok (.goto (-22), 3) := by decide +kernel
theorem d_Mo_hold_27 : decode prog_10_method_7_code 27 = .ok (.return_, 1) := by decide +kernel
theorem d_Mo_here_0 : decode prog_10_method_64_code 0 = .ok (.aload_n 0, 1) := by decide +kernel
theorem d_Mo_here_1 : decode prog_10_method_64_code 1 = .ok (.getfield 194, 3) := by decide +kernel
theorem d_Mo_here_4 : decode prog_10_method_64_code 4 = .ok (.aload_n 0, 1) := by decide +kernel
theorem d_Mo_here_5 : decode prog_10_method_64_code 5 = .ok (.getfield 191, 3) := by decide +kernel
theorem d_Mo_here_8 : decode prog_10_method_64_code 8 = .ok (.if_icmp .ge 30, 3) := by decide +kernel
theorem d_Mo_here_11 : decode prog_10_method_64_code 11 = .ok (.aload_n 0, 1) := by decide +kernel
theorem d_Mo_here_12 : decode prog_10_method_64_code 12 = .ok (.getfield 19, 3) := by decide +kernel
theorem d_Mo_here_15 : decode prog_10_method_64_code 15 = .ok (.aload_n 0, 1) := by decide +kernel
theorem d_Mo_here_16 : decode prog_10_method_64_code 16 = .ok (.getfield 194, 3) := by decide +kernel
theorem d_Mo_here_19 : decode prog_10_method_64_code 19 = .ok (.iaload, 1) := by decide +kernel
theorem d_Mo_here_20 : decode prog_10_method_64_code 20 = .ok (.bipush 32, 2) := by decide +kernel
theorem d_Mo_here_22 : decode prog_10_method_64_code 22 = .ok (.if_icmp .ne 16, 3) := by decide +kernel
theorem d_Mo_here_25 : decode prog_10_method_64_code 25 = .ok (.aload_n 0, 1) := by decide +kernel
theorem d_Mo_here_26 : decode prog_10_method_64_code 26 = .ok (.dup, 1) := by decide +kernel
theorem d_Mo_here_27 : decode prog_10_method_64_code 27 = .ok (.getfield 194, 3) := by decide +kernel
theorem d_Mo_here_30 : decode prog_10_method_64_code 30 = .ok (.iconst 1, 1) := by decide +kernel
theorem d_Mo_here_31 : decode prog_10_method_64_code 31 = .ok (.iadd, 1) := by decide +kernel
theorem d_Mo_here_32 : decode prog_10_method_64_code 32 = .ok (.putfield 194, 3) := by decide +kernel
theorem d_Mo_here_35 : decode prog_10_method_64_code 35 = .ok (.goto (-35), 3) := by decide +kernel
theorem d_Mo_here_38 : decode prog_10_method_64_code 38 = .ok (.aload_n 0, 1) := by decide +kernel
theorem d_Mo_here_39 : decode prog_10_method_64_code 39 = .ok (.getfield 194, 3) := by decide +kernel
theorem d_Mo_here_42 : decode prog_10_method_64_code 42 = .ok (.aload_n 0, 1) := by decide +kernel
theorem d_Mo_here_43 : decode prog_10_method_64_code 43 = .ok (.getfield 191, 3) := by decide +kernel
theorem d_Mo_here_46 : decode prog_10_method_64_code 46 = .ok (.if_icmp .ge 15, 3) := by decide +kernel
theorem d_Mo_here_49 : decode prog_10_method_64_code 49 = .ok (.aload_n 0, 1) := by decide +kernel
theorem d_Mo_here_50 : decode prog_10_method_64_code 50 = .ok (.getfield 19, 3) := by decide +kernel
theorem d_Mo_here_53 : decode prog_10_method_64_code 53 = .ok (.aload_n 0, 1) := by decide +kernel
theorem d_Mo_here_54 : decode prog_10_method_64_code 54 = .ok (.getfield 194, 3) := by decide +kernel
theorem d_Mo_here_57 : decode prog_10_method_64_code 57 = .ok (.iaload, 1) := by decide +kernel
theorem d_Mo_here_58 : decode prog_10_method_64_code 58 = .ok (.goto 4, 3) := by decide +kernel
theorem d_Mo_here_61 : decode prog_10_method_64_code 61 = .ok (.iconst (-1), 1) := by decide +kernel
theorem d_Mo_here_62 : decode prog_10_method_64_code 62 = .ok (.ireturn, 1) := by decide +kernel
theorem d_Mo_readsItem_0 : decode prog_10_method_69_code 0 = .ok (.aload_n 0, 1) := by decide +kernel
theorem d_Mo_readsItem_1 : decode prog_10_method_69_code 1 = .ok (.invokevirtual 197, 3) := by decide +kernel
theorem d_Mo_readsItem_4 : decode prog_10_method_69_code 4 = .ok (.istore_n 1, 1) := by decide +kernel
theorem d_Mo_readsItem_5 : decode prog_10_method_69_code 5 = .ok (.aload_n 0, 1) := by decide +kernel
theorem d_Mo_readsItem_6 : decode prog_10_method_69_code 6 = .ok (.getfield 194, 3) := by decide +kernel
theorem d_Mo_readsItem_9 : decode prog_10_method_69_code 9 = .ok (.istore_n 2, 1) := by decide +kernel
theorem d_Mo_readsItem_10 : decode prog_10_method_69_code 10 = .ok (.iload_n 1, 1) := by decide +kernel
theorem d_Mo_readsItem_11 : decode prog_10_method_69_code 11 = .ok (.bipush 120, 2) := by decide +kernel
theorem d_Mo_readsItem_13 : decode prog_10_method_69_code 13 = .ok (.if_icmp .eq 17, 3) := by decide +kernel
theorem d_Mo_readsItem_16 : decode prog_10_method_69_code 16 = .ok (.iload_n 1, 1) := by decide +kernel
theorem d_Mo_readsItem_17 : decode prog_10_method_69_code 17 = .ok (.bipush 121, 2) := by decide +kernel
theorem d_Mo_readsItem_19 : decode prog_10_method_69_code 19 = .ok (.if_icmp .eq 11, 3) := by decide +kernel
theorem d_Mo_readsItem_22 : decode prog_10_method_69_code 22 = .ok (.iload_n 1, 1) := by decide +kernel
theorem d_Mo_readsItem_23 : decode prog_10_method_69_code 23 = .ok (.bipush 103, 2) := by decide +kernel
theorem d_Mo_readsItem_25 : decode prog_10_method_69_code 25 = .ok (.if_icmp .eq 5, 3) := by decide +kernel
theorem d_Mo_readsItem_28 : decode prog_10_method_69_code 28 = .ok (.iconst 0, 1) := by decide +kernel
theorem d_Mo_readsItem_29 : decode prog_10_method_69_code 29 = .ok (.ireturn, 1) := by decide +kernel
theorem d_Mo_readsItem_30 : decode prog_10_method_69_code 30 = .ok (.aload_n 0, 1) := by decide +kernel
theorem d_Mo_readsItem_31 : decode prog_10_method_69_code 31 = .ok (.dup, 1) := by decide +kernel
theorem d_Mo_readsItem_32 : decode prog_10_method_69_code 32 = .ok (.getfield 194, 3) := by decide +kernel
theorem d_Mo_readsItem_35 : decode prog_10_method_69_code 35 = .ok (.iconst 1, 1) := by decide +kernel
theorem d_Mo_readsItem_36 : decode prog_10_method_69_code 36 = .ok (.iadd, 1) := by decide +kernel
theorem d_Mo_readsItem_37 : decode prog_10_method_69_code 37 = .ok (.putfield 194, 3) := by decide +kernel
theorem d_Mo_readsItem_40 : decode prog_10_method_69_code 40 = .ok (.iload_n 1, 1) := by decide +kernel
theorem d_Mo_readsItem_41 : decode prog_10_method_69_code 41 = .ok (.bipush 103, 2) := by decide +kernel
theorem d_Mo_readsItem_43 : decode prog_10_method_69_code 43 = .ok (.if_icmp .ne 10, 3) := by decide +kernel
theorem d_Mo_readsItem_46 : decode prog_10_method_69_code 46 = .ok (.aload_n 0, 1) := by decide +kernel
theorem d_Mo_readsItem_47 : decode prog_10_method_69_code 47 = .ok (.invokevirtual 210, 3) := by decide +kernel
theorem d_Mo_readsItem_50 : decode prog_10_method_69_code 50 = .ok (.goto 12, 3) := by decide +kernel
theorem d_Mo_readsItem_53 : decode prog_10_method_69_code 53 = .ok (.aload_n 0, 1) := by decide +kernel
theorem d_Mo_readsItem_54 : decode prog_10_method_69_code 54 = .ok (.iload_n 1, 1) := by decide +kernel
theorem d_Mo_readsItem_55 : decode prog_10_method_69_code 55 = .ok (.bipush 120, 2) := by decide +kernel
theorem d_Mo_readsItem_57 : decode prog_10_method_69_code 57 = .ok (.isub, 1) := by decide +kernel
theorem d_Mo_readsItem_58 : decode prog_10_method_69_code 58 = .ok (.iload_n 2, 1) := by decide +kernel
theorem d_Mo_readsItem_59 : decode prog_10_method_69_code 59 = .ok (.invokevirtual 214, 3) := by decide +kernel
theorem d_Mo_readsItem_62 : decode prog_10_method_69_code 62 = .ok (.ireturn, 1) := by decide +kernel
theorem d_Mo_readsGain_0 : decode prog_10_method_68_code 0 = .ok (.aload_n 0, 1) := by decide +kernel
theorem d_Mo_readsGain_1 : decode prog_10_method_68_code 1 = .ok (.iconst 0, 1) := by decide +kernel
theorem d_Mo_readsGain_2 : decode prog_10_method_68_code 2 = .ok (.aload_n 0, 1) := by decide +kernel
theorem d_Mo_readsGain_3 : decode prog_10_method_68_code 3 = .ok (.iconst 0, 1) := by decide +kernel
theorem d_Mo_readsGain_4 : decode prog_10_method_68_code 4 = .ok (.invokevirtual 55, 3) := by decide +kernel
theorem d_Mo_readsGain_7 : decode prog_10_method_68_code 7 = .ok (.invokevirtual 204, 3) := by decide +kernel
theorem d_Mo_readsGain_10 : decode prog_10_method_68_code 10 = .ok (.ifCond .ne 5, 3) := by decide +kernel
theorem d_Mo_readsGain_13 : decode prog_10_method_68_code 13 = .ok (.iconst 0, 1) := by decide +kernel
theorem d_Mo_readsGain_14 : decode prog_10_method_68_code 14 = .ok (.ireturn, 1) := by decide +kernel
theorem d_Mo_readsGain_15 : decode prog_10_method_68_code 15 = .ok (.aload_n 0, 1) := by decide +kernel
theorem d_Mo_readsGain_16 : decode prog_10_method_68_code 16 = .ok (.getfield 201, 3) := by decide +kernel
theorem d_Mo_readsGain_19 : decode prog_10_method_68_code 19 = .ok (.istore_n 1, 1) := by decide +kernel
theorem d_Mo_readsGain_20 : decode prog_10_method_68_code 20 = .ok (.aload_n 0, 1) := by decide +kernel
theorem d_Mo_readsGain_21 : decode prog_10_method_68_code 21 = .ok (.iconst 0, 1) := by decide +kernel
theorem d_Mo_readsGain_22 : decode prog_10_method_68_code 22 = .ok (.aload_n 0, 1) := by decide +kernel
theorem d_Mo_readsGain_23 : decode prog_10_method_68_code 23 = .ok (.iconst 1, 1) := by decide +kernel
theorem d_Mo_readsGain_24 : decode prog_10_method_68_code 24 = .ok (.invokevirtual 55, 3) := by decide +kernel
theorem d_Mo_readsGain_27 : decode prog_10_method_68_code 27 = .ok (.invokevirtual 204, 3) := by decide +kernel
theorem d_Mo_readsGain_30 : decode prog_10_method_68_code 30 = .ok (.ifCond .ne 5, 3) := by decide +kernel
theorem d_Mo_readsGain_33 : decode prog_10_method_68_code 33 = .ok (.iconst 0, 1) := by decide +kernel
theorem d_Mo_readsGain_34 : decode prog_10_method_68_code 34 = .ok (.ireturn, 1) := by decide +kernel
theorem d_Mo_readsGain_35 : decode prog_10_method_68_code 35 = .ok (.aload_n 0, 1) := by decide +kernel
theorem d_Mo_readsGain_36 : decode prog_10_method_68_code 36 = .ok (.getfield 201, 3) := by decide +kernel
theorem d_Mo_readsGain_39 : decode prog_10_method_68_code 39 = .ok (.istore_n 2, 1) := by decide +kernel
theorem d_Mo_readsGain_40 : decode prog_10_method_68_code 40 = .ok (.aload_n 0, 1) := by decide +kernel
theorem d_Mo_readsGain_41 : decode prog_10_method_68_code 41 = .ok (.iconst 0, 1) := by decide +kernel
theorem d_Mo_readsGain_42 : decode prog_10_method_68_code 42 = .ok (.iconst 2, 1) := by decide +kernel
theorem d_Mo_readsGain_43 : decode prog_10_method_68_code 43 = .ok (.invokevirtual 204, 3) := by decide +kernel
theorem d_Mo_readsGain_46 : decode prog_10_method_68_code 46 = .ok (.ifCond .ne 5, 3) := by decide +kernel
theorem d_Mo_readsGain_49 : decode prog_10_method_68_code 49 = .ok (.iconst 0, 1) := by decide +kernel
theorem d_Mo_readsGain_50 : decode prog_10_method_68_code 50 = .ok (.ireturn, 1) := by decide +kernel
theorem d_Mo_readsGain_51 : decode prog_10_method_68_code 51 = .ok (.aload_n 0, 1) := by decide +kernel
theorem d_Mo_readsGain_52 : decode prog_10_method_68_code 52 = .ok (.getfield 201, 3) := by decide +kernel
theorem d_Mo_readsGain_55 : decode prog_10_method_68_code 55 = .ok (.istore_n 3, 1) := by decide +kernel
theorem d_Mo_readsGain_56 : decode prog_10_method_68_code 56 = .ok (.aload_n 0, 1) := by decide +kernel
theorem d_Mo_readsGain_57 : decode prog_10_method_68_code 57 = .ok (.iconst 0, 1) := by decide +kernel
theorem d_Mo_readsGain_58 : decode prog_10_method_68_code 58 = .ok (.sipush 9999, 3) := by decide +kernel
theorem d_Mo_readsGain_61 : decode prog_10_method_68_code 61 = .ok (.invokevirtual 204, 3) := by decide +kernel
theorem d_Mo_readsGain_64 : decode prog_10_method_68_code 64 = .ok (.ifCond .ne 5, 3) := by decide +kernel
theorem d_Mo_readsGain_67 : decode prog_10_method_68_code 67 = .ok (.iconst 0, 1) := by decide +kernel
theorem d_Mo_readsGain_68 : decode prog_10_method_68_code 68 = .ok (.ireturn, 1) := by decide +kernel
theorem d_Mo_readsGain_69 : decode prog_10_method_68_code 69 = .ok (.aload_n 0, 1) := by decide +kernel
theorem d_Mo_readsGain_70 : decode prog_10_method_68_code 70 = .ok (.getfield 201, 3) := by decide +kernel
theorem d_Mo_readsGain_73 : decode prog_10_method_68_code 73 = .ok (.istore 4, 2) := by decide +kernel
theorem d_Mo_readsGain_75 : decode prog_10_method_68_code 75 = .ok (.aload_n 0, 1) := by decide +kernel
theorem d_Mo_readsGain_76 : decode prog_10_method_68_code 76 = .ok (.bipush 59, 2) := by decide +kernel
theorem d_Mo_readsGain_78 : decode prog_10_method_68_code 78 = .ok (.invokevirtual 207, 3) := by decide +kernel
theorem d_Mo_readsGain_81 : decode prog_10_method_68_code 81 = .ok (.ifCond .ne 5, 3) := by decide +kernel
theorem d_Mo_readsGain_84 : decode prog_10_method_68_code 84 = .ok (.iconst 0, 1) := by decide +kernel
theorem d_Mo_readsGain_85 : decode prog_10_method_68_code 85 = .ok (.ireturn, 1) := by decide +kernel
theorem d_Mo_readsGain_86 : decode prog_10_method_68_code 86 = .ok (.aload_n 0, 1) := by decide +kernel
theorem d_Mo_readsGain_87 : decode prog_10_method_68_code 87 = .ok (.getfield 7, 3) := by decide +kernel
theorem d_Mo_readsGain_90 : decode prog_10_method_68_code 90 = .ok (.iload_n 1, 1) := by decide +kernel
theorem d_Mo_readsGain_91 : decode prog_10_method_68_code 91 = .ok (.iload_n 2, 1) := by decide +kernel
theorem d_Mo_readsGain_92 : decode prog_10_method_68_code 92 = .ok (.invokestatic 59, 3) := by decide +kernel
theorem d_Mo_readsGain_95 : decode prog_10_method_68_code 95 = .ok (.iload_n 3, 1) := by decide +kernel
theorem d_Mo_readsGain_96 : decode prog_10_method_68_code 96 = .ok (.iadd, 1) := by decide +kernel
theorem d_Mo_readsGain_97 : decode prog_10_method_68_code 97 = .ok (.iload 4, 2) := by decide +kernel
theorem d_Mo_readsGain_99 : decode prog_10_method_68_code 99 = .ok (.iastore, 1) := by decide +kernel
theorem d_Mo_readsGain_100 : decode prog_10_method_68_code 100 = .ok (.iconst 1, 1) := by decide +kernel
theorem d_Mo_readsGain_101 : decode prog_10_method_68_code 101 = .ok (.ireturn, 1) := by decide +kernel
theorem d_Mo_reads_0 : decode prog_10_method_65_code 0 = .ok (.aload_n 0, 1) := by decide +kernel
theorem d_Mo_reads_1 : decode prog_10_method_65_code 1 = .ok (.invokevirtual 197, 3) := by decide +kernel
theorem d_Mo_reads_4 : decode prog_10_method_65_code 4 = .ok (.istore_n 3, 1) := by decide +kernel
theorem d_Mo_reads_5 : decode prog_10_method_65_code 5 = .ok (.aload_n 0, 1) := by decide +kernel
theorem d_Mo_reads_6 : decode prog_10_method_65_code 6 = .ok (.getfield 194, 3) := by decide +kernel
theorem d_Mo_reads_9 : decode prog_10_method_65_code 9 = .ok (.istore 4, 2) := by decide +kernel
theorem d_Mo_reads_11 : decode prog_10_method_65_code 11 = .ok (.iconst 0, 1) := by decide +kernel
theorem d_Mo_reads_12 : decode prog_10_method_65_code 12 = .ok (.istore 5, 2) := by decide +kernel
theorem d_Mo_reads_14 : decode prog_10_method_65_code 14 = .ok (.aload_n 0, 1) := by decide +kernel
theorem d_Mo_reads_15 : decode prog_10_method_65_code 15 = .ok (.getfield 194, 3) := by decide +kernel
theorem d_Mo_reads_18 : decode prog_10_method_65_code 18 = .ok (.aload_n 0, 1) := by decide +kernel
theorem d_Mo_reads_19 : decode prog_10_method_65_code 19 = .ok (.getfield 191, 3) := by decide +kernel
theorem d_Mo_reads_22 : decode prog_10_method_65_code 22 = .ok (.if_icmp .ge 67, 3) := by decide +kernel
theorem d_Mo_reads_25 : decode prog_10_method_65_code 25 = .ok (.aload_n 0, 1) := by decide +kernel
theorem d_Mo_reads_26 : decode prog_10_method_65_code 26 = .ok (.getfield 19, 3) := by decide +kernel
theorem d_Mo_reads_29 : decode prog_10_method_65_code 29 = .ok (.aload_n 0, 1) := by decide +kernel
theorem d_Mo_reads_30 : decode prog_10_method_65_code 30 = .ok (.getfield 194, 3) := by decide +kernel
theorem d_Mo_reads_33 : decode prog_10_method_65_code 33 = .ok (.iaload, 1) := by decide +kernel
theorem d_Mo_reads_34 : decode prog_10_method_65_code 34 = .ok (.bipush 48, 2) := by decide +kernel
theorem d_Mo_reads_36 : decode prog_10_method_65_code 36 = .ok (.bipush 57, 2) := by decide +kernel
theorem d_Mo_reads_38 : decode prog_10_method_65_code 38 = .ok (.invokestatic 47, 3) := by decide +kernel
theorem d_Mo_reads_41 : decode prog_10_method_65_code 41 = .ok (.ifCond .eq 48, 3) := by decide +kernel
theorem d_Mo_reads_44 : decode prog_10_method_65_code 44 = .ok (.iload 5, 2) := by decide +kernel
theorem d_Mo_reads_46 : decode prog_10_method_65_code 46 = .ok (.ldc 200, 2) := by decide +kernel
theorem d_Mo_reads_48 : decode prog_10_method_65_code 48 = .ok (.if_icmp .ge 24, 3) := by decide +kernel
theorem d_Mo_reads_51 : decode prog_10_method_65_code 51 = .ok (.bipush 10, 2) := by decide +kernel
theorem d_Mo_reads_53 : decode prog_10_method_65_code 53 = .ok (.iload 5, 2) := by decide +kernel
theorem d_Mo_reads_55 : decode prog_10_method_65_code 55 = .ok (.imul, 1) := by decide +kernel
theorem d_Mo_reads_56 : decode prog_10_method_65_code 56 = .ok (.aload_n 0, 1) := by decide +kernel
theorem d_Mo_reads_57 : decode prog_10_method_65_code 57 = .ok (.getfield 19, 3) := by decide +kernel
theorem d_Mo_reads_60 : decode prog_10_method_65_code 60 = .ok (.aload_n 0, 1) := by decide +kernel
theorem d_Mo_reads_61 : decode prog_10_method_65_code 61 = .ok (.getfield 194, 3) := by decide +kernel
theorem d_Mo_reads_64 : decode prog_10_method_65_code 64 = .ok (.iaload, 1) := by decide +kernel
theorem d_Mo_reads_65 : decode prog_10_method_65_code 65 = .ok (.iadd, 1) := by decide +kernel
theorem d_Mo_reads_66 : decode prog_10_method_65_code 66 = .ok (.bipush 48, 2) := by decide +kernel
theorem d_Mo_reads_68 : decode prog_10_method_65_code 68 = .ok (.isub, 1) := by decide +kernel
theorem d_Mo_reads_69 : decode prog_10_method_65_code 69 = .ok (.goto 5, 3) := by decide +kernel
theorem d_Mo_reads_72 : decode prog_10_method_65_code 72 = .ok (.iload 5, 2) := by decide +kernel
theorem d_Mo_reads_74 : decode prog_10_method_65_code 74 = .ok (.istore 5, 2) := by decide +kernel
theorem d_Mo_reads_76 : decode prog_10_method_65_code 76 = .ok (.aload_n 0, 1) := by decide +kernel
theorem d_Mo_reads_77 : decode prog_10_method_65_code 77 = .ok (.dup, 1) := by decide +kernel
theorem d_Mo_reads_78 : decode prog_10_method_65_code 78 = .ok (.getfield 194, 3) := by decide +kernel
theorem d_Mo_reads_81 : decode prog_10_method_65_code 81 = .ok (.iconst 1, 1) := by decide +kernel
theorem d_Mo_reads_82 : decode prog_10_method_65_code 82 = .ok (.iadd, 1) := by decide +kernel
theorem d_Mo_reads_83 : decode prog_10_method_65_code 83 = .ok (.putfield 194, 3) := by decide +kernel
theorem d_Mo_reads_86 : decode prog_10_method_65_code 86 = .ok (.goto (-72), 3) := by decide +kernel
theorem d_Mo_reads_89 : decode prog_10_method_65_code 89 = .ok (.aload_n 0, 1) := by decide +kernel
theorem d_Mo_reads_90 : decode prog_10_method_65_code 90 = .ok (.getfield 194, 3) := by decide +kernel
theorem d_Mo_reads_93 : decode prog_10_method_65_code 93 = .ok (.iload 4, 2) := by decide +kernel
theorem d_Mo_reads_95 : decode prog_10_method_65_code 95 = .ok (.if_icmp .le 34, 3) := by decide +kernel
theorem d_Mo_reads_98 : decode prog_10_method_65_code 98 = .ok (.iload_n 3, 1) := by decide +kernel
theorem d_Mo_reads_99 : decode prog_10_method_65_code 99 = .ok (.bipush 48, 2) := by decide +kernel
theorem d_Mo_reads_101 : decode prog_10_method_65_code 101 = .ok (.if_icmp .ne 14, 3) := by decide +kernel
theorem d_Mo_reads_104 : decode prog_10_method_65_code 104 = .ok (.aload_n 0, 1) := by decide +kernel
theorem d_Mo_reads_105 : decode prog_10_method_65_code 105 = .ok (.getfield 194, 3) := by decide +kernel
theorem d_Mo_reads_108 : decode prog_10_method_65_code 108 = .ok (.iload 4, 2) := by decide +kernel
theorem d_Mo_reads_110 : decode prog_10_method_65_code 110 = .ok (.iconst 1, 1) := by decide +kernel
theorem d_Mo_reads_111 : decode prog_10_method_65_code 111 = .ok (.iadd, 1) := by decide +kernel
theorem d_Mo_reads_112 : decode prog_10_method_65_code 112 = .ok (.if_icmp .ne 17, 3) := by decide +kernel
theorem d_Mo_reads_115 : decode prog_10_method_65_code 115 = .ok (.iload 5, 2) := by decide +kernel
theorem d_Mo_reads_117 : decode prog_10_method_65_code 117 = .ok (.iload_n 1, 1) := by decide +kernel
theorem d_Mo_reads_118 : decode prog_10_method_65_code 118 = .ok (.iload_n 2, 1) := by decide +kernel
theorem d_Mo_reads_119 : decode prog_10_method_65_code 119 = .ok (.invokestatic 47, 3) := by decide +kernel
theorem d_Mo_reads_122 : decode prog_10_method_65_code 122 = .ok (.ifCond .eq 7, 3) := by decide +kernel
theorem d_Mo_reads_125 : decode prog_10_method_65_code 125 = .ok (.iconst 1, 1) := by decide +kernel
theorem d_Mo_reads_126 : decode prog_10_method_65_code 126 = .ok (.goto 4, 3) := by decide +kernel
theorem d_Mo_reads_129 : decode prog_10_method_65_code 129 = .ok (.iconst 0, 1) := by decide +kernel
theorem d_Mo_reads_130 : decode prog_10_method_65_code 130 = .ok (.istore 6, 2) := by decide +kernel
theorem d_Mo_reads_132 : decode prog_10_method_65_code 132 = .ok (.aload_n 0, 1) := by decide +kernel
theorem d_Mo_reads_133 : decode prog_10_method_65_code 133 = .ok (.iload 6, 2) := by decide +kernel
theorem d_Mo_reads_135 : decode prog_10_method_65_code 135 = .ok (.ifCond .eq 10, 3) := by decide +kernel
theorem d_Mo_reads_138 : decode prog_10_method_65_code 138 = .ok (.aload_n 0, 1) := by decide +kernel
theorem d_Mo_reads_139 : decode prog_10_method_65_code 139 = .ok (.getfield 194, 3) := by decide +kernel
theorem d_Mo_reads_142 : decode prog_10_method_65_code 142 = .ok (.goto 5, 3) := by decide +kernel
theorem d_Mo_reads_145 : decode prog_10_method_65_code 145 = .ok (.iload 4, 2) := by decide +kernel
theorem d_Mo_reads_147 : decode prog_10_method_65_code 147 = .ok (.putfield 194, 3) := by decide +kernel
theorem d_Mo_reads_150 : decode prog_10_method_65_code 150 = .ok (.aload_n 0, 1) := by decide +kernel
theorem d_Mo_reads_151 : decode prog_10_method_65_code 151 = .ok (.iload 5, 2) := by decide +kernel
theorem d_Mo_reads_153 : decode prog_10_method_65_code 153 = .ok (.putfield 201, 3) := by decide +kernel
theorem d_Mo_reads_156 : decode prog_10_method_65_code 156 = .ok (.iload 6, 2) := by decide +kernel
theorem d_Mo_reads_158 : decode prog_10_method_65_code 158 = .ok (.ireturn, 1) := by decide +kernel
theorem d_Mo_takes_0 : decode prog_10_method_66_code 0 = .ok (.aload_n 0, 1) := by decide +kernel
theorem d_Mo_takes_1 : decode prog_10_method_66_code 1 = .ok (.invokevirtual 197, 3) := by decide +kernel
theorem d_Mo_takes_4 : decode prog_10_method_66_code 4 = .ok (.iload_n 1, 1) := by decide +kernel
theorem d_Mo_takes_5 : decode prog_10_method_66_code 5 = .ok (.if_icmp .ne 7, 3) := by decide +kernel
theorem d_Mo_takes_8 : decode prog_10_method_66_code 8 = .ok (.iconst 1, 1) := by decide +kernel
theorem d_Mo_takes_9 : decode prog_10_method_66_code 9 = .ok (.goto 4, 3) := by decide +kernel
theorem d_Mo_takes_12 : decode prog_10_method_66_code 12 = .ok (.iconst 0, 1) := by decide +kernel
theorem d_Mo_takes_13 : decode prog_10_method_66_code 13 = .ok (.istore_n 2, 1) := by decide +kernel
theorem d_Mo_takes_14 : decode prog_10_method_66_code 14 = .ok (.aload_n 0, 1) := by decide +kernel
theorem d_Mo_takes_15 : decode prog_10_method_66_code 15 = .ok (.dup, 1) := by decide +kernel
theorem d_Mo_takes_16 : decode prog_10_method_66_code 16 = .ok (.getfield 194, 3) := by decide +kernel
theorem d_Mo_takes_19 : decode prog_10_method_66_code 19 = .ok (.iload_n 2, 1) := by decide +kernel
theorem d_Mo_takes_20 : decode prog_10_method_66_code 20 = .ok (.ifCond .eq 7, 3) := by decide +kernel
theorem d_Mo_takes_23 : decode prog_10_method_66_code 23 = .ok (.iconst 1, 1) := by decide +kernel
theorem d_Mo_takes_24 : decode prog_10_method_66_code 24 = .ok (.goto 4, 3) := by decide +kernel
theorem d_Mo_takes_27 : decode prog_10_method_66_code 27 = .ok (.iconst 0, 1) := by decide +kernel
theorem d_Mo_takes_28 : decode prog_10_method_66_code 28 = .ok (.iadd, 1) := by decide +kernel
theorem d_Mo_takes_29 : decode prog_10_method_66_code 29 = .ok (.putfield 194, 3) := by decide +kernel
theorem d_Mo_takes_32 : decode prog_10_method_66_code 32 = .ok (.iload_n 2, 1) := by decide +kernel
theorem d_Mo_takes_33 : decode prog_10_method_66_code 33 = .ok (.ireturn, 1) := by decide +kernel
theorem d_Mo_readsBorder_0 : decode prog_10_method_67_code 0 = .ok (.aload_n 0, 1) := by decide +kernel
theorem d_Mo_readsBorder_1 : decode prog_10_method_67_code 1 = .ok (.iconst 1, 1) := by decide +kernel
theorem d_Mo_readsBorder_2 : decode prog_10_method_67_code 2 = .ok (.sipush 999, 3) := by decide +kernel
theorem d_Mo_readsBorder_5 : decode prog_10_method_67_code 5 = .ok (.invokevirtual 204, 3) := by decide +kernel
theorem d_Mo_readsBorder_8 : decode prog_10_method_67_code 8 = .ok (.ifCond .ne 5, 3) := by decide +kernel
theorem d_Mo_readsBorder_11 : decode prog_10_method_67_code 11 = .ok (.iconst 0, 1) := by decide +kernel
theorem d_Mo_readsBorder_12 : decode prog_10_method_67_code 12 = .ok (.ireturn, 1) := by decide +kernel
theorem d_Mo_readsBorder_13 : decode prog_10_method_67_code 13 = .ok (.aload_n 0, 1) := by decide +kernel
theorem d_Mo_readsBorder_14 : decode prog_10_method_67_code 14 = .ok (.getfield 201, 3) := by decide +kernel
theorem d_Mo_readsBorder_17 : decode prog_10_method_67_code 17 = .ok (.istore_n 3, 1) := by decide +kernel
theorem d_Mo_readsBorder_18 : decode prog_10_method_67_code 18 = .ok (.aload_n 0, 1) := by decide +kernel
theorem d_Mo_readsBorder_19 : decode prog_10_method_67_code 19 = .ok (.iconst 0, 1) := by decide +kernel
theorem d_Mo_readsBorder_20 : decode prog_10_method_67_code 20 = .ok (.bipush 100, 2) := by decide +kernel
theorem d_Mo_readsBorder_22 : decode prog_10_method_67_code 22 = .ok (.invokevirtual 204, 3) := by decide +kernel
theorem d_Mo_readsBorder_25 : decode prog_10_method_67_code 25 = .ok (.ifCond .ne 5, 3) := by decide +kernel
theorem d_Mo_readsBorder_28 : decode prog_10_method_67_code 28 = .ok (.iconst 0, 1) := by decide +kernel
theorem d_Mo_readsBorder_29 : decode prog_10_method_67_code 29 = .ok (.ireturn, 1) := by decide +kernel
theorem d_Mo_readsBorder_30 : decode prog_10_method_67_code 30 = .ok (.aload_n 0, 1) := by decide +kernel
theorem d_Mo_readsBorder_31 : decode prog_10_method_67_code 31 = .ok (.getfield 201, 3) := by decide +kernel
theorem d_Mo_readsBorder_34 : decode prog_10_method_67_code 34 = .ok (.istore 4, 2) := by decide +kernel
theorem d_Mo_readsBorder_36 : decode prog_10_method_67_code 36 = .ok (.aload_n 0, 1) := by decide +kernel
theorem d_Mo_readsBorder_37 : decode prog_10_method_67_code 37 = .ok (.bipush 126, 2) := by decide +kernel
theorem d_Mo_readsBorder_39 : decode prog_10_method_67_code 39 = .ok (.invokevirtual 207, 3) := by decide +kernel
theorem d_Mo_readsBorder_42 : decode prog_10_method_67_code 42 = .ok (.ifCond .eq 7, 3) := by decide +kernel
theorem d_Mo_readsBorder_45 : decode prog_10_method_67_code 45 = .ok (.iconst 1, 1) := by decide +kernel
theorem d_Mo_readsBorder_46 : decode prog_10_method_67_code 46 = .ok (.goto 4, 3) := by decide +kernel
theorem d_Mo_readsBorder_49 : decode prog_10_method_67_code 49 = .ok (.iconst 0, 1) := by decide +kernel
theorem d_Mo_readsBorder_50 : decode prog_10_method_67_code 50 = .ok (.istore 5, 2) := by decide +kernel
theorem d_Mo_readsBorder_52 : decode prog_10_method_67_code 52 = .ok (.aload_n 0, 1) := by decide +kernel
theorem d_Mo_readsBorder_53 : decode prog_10_method_67_code 53 = .ok (.bipush 59, 2) := by decide +kernel
theorem d_Mo_readsBorder_55 : decode prog_10_method_67_code 55 = .ok (.invokevirtual 207, 3) := by decide +kernel
theorem d_Mo_readsBorder_58 : decode prog_10_method_67_code 58 = .ok (.ifCond .ne 5, 3) := by decide +kernel
theorem d_Mo_readsBorder_61 : decode prog_10_method_67_code 61 = .ok (.iconst 0, 1) := by decide +kernel
theorem d_Mo_readsBorder_62 : decode prog_10_method_67_code 62 = .ok (.ireturn, 1) := by decide +kernel
theorem d_Mo_readsBorder_63 : decode prog_10_method_67_code 63 = .ok (.iload 5, 2) := by decide +kernel
theorem d_Mo_readsBorder_65 : decode prog_10_method_67_code 65 = .ok (.iload 4, 2) := by decide +kernel
theorem d_Mo_readsBorder_67 : decode prog_10_method_67_code 67 = .ok (.invokestatic 105, 3) := by decide +kernel
theorem d_Mo_readsBorder_70 : decode prog_10_method_67_code 70 = .ok (.ifCond .eq 35, 3) := by decide +kernel
theorem d_Mo_readsBorder_73 : decode prog_10_method_67_code 73 = .ok (.iload_n 3, 1) := by decide +kernel
theorem d_Mo_readsBorder_74 : decode prog_10_method_67_code 74 = .ok (.iload 4, 2) := by decide +kernel
theorem d_Mo_readsBorder_76 : decode prog_10_method_67_code 76 = .ok (.invokestatic 109, 3) := by decide +kernel
theorem d_Mo_readsBorder_79 : decode prog_10_method_67_code 79 = .ok (.ifCond .eq 26, 3) := by decide +kernel
theorem d_Mo_readsBorder_82 : decode prog_10_method_67_code 82 = .ok (.aload_n 0, 1) := by decide +kernel
theorem d_Mo_readsBorder_83 : decode prog_10_method_67_code 83 = .ok (.iload_n 1, 1) := by decide +kernel
theorem d_Mo_readsBorder_84 : decode prog_10_method_67_code 84 = .ok (.iload_n 3, 1) := by decide +kernel
theorem d_Mo_readsBorder_85 : decode prog_10_method_67_code 85 = .ok (.iload 4, 2) := by decide +kernel
theorem d_Mo_readsBorder_87 : decode prog_10_method_67_code 87 = .ok (.ldc 67, 2) := by decide +kernel
theorem d_Mo_readsBorder_89 : decode prog_10_method_67_code 89 = .ok (.invokevirtual 113, 3) := by decide +kernel
theorem d_Mo_readsBorder_92 : decode prog_10_method_67_code 92 = .ok (.ifCond .ne 13, 3) := by decide +kernel
theorem d_Mo_readsBorder_95 : decode prog_10_method_67_code 95 = .ok (.aload_n 0, 1) := by decide +kernel
theorem d_Mo_readsBorder_96 : decode prog_10_method_67_code 96 = .ok (.iload_n 1, 1) := by decide +kernel
theorem d_Mo_readsBorder_97 : decode prog_10_method_67_code 97 = .ok (.invokevirtual 55, 3) := by decide +kernel
theorem d_Mo_readsBorder_100 : decode prog_10_method_67_code 100 = .ok (.bipush 6, 2) := by decide +kernel
theorem d_Mo_readsBorder_102 : decode prog_10_method_67_code 102 = .ok (.if_icmp .ne 10, 3) := by decide +kernel
theorem d_Mo_readsBorder_105 : decode prog_10_method_67_code 105 = .ok (.aload_n 0, 1) := by decide +kernel
theorem d_Mo_readsBorder_106 : decode prog_10_method_67_code 106 = .ok (.iload_n 2, 1) := by decide +kernel
theorem d_Mo_readsBorder_107 : decode prog_10_method_67_code 107 = .ok (.putfield 194, 3) := by decide +kernel
theorem d_Mo_readsBorder_110 : decode prog_10_method_67_code 110 = .ok (.iconst 0, 1) := by decide +kernel
theorem d_Mo_readsBorder_111 : decode prog_10_method_67_code 111 = .ok (.ireturn, 1) := by decide +kernel
theorem d_Mo_readsBorder_112 : decode prog_10_method_67_code 112 = .ok (.aload_n 0, 1) := by decide +kernel
theorem d_Mo_readsBorder_113 : decode prog_10_method_67_code 113 = .ok (.iload_n 1, 1) := by decide +kernel
theorem d_Mo_readsBorder_114 : decode prog_10_method_67_code 114 = .ok (.iload_n 3, 1) := by decide +kernel
theorem d_Mo_readsBorder_115 : decode prog_10_method_67_code 115 = .ok (.iload 5, 2) := by decide +kernel
theorem d_Mo_readsBorder_117 : decode prog_10_method_67_code 117 = .ok (.iload 4, 2) := by decide +kernel
theorem d_Mo_readsBorder_119 : decode prog_10_method_67_code 119 = .ok (.invokevirtual 122, 3) := by decide +kernel
theorem d_Mo_readsBorder_122 : decode prog_10_method_67_code 122 = .ok (.ifCond .lt 7, 3) := by decide +kernel
theorem d_Mo_readsBorder_125 : decode prog_10_method_67_code 125 = .ok (.iconst 1, 1) := by decide +kernel
theorem d_Mo_readsBorder_126 : decode prog_10_method_67_code 126 = .ok (.goto 4, 3) := by decide +kernel
theorem d_Mo_readsBorder_129 : decode prog_10_method_67_code 129 = .ok (.iconst 0, 1) := by decide +kernel
theorem d_Mo_readsBorder_130 : decode prog_10_method_67_code 130 = .ok (.ireturn, 1) := by decide +kernel
theorem d_Mo_release_0 : decode prog_10_method_8_code 0 = .ok (.iconst 0, 1) := by decide +kernel
theorem d_Mo_release_1 : decode prog_10_method_8_code 1 = .ok (.istore_n 1, 1) := by decide +kernel
theorem d_Mo_release_2 : decode prog_10_method_8_code 2 = .ok (.iload_n 1, 1) := by decide +kernel
theorem d_Mo_release_3 : decode prog_10_method_8_code 3 = .ok (.sipush 1120, 3) := by decide +kernel
theorem d_Mo_release_6 : decode prog_10_method_8_code 6 = .ok (.if_icmp .ge 21, 3) := by decide +kernel
theorem d_Mo_release_9 : decode prog_10_method_8_code 9 = .ok (.aload_n 0, 1) := by decide +kernel
theorem d_Mo_release_10 : decode prog_10_method_8_code 10 = .ok (.getfield 7, 3) := by decide +kernel
theorem d_Mo_release_13 : decode prog_10_method_8_code 13 = .ok (.iload_n 1, 1) := by decide +kernel
theorem d_Mo_release_14 : decode prog_10_method_8_code 14 = .ok (.aload_n 0, 1) := by decide +kernel
theorem d_Mo_release_15 : decode prog_10_method_8_code 15 = .ok (.getfield 13, 3) := by decide +kernel
theorem d_Mo_release_18 : decode prog_10_method_8_code 18 = .ok (.iload_n 1, 1) := by decide +kernel
theorem d_Mo_release_19 : decode prog_10_method_8_code 19 = .ok (.iaload, 1) := by decide +kernel
theorem d_Mo_release_20 : decode prog_10_method_8_code 20 = .ok (.iastore, 1) := by decide +kernel
theorem d_Mo_release_21 : decode prog_10_method_8_code 21 = .ok (.iinc 1 1, 3) := by decide +kernel
theorem d_Mo_release_24 : decode prog_10_method_8_code 24 = .ok (.goto (-22), 3) := by decide +kernel
theorem d_Mo_release_27 : decode prog_10_method_8_code 27 = .ok (.return_, 1) := by decide +kernel
theorem d_Mo_exchange_0 : decode prog_10_method_9_code 0 = .ok (.iconst 0, 1) := by decide +kernel
theorem d_Mo_exchange_1 : decode prog_10_method_9_code 1 = .ok (.istore_n 1, 1) := by decide +kernel
theorem d_Mo_exchange_2 : decode prog_10_method_9_code 2 = .ok (.iload_n 1, 1) := by decide +kernel
theorem d_Mo_exchange_3 : decode prog_10_method_9_code 3 = .ok (.sipush 1120, 3) := by decide +kernel
theorem d_Mo_exchange_6 : decode prog_10_method_9_code 6 = .ok (.if_icmp .ge 35, 3) := by decide +kernel
theorem d_Mo_exchange_9 : decode prog_10_method_9_code 9 = .ok (.aload_n 0, 1) := by decide +kernel
theorem d_Mo_exchange_10 : decode prog_10_method_9_code 10 = .ok (.getfield 7, 3) := by decide +kernel
theorem d_Mo_exchange_13 : decode prog_10_method_9_code 13 = .ok (.iload_n 1, 1) := by decide +kernel
theorem d_Mo_exchange_14 : decode prog_10_method_9_code 14 = .ok (.iaload, 1) := by decide +kernel
theorem d_Mo_exchange_15 : decode prog_10_method_9_code 15 = .ok (.istore_n 2, 1) := by decide +kernel
theorem d_Mo_exchange_16 : decode prog_10_method_9_code 16 = .ok (.aload_n 0, 1) := by decide +kernel
theorem d_Mo_exchange_17 : decode prog_10_method_9_code 17 = .ok (.getfield 7, 3) := by decide +kernel
theorem d_Mo_exchange_20 : decode prog_10_method_9_code 20 = .ok (.iload_n 1, 1) := by decide +kernel
theorem d_Mo_exchange_21 : decode prog_10_method_9_code 21 = .ok (.aload_n 0, 1) := by decide +kernel
theorem d_Mo_exchange_22 : decode prog_10_method_9_code 22 = .ok (.getfield 13, 3) := by decide +kernel
theorem d_Mo_exchange_25 : decode prog_10_method_9_code 25 = .ok (.iload_n 1, 1) := by decide +kernel
theorem d_Mo_exchange_26 : decode prog_10_method_9_code 26 = .ok (.iaload, 1) := by decide +kernel
theorem d_Mo_exchange_27 : decode prog_10_method_9_code 27 = .ok (.iastore, 1) := by decide +kernel
theorem d_Mo_exchange_28 : decode prog_10_method_9_code 28 = .ok (.aload_n 0, 1) := by decide +kernel
theorem d_Mo_exchange_29 : decode prog_10_method_9_code 29 = .ok (.getfield 13, 3) := by decide +kernel
theorem d_Mo_exchange_32 : decode prog_10_method_9_code 32 = .ok (.iload_n 1, 1) := by decide +kernel
theorem d_Mo_exchange_33 : decode prog_10_method_9_code 33 = .ok (.iload_n 2, 1) := by decide +kernel
theorem d_Mo_exchange_34 : decode prog_10_method_9_code 34 = .ok (.iastore, 1) := by decide +kernel
theorem d_Mo_exchange_35 : decode prog_10_method_9_code 35 = .ok (.iinc 1 1, 3) := by decide +kernel
theorem d_Mo_exchange_38 : decode prog_10_method_9_code 38 = .ok (.goto (-36), 3) := by decide +kernel
theorem d_Mo_exchange_41 : decode prog_10_method_9_code 41 = .ok (.return_, 1) := by decide +kernel
theorem d_Mo_count_0 : decode prog_10_method_72_code 0 = .ok (.aload_n 0, 1) := by decide +kernel
theorem d_Mo_count_1 : decode prog_10_method_72_code 1 = .ok (.iconst 0, 1) := by decide +kernel
theorem d_Mo_count_2 : decode prog_10_method_72_code 2 = .ok (.putfield 37, 3) := by decide +kernel
theorem d_Mo_count_5 : decode prog_10_method_72_code 5 = .ok (.iload_n 1, 1) := by decide +kernel
theorem d_Mo_count_6 : decode prog_10_method_72_code 6 = .ok (.tableswitch 144 0 11 #[62, 67, 76, 76, 89, 89, 102, 111, 120, 129, 134, 139], 62) := by decide +kernel
theorem d_Mo_count_68 : decode prog_10_method_72_code 68 = .ok (.aload_n 0, 1) := by decide +kernel
theorem d_Mo_count_69 : decode prog_10_method_72_code 69 = .ok (.invokevirtual 188, 3) := by decide +kernel
theorem d_Mo_count_72 : decode prog_10_method_72_code 72 = .ok (.ireturn, 1) := by decide +kernel
theorem d_Mo_count_73 : decode prog_10_method_72_code 73 = .ok (.aload_n 0, 1) := by decide +kernel
theorem d_Mo_count_74 : decode prog_10_method_72_code 74 = .ok (.getfield 7, 3) := by decide +kernel
theorem d_Mo_count_77 : decode prog_10_method_72_code 77 = .ok (.sipush 238, 3) := by decide +kernel
theorem d_Mo_count_80 : decode prog_10_method_72_code 80 = .ok (.iaload, 1) := by decide +kernel
theorem d_Mo_count_81 : decode prog_10_method_72_code 81 = .ok (.ireturn, 1) := by decide +kernel
theorem d_Mo_count_82 : decode prog_10_method_72_code 82 = .ok (.aload_n 0, 1) := by decide +kernel
theorem d_Mo_count_83 : decode prog_10_method_72_code 83 = .ok (.getfield 7, 3) := by decide +kernel
theorem d_Mo_count_86 : decode prog_10_method_72_code 86 = .ok (.sipush 234, 3) := by decide +kernel
theorem d_Mo_count_89 : decode prog_10_method_72_code 89 = .ok (.iload_n 1, 1) := by decide +kernel
theorem d_Mo_count_90 : decode prog_10_method_72_code 90 = .ok (.iadd, 1) := by decide +kernel
theorem d_Mo_count_91 : decode prog_10_method_72_code 91 = .ok (.iconst 2, 1) := by decide +kernel
theorem d_Mo_count_92 : decode prog_10_method_72_code 92 = .ok (.isub, 1) := by decide +kernel
theorem d_Mo_count_93 : decode prog_10_method_72_code 93 = .ok (.iaload, 1) := by decide +kernel
theorem d_Mo_count_94 : decode prog_10_method_72_code 94 = .ok (.ireturn, 1) := by decide +kernel
theorem d_Mo_count_95 : decode prog_10_method_72_code 95 = .ok (.aload_n 0, 1) := by decide +kernel
theorem d_Mo_count_96 : decode prog_10_method_72_code 96 = .ok (.getfield 7, 3) := by decide +kernel
theorem d_Mo_count_99 : decode prog_10_method_72_code 99 = .ok (.sipush 236, 3) := by decide +kernel
theorem d_Mo_count_102 : decode prog_10_method_72_code 102 = .ok (.iload_n 1, 1) := by decide +kernel
theorem d_Mo_count_103 : decode prog_10_method_72_code 103 = .ok (.iadd, 1) := by decide +kernel
theorem d_Mo_count_104 : decode prog_10_method_72_code 104 = .ok (.iconst 4, 1) := by decide +kernel
theorem d_Mo_count_105 : decode prog_10_method_72_code 105 = .ok (.isub, 1) := by decide +kernel
theorem d_Mo_count_106 : decode prog_10_method_72_code 106 = .ok (.iaload, 1) := by decide +kernel
theorem d_Mo_count_107 : decode prog_10_method_72_code 107 = .ok (.ireturn, 1) := by decide +kernel
theorem d_Mo_count_108 : decode prog_10_method_72_code 108 = .ok (.aload_n 0, 1) := by decide +kernel
theorem d_Mo_count_109 : decode prog_10_method_72_code 109 = .ok (.getfield 7, 3) := by decide +kernel
theorem d_Mo_count_112 : decode prog_10_method_72_code 112 = .ok (.sipush 254, 3) := by decide +kernel
theorem d_Mo_count_115 : decode prog_10_method_72_code 115 = .ok (.iaload, 1) := by decide +kernel
theorem d_Mo_count_116 : decode prog_10_method_72_code 116 = .ok (.ireturn, 1) := by decide +kernel
theorem d_Mo_count_117 : decode prog_10_method_72_code 117 = .ok (.aload_n 0, 1) := by decide +kernel
theorem d_Mo_count_118 : decode prog_10_method_72_code 118 = .ok (.getfield 7, 3) := by decide +kernel
theorem d_Mo_count_121 : decode prog_10_method_72_code 121 = .ok (.sipush 239, 3) := by decide +kernel
theorem d_Mo_count_124 : decode prog_10_method_72_code 124 = .ok (.iaload, 1) := by decide +kernel
theorem d_Mo_count_125 : decode prog_10_method_72_code 125 = .ok (.ireturn, 1) := by decide +kernel
theorem d_Mo_count_126 : decode prog_10_method_72_code 126 = .ok (.aload_n 0, 1) := by decide +kernel
theorem d_Mo_count_127 : decode prog_10_method_72_code 127 = .ok (.getfield 7, 3) := by decide +kernel
theorem d_Mo_count_130 : decode prog_10_method_72_code 130 = .ok (.sipush 240, 3) := by decide +kernel
theorem d_Mo_count_133 : decode prog_10_method_72_code 133 = .ok (.iaload, 1) := by decide +kernel
theorem d_Mo_count_134 : decode prog_10_method_72_code 134 = .ok (.ireturn, 1) := by decide +kernel
theorem d_Mo_count_135 : decode prog_10_method_72_code 135 = .ok (.aload_n 0, 1) := by decide +kernel
theorem d_Mo_count_136 : decode prog_10_method_72_code 136 = .ok (.getfield 44, 3) := by decide +kernel
theorem d_Mo_count_139 : decode prog_10_method_72_code 139 = .ok (.ireturn, 1) := by decide +kernel
theorem d_Mo_count_140 : decode prog_10_method_72_code 140 = .ok (.aload_n 0, 1) := by decide +kernel
theorem d_Mo_count_141 : decode prog_10_method_72_code 141 = .ok (.getfield 191, 3) := by decide +kernel
theorem d_Mo_count_144 : decode prog_10_method_72_code 144 = .ok (.ireturn, 1) := by decide +kernel
theorem d_Mo_count_145 : decode prog_10_method_72_code 145 = .ok (.aload_n 0, 1) := by decide +kernel
theorem d_Mo_count_146 : decode prog_10_method_72_code 146 = .ok (.invokevirtual 230, 3) := by decide +kernel
theorem d_Mo_count_149 : decode prog_10_method_72_code 149 = .ok (.ireturn, 1) := by decide +kernel
theorem d_Mo_count_150 : decode prog_10_method_72_code 150 = .ok (.ldc 112, 2) := by decide +kernel
theorem d_Mo_count_152 : decode prog_10_method_72_code 152 = .ok (.ireturn, 1) := by decide +kernel
theorem d_Mo_snapshots_0 : decode prog_10_method_71_code 0 = .ok (.aload_n 0, 1) := by decide +kernel
theorem d_Mo_snapshots_1 : decode prog_10_method_71_code 1 = .ok (.getfield 7, 3) := by decide +kernel
theorem d_Mo_snapshots_4 : decode prog_10_method_71_code 4 = .ok (.sipush 415, 3) := by decide +kernel
theorem d_Mo_snapshots_7 : decode prog_10_method_71_code 7 = .ok (.iaload, 1) := by decide +kernel
theorem d_Mo_snapshots_8 : decode prog_10_method_71_code 8 = .ok (.aload_n 0, 1) := by decide +kernel
theorem d_Mo_snapshots_9 : decode prog_10_method_71_code 9 = .ok (.getfield 7, 3) := by decide +kernel
theorem d_Mo_snapshots_12 : decode prog_10_method_71_code 12 = .ok (.sipush 650, 3) := by decide +kernel
theorem d_Mo_snapshots_15 : decode prog_10_method_71_code 15 = .ok (.iaload, 1) := by decide +kernel
theorem d_Mo_snapshots_16 : decode prog_10_method_71_code 16 = .ok (.iadd, 1) := by decide +kernel
theorem d_Mo_snapshots_17 : decode prog_10_method_71_code 17 = .ok (.aload_n 0, 1) := by decide +kernel
theorem d_Mo_snapshots_18 : decode prog_10_method_71_code 18 = .ok (.getfield 7, 3) := by decide +kernel
theorem d_Mo_snapshots_21 : decode prog_10_method_71_code 21 = .ok (.sipush 885, 3) := by decide +kernel
theorem d_Mo_snapshots_24 : decode prog_10_method_71_code 24 = .ok (.iaload, 1) := by decide +kernel
theorem d_Mo_snapshots_25 : decode prog_10_method_71_code 25 = .ok (.iadd, 1) := by decide +kernel
theorem d_Mo_snapshots_26 : decode prog_10_method_71_code 26 = .ok (.ireturn, 1) := by decide +kernel
theorem d_Mo_axis_0 : decode prog_10_method_73_code 0 = .ok (.aload_n 0, 1) := by decide +kernel
theorem d_Mo_axis_1 : decode prog_10_method_73_code 1 = .ok (.iconst 0, 1) := by decide +kernel
theorem d_Mo_axis_2 : decode prog_10_method_73_code 2 = .ok (.putfield 37, 3) := by decide +kernel
theorem d_Mo_axis_5 : decode prog_10_method_73_code 5 = .ok (.iload_n 1, 1) := by decide +kernel
theorem d_Mo_axis_6 : decode prog_10_method_73_code 6 = .ok (.invokestatic 51, 3) := by decide +kernel
theorem d_Mo_axis_9 : decode prog_10_method_73_code 9 = .ok (.ifCond .eq 12, 3) := by decide +kernel
theorem d_Mo_axis_12 : decode prog_10_method_73_code 12 = .ok (.iload_n 2, 1) := by decide +kernel
theorem d_Mo_axis_13 : decode prog_10_method_73_code 13 = .ok (.iconst 0, 1) := by decide +kernel
theorem d_Mo_axis_14 : decode prog_10_method_73_code 14 = .ok (.iconst 5, 1) := by decide +kernel
theorem d_Mo_axis_15 : decode prog_10_method_73_code 15 = .ok (.invokestatic 47, 3) := by decide +kernel
theorem d_Mo_axis_18 : decode prog_10_method_73_code 18 = .ok (.ifCond .ne 6, 3) := by decide +kernel
theorem d_Mo_axis_21 : decode prog_10_method_73_code 21 = .ok (.ldc 112, 2) := by decide +kernel
theorem d_Mo_axis_23 : decode prog_10_method_73_code 23 = .ok (.ireturn, 1) := by decide +kernel
theorem d_Mo_axis_24 : decode prog_10_method_73_code 24 = .ok (.aload_n 0, 1) := by decide +kernel
theorem d_Mo_axis_25 : decode prog_10_method_73_code 25 = .ok (.invokevirtual 154, 3) := by decide +kernel
theorem d_Mo_axis_28 : decode prog_10_method_73_code 28 = .ok (.iload_n 2, 1) := by decide +kernel
theorem d_Mo_axis_29 : decode prog_10_method_73_code 29 = .ok (.tableswitch 70 0 4 #[35, 41, 49, 56, 63], 35) := by decide +kernel
theorem d_Mo_axis_64 : decode prog_10_method_73_code 64 = .ok (.aload_n 0, 1) := by decide +kernel
theorem d_Mo_axis_65 : decode prog_10_method_73_code 65 = .ok (.iload_n 1, 1) := by decide +kernel
theorem d_Mo_axis_66 : decode prog_10_method_73_code 66 = .ok (.invokevirtual 55, 3) := by decide +kernel
theorem d_Mo_axis_69 : decode prog_10_method_73_code 69 = .ok (.ireturn, 1) := by decide +kernel
theorem d_Mo_axis_70 : decode prog_10_method_73_code 70 = .ok (.aload_n 0, 1) := by decide +kernel
theorem d_Mo_axis_71 : decode prog_10_method_73_code 71 = .ok (.iload_n 1, 1) := by decide +kernel
theorem d_Mo_axis_72 : decode prog_10_method_73_code 72 = .ok (.invokevirtual 233, 3) := by decide +kernel
theorem d_Mo_axis_75 : decode prog_10_method_73_code 75 = .ok (.iconst 1, 1) := by decide +kernel
theorem d_Mo_axis_76 : decode prog_10_method_73_code 76 = .ok (.iadd, 1) := by decide +kernel
theorem d_Mo_axis_77 : decode prog_10_method_73_code 77 = .ok (.ireturn, 1) := by decide +kernel
theorem d_Mo_axis_78 : decode prog_10_method_73_code 78 = .ok (.aload_n 0, 1) := by decide +kernel
theorem d_Mo_axis_79 : decode prog_10_method_73_code 79 = .ok (.getfield 22, 3) := by decide +kernel
theorem d_Mo_axis_82 : decode prog_10_method_73_code 82 = .ok (.iload_n 1, 1) := by decide +kernel
theorem d_Mo_axis_83 : decode prog_10_method_73_code 83 = .ok (.iaload, 1) := by decide +kernel
theorem d_Mo_axis_84 : decode prog_10_method_73_code 84 = .ok (.ireturn, 1) := by decide +kernel
theorem d_Mo_axis_85 : decode prog_10_method_73_code 85 = .ok (.aload_n 0, 1) := by decide +kernel
theorem d_Mo_axis_86 : decode prog_10_method_73_code 86 = .ok (.getfield 25, 3) := by decide +kernel
theorem d_Mo_axis_89 : decode prog_10_method_73_code 89 = .ok (.iload_n 1, 1) := by decide +kernel
theorem d_Mo_axis_90 : decode prog_10_method_73_code 90 = .ok (.iaload, 1) := by decide +kernel
theorem d_Mo_axis_91 : decode prog_10_method_73_code 91 = .ok (.ireturn, 1) := by decide +kernel
theorem d_Mo_axis_92 : decode prog_10_method_73_code 92 = .ok (.aload_n 0, 1) := by decide +kernel
theorem d_Mo_axis_93 : decode prog_10_method_73_code 93 = .ok (.getfield 28, 3) := by decide +kernel
theorem d_Mo_axis_96 : decode prog_10_method_73_code 96 = .ok (.iload_n 1, 1) := by decide +kernel
theorem d_Mo_axis_97 : decode prog_10_method_73_code 97 = .ok (.iaload, 1) := by decide +kernel
theorem d_Mo_axis_98 : decode prog_10_method_73_code 98 = .ok (.ireturn, 1) := by decide +kernel
theorem d_Mo_axis_99 : decode prog_10_method_73_code 99 = .ok (.aload_n 0, 1) := by decide +kernel
theorem d_Mo_axis_100 : decode prog_10_method_73_code 100 = .ok (.getfield 31, 3) := by decide +kernel
theorem d_Mo_axis_103 : decode prog_10_method_73_code 103 = .ok (.iload_n 1, 1) := by decide +kernel
theorem d_Mo_axis_104 : decode prog_10_method_73_code 104 = .ok (.iaload, 1) := by decide +kernel
theorem d_Mo_axis_105 : decode prog_10_method_73_code 105 = .ok (.ireturn, 1) := by decide +kernel
theorem d_Mo_stickyMany_0 : decode prog_10_method_20_code 0 = .ok (.iconst 0, 1) := by decide +kernel
theorem d_Mo_stickyMany_1 : decode prog_10_method_20_code 1 = .ok (.istore_n 2, 1) := by decide +kernel
theorem d_Mo_stickyMany_2 : decode prog_10_method_20_code 2 = .ok (.iconst 0, 1) := by decide +kernel
theorem d_Mo_stickyMany_3 : decode prog_10_method_20_code 3 = .ok (.istore_n 3, 1) := by decide +kernel
theorem d_Mo_stickyMany_4 : decode prog_10_method_20_code 4 = .ok (.iload_n 3, 1) := by decide +kernel
theorem d_Mo_stickyMany_5 : decode prog_10_method_20_code 5 = .ok (.aload_n 0, 1) := by decide +kernel
theorem d_Mo_stickyMany_6 : decode prog_10_method_20_code 6 = .ok (.iload_n 1, 1) := by decide +kernel
theorem d_Mo_stickyMany_7 : decode prog_10_method_20_code 7 = .ok (.invokevirtual 55, 3) := by decide +kernel
theorem d_Mo_stickyMany_10 : decode prog_10_method_20_code 10 = .ok (.if_icmp .ge 27, 3) := by decide +kernel
theorem d_Mo_stickyMany_13 : decode prog_10_method_20_code 13 = .ok (.iload_n 2, 1) := by decide +kernel
theorem d_Mo_stickyMany_14 : decode prog_10_method_20_code 14 = .ok (.aload_n 0, 1) := by decide +kernel
theorem d_Mo_stickyMany_15 : decode prog_10_method_20_code 15 = .ok (.iload_n 1, 1) := by decide +kernel
theorem d_Mo_stickyMany_16 : decode prog_10_method_20_code 16 = .ok (.iload_n 3, 1) := by decide +kernel
theorem d_Mo_stickyMany_17 : decode prog_10_method_20_code 17 = .ok (.iconst 1, 1) := by decide +kernel
theorem d_Mo_stickyMany_18 : decode prog_10_method_20_code 18 = .ok (.invokevirtual 63, 3) := by decide +kernel
theorem d_Mo_stickyMany_21 : decode prog_10_method_20_code 21 = .ok (.ifCond .ne 7, 3) := by decide +kernel
theorem d_Mo_stickyMany_24 : decode prog_10_method_20_code 24 = .ok (.iconst 1, 1) := by decide +kernel
theorem d_Mo_stickyMany_25 : decode prog_10_method_20_code 25 = .ok (.goto 4, 3) := by decide +kernel
theorem d_Mo_stickyMany_28 : decode prog_10_method_20_code 28 = .ok (.iconst 0, 1) := by decide +kernel
theorem d_Mo_stickyMany_29 : decode prog_10_method_20_code 29 = .ok (.iadd, 1) := by decide +kernel
theorem d_Mo_stickyMany_30 : decode prog_10_method_20_code 30 = .ok (.istore_n 2, 1) := by decide +kernel
theorem d_Mo_stickyMany_31 : decode prog_10_method_20_code 31 = .ok (.iinc 3 1, 3) := by decide +kernel
theorem d_Mo_stickyMany_34 : decode prog_10_method_20_code 34 = .ok (.goto (-30), 3) := by decide +kernel
theorem d_Mo_stickyMany_37 : decode prog_10_method_20_code 37 = .ok (.iload_n 2, 1) := by decide +kernel
theorem d_Mo_stickyMany_38 : decode prog_10_method_20_code 38 = .ok (.ireturn, 1) := by decide +kernel
theorem d_Mo_border_0 : decode prog_10_method_74_code 0 = .ok (.aload_n 0, 1) := by decide +kernel
theorem d_Mo_border_1 : decode prog_10_method_74_code 1 = .ok (.iconst 0, 1) := by decide +kernel
theorem d_Mo_border_2 : decode prog_10_method_74_code 2 = .ok (.putfield 37, 3) := by decide +kernel
theorem d_Mo_border_5 : decode prog_10_method_74_code 5 = .ok (.iload_n 1, 1) := by decide +kernel
theorem d_Mo_border_6 : decode prog_10_method_74_code 6 = .ok (.invokestatic 51, 3) := by decide +kernel
theorem d_Mo_border_9 : decode prog_10_method_74_code 9 = .ok (.ifCond .eq 16, 3) := by decide +kernel
theorem d_Mo_border_12 : decode prog_10_method_74_code 12 = .ok (.iload_n 2, 1) := by decide +kernel
theorem d_Mo_border_13 : decode prog_10_method_74_code 13 = .ok (.ifCond .lt 12, 3) := by decide +kernel
theorem d_Mo_border_16 : decode prog_10_method_74_code 16 = .ok (.iload_n 3, 1) := by decide +kernel
theorem d_Mo_border_17 : decode prog_10_method_74_code 17 = .ok (.iconst 0, 1) := by decide +kernel
theorem d_Mo_border_18 : decode prog_10_method_74_code 18 = .ok (.iconst 2, 1) := by decide +kernel
theorem d_Mo_border_19 : decode prog_10_method_74_code 19 = .ok (.invokestatic 47, 3) := by decide +kernel
theorem d_Mo_border_22 : decode prog_10_method_74_code 22 = .ok (.ifCond .ne 6, 3) := by decide +kernel
theorem d_Mo_border_25 : decode prog_10_method_74_code 25 = .ok (.ldc 112, 2) := by decide +kernel
theorem d_Mo_border_27 : decode prog_10_method_74_code 27 = .ok (.ireturn, 1) := by decide +kernel
theorem d_Mo_border_28 : decode prog_10_method_74_code 28 = .ok (.iload_n 2, 1) := by decide +kernel
theorem d_Mo_border_29 : decode prog_10_method_74_code 29 = .ok (.aload_n 0, 1) := by decide +kernel
theorem d_Mo_border_30 : decode prog_10_method_74_code 30 = .ok (.iload_n 1, 1) := by decide +kernel
theorem d_Mo_border_31 : decode prog_10_method_74_code 31 = .ok (.invokevirtual 55, 3) := by decide +kernel
theorem d_Mo_border_34 : decode prog_10_method_74_code 34 = .ok (.if_icmp .ge 13, 3) := by decide +kernel
theorem d_Mo_border_37 : decode prog_10_method_74_code 37 = .ok (.aload_n 0, 1) := by decide +kernel
theorem d_Mo_border_38 : decode prog_10_method_74_code 38 = .ok (.iload_n 1, 1) := by decide +kernel
theorem d_Mo_border_39 : decode prog_10_method_74_code 39 = .ok (.iload_n 2, 1) := by decide +kernel
theorem d_Mo_border_40 : decode prog_10_method_74_code 40 = .ok (.iload_n 3, 1) := by decide +kernel
theorem d_Mo_border_41 : decode prog_10_method_74_code 41 = .ok (.invokevirtual 63, 3) := by decide +kernel
theorem d_Mo_border_44 : decode prog_10_method_74_code 44 = .ok (.goto 5, 3) := by decide +kernel
theorem d_Mo_border_47 : decode prog_10_method_74_code 47 = .ok (.ldc 67, 2) := by decide +kernel
theorem d_Mo_border_49 : decode prog_10_method_74_code 49 = .ok (.ireturn, 1) := by decide +kernel
theorem d_Mo_region_0 : decode prog_10_method_75_code 0 = .ok (.aload_n 0, 1) := by decide +kernel
theorem d_Mo_region_1 : decode prog_10_method_75_code 1 = .ok (.iconst 0, 1) := by decide +kernel
theorem d_Mo_region_2 : decode prog_10_method_75_code 2 = .ok (.putfield 37, 3) := by decide +kernel
theorem d_Mo_region_5 : decode prog_10_method_75_code 5 = .ok (.aload_n 0, 1) := by decide +kernel
theorem d_Mo_region_6 : decode prog_10_method_75_code 6 = .ok (.iload_n 1, 1) := by decide +kernel
theorem d_Mo_region_7 : decode prog_10_method_75_code 7 = .ok (.iload_n 2, 1) := by decide +kernel
theorem d_Mo_region_8 : decode prog_10_method_75_code 8 = .ok (.invokevirtual 137, 3) := by decide +kernel
theorem d_Mo_region_11 : decode prog_10_method_75_code 11 = .ok (.ifCond .eq 12, 3) := by decide +kernel
theorem d_Mo_region_14 : decode prog_10_method_75_code 14 = .ok (.iload_n 3, 1) := by decide +kernel
theorem d_Mo_region_15 : decode prog_10_method_75_code 15 = .ok (.iconst 0, 1) := by decide +kernel
theorem d_Mo_region_16 : decode prog_10_method_75_code 16 = .ok (.iconst 3, 1) := by decide +kernel
theorem d_Mo_region_17 : decode prog_10_method_75_code 17 = .ok (.invokestatic 47, 3) := by decide +kernel
theorem d_Mo_region_20 : decode prog_10_method_75_code 20 = .ok (.ifCond .ne 6, 3) := by decide +kernel
theorem d_Mo_region_23 : decode prog_10_method_75_code 23 = .ok (.ldc 112, 2) := by decide +kernel
theorem d_Mo_region_25 : decode prog_10_method_75_code 25 = .ok (.ireturn, 1) := by decide +kernel
theorem d_Mo_region_26 : decode prog_10_method_75_code 26 = .ok (.aload_n 0, 1) := by decide +kernel
theorem d_Mo_region_27 : decode prog_10_method_75_code 27 = .ok (.getfield 7, 3) := by decide +kernel
theorem d_Mo_region_30 : decode prog_10_method_75_code 30 = .ok (.iload_n 1, 1) := by decide +kernel
theorem d_Mo_region_31 : decode prog_10_method_75_code 31 = .ok (.iload_n 2, 1) := by decide +kernel
theorem d_Mo_region_32 : decode prog_10_method_75_code 32 = .ok (.invokestatic 59, 3) := by decide +kernel
theorem d_Mo_region_35 : decode prog_10_method_75_code 35 = .ok (.iload_n 3, 1) := by decide +kernel
theorem d_Mo_region_36 : decode prog_10_method_75_code 36 = .ok (.iadd, 1) := by decide +kernel
theorem d_Mo_region_37 : decode prog_10_method_75_code 37 = .ok (.iaload, 1) := by decide +kernel
theorem d_Mo_region_38 : decode prog_10_method_75_code 38 = .ok (.istore 4, 2) := by decide +kernel
theorem d_Mo_region_40 : decode prog_10_method_75_code 40 = .ok (.iload_n 3, 1) := by decide +kernel
theorem d_Mo_region_41 : decode prog_10_method_75_code 41 = .ok (.iconst 3, 1) := by decide +kernel
theorem d_Mo_region_42 : decode prog_10_method_75_code 42 = .ok (.if_icmp .ne 14, 3) := by decide +kernel
theorem d_Mo_region_45 : decode prog_10_method_75_code 45 = .ok (.iload 4, 2) := by decide +kernel
theorem d_Mo_region_47 : decode prog_10_method_75_code 47 = .ok (.iconst (-1), 1) := by decide +kernel
theorem d_Mo_region_48 : decode prog_10_method_75_code 48 = .ok (.if_icmp .ne 8, 3) := by decide +kernel
theorem d_Mo_region_51 : decode prog_10_method_75_code 51 = .ok (.ldc 67, 2) := by decide +kernel
theorem d_Mo_region_53 : decode prog_10_method_75_code 53 = .ok (.goto 5, 3) := by decide +kernel
theorem d_Mo_region_56 : decode prog_10_method_75_code 56 = .ok (.iload 4, 2) := by decide +kernel
theorem d_Mo_region_58 : decode prog_10_method_75_code 58 = .ok (.ireturn, 1) := by decide +kernel
theorem d_Mo_operator_0 : decode prog_10_method_76_code 0 = .ok (.aload_n 0, 1) := by decide +kernel
theorem d_Mo_operator_1 : decode prog_10_method_76_code 1 = .ok (.iconst 0, 1) := by decide +kernel
theorem d_Mo_operator_2 : decode prog_10_method_76_code 2 = .ok (.putfield 37, 3) := by decide +kernel
theorem d_Mo_operator_5 : decode prog_10_method_76_code 5 = .ok (.iload_n 1, 1) := by decide +kernel
theorem d_Mo_operator_6 : decode prog_10_method_76_code 6 = .ok (.invokestatic 134, 3) := by decide +kernel
theorem d_Mo_operator_9 : decode prog_10_method_76_code 9 = .ok (.ifCond .eq 12, 3) := by decide +kernel
theorem d_Mo_operator_12 : decode prog_10_method_76_code 12 = .ok (.iload_n 2, 1) := by decide +kernel
theorem d_Mo_operator_13 : decode prog_10_method_76_code 13 = .ok (.iconst 0, 1) := by decide +kernel
theorem d_Mo_operator_14 : decode prog_10_method_76_code 14 = .ok (.iconst 3, 1) := by decide +kernel
theorem d_Mo_operator_15 : decode prog_10_method_76_code 15 = .ok (.invokestatic 47, 3) := by decide +kernel
theorem d_Mo_operator_18 : decode prog_10_method_76_code 18 = .ok (.ifCond .ne 6, 3) := by decide +kernel
theorem d_Mo_operator_21 : decode prog_10_method_76_code 21 = .ok (.ldc 112, 2) := by decide +kernel
theorem d_Mo_operator_23 : decode prog_10_method_76_code 23 = .ok (.ireturn, 1) := by decide +kernel
theorem d_Mo_operator_24 : decode prog_10_method_76_code 24 = .ok (.iload_n 2, 1) := by decide +kernel
theorem d_Mo_operator_25 : decode prog_10_method_76_code 25 = .ok (.iconst 2, 1) := by decide +kernel
theorem d_Mo_operator_26 : decode prog_10_method_76_code 26 = .ok (.if_icmp .ne 11, 3) := by decide +kernel
theorem d_Mo_operator_29 : decode prog_10_method_76_code 29 = .ok (.aload_n 0, 1) := by decide +kernel
theorem d_Mo_operator_30 : decode prog_10_method_76_code 30 = .ok (.iload_n 1, 1) := by decide +kernel
theorem d_Mo_operator_31 : decode prog_10_method_76_code 31 = .ok (.invokevirtual 151, 3) := by decide +kernel
theorem d_Mo_operator_34 : decode prog_10_method_76_code 34 = .ok (.goto 26, 3) := by decide +kernel
theorem d_Mo_operator_37 : decode prog_10_method_76_code 37 = .ok (.aload_n 0, 1) := by decide +kernel
theorem d_Mo_operator_38 : decode prog_10_method_76_code 38 = .ok (.getfield 7, 3) := by decide +kernel
theorem d_Mo_operator_41 : decode prog_10_method_76_code 41 = .ok (.sipush 241, 3) := by decide +kernel
theorem d_Mo_operator_44 : decode prog_10_method_76_code 44 = .ok (.iconst 3, 1) := by decide +kernel
theorem d_Mo_operator_45 : decode prog_10_method_76_code 45 = .ok (.iload_n 1, 1) := by decide +kernel
theorem d_Mo_operator_46 : decode prog_10_method_76_code 46 = .ok (.imul, 1) := by decide +kernel
theorem d_Mo_operator_47 : decode prog_10_method_76_code 47 = .ok (.iadd, 1) := by decide +kernel
theorem d_Mo_operator_48 : decode prog_10_method_76_code 48 = .ok (.iload_n 2, 1) := by decide +kernel
theorem d_Mo_operator_49 : decode prog_10_method_76_code 49 = .ok (.iconst 3, 1) := by decide +kernel
theorem d_Mo_operator_50 : decode prog_10_method_76_code 50 = .ok (.if_icmp .ne 7, 3) := by decide +kernel
theorem d_Mo_operator_53 : decode prog_10_method_76_code 53 = .ok (.iconst 2, 1) := by decide +kernel
theorem d_Mo_operator_54 : decode prog_10_method_76_code 54 = .ok (.goto 4, 3) := by decide +kernel
theorem d_Mo_operator_57 : decode prog_10_method_76_code 57 = .ok (.iload_n 2, 1) := by decide +kernel
theorem d_Mo_operator_58 : decode prog_10_method_76_code 58 = .ok (.iadd, 1) := by decide +kernel
theorem d_Mo_operator_59 : decode prog_10_method_76_code 59 = .ok (.iaload, 1) := by decide +kernel
theorem d_Mo_operator_60 : decode prog_10_method_76_code 60 = .ok (.ireturn, 1) := by decide +kernel
theorem d_Mo_account_0 : decode prog_10_method_77_code 0 = .ok (.aload_n 0, 1) := by decide +kernel
theorem d_Mo_account_1 : decode prog_10_method_77_code 1 = .ok (.iconst 0, 1) := by decide +kernel
theorem d_Mo_account_2 : decode prog_10_method_77_code 2 = .ok (.putfield 37, 3) := by decide +kernel
theorem d_Mo_account_5 : decode prog_10_method_77_code 5 = .ok (.iload_n 1, 1) := by decide +kernel
theorem d_Mo_account_6 : decode prog_10_method_77_code 6 = .ok (.iconst 0, 1) := by decide +kernel
theorem d_Mo_account_7 : decode prog_10_method_77_code 7 = .ok (.iconst 4, 1) := by decide +kernel
theorem d_Mo_account_8 : decode prog_10_method_77_code 8 = .ok (.invokestatic 47, 3) := by decide +kernel
theorem d_Mo_account_11 : decode prog_10_method_77_code 11 = .ok (.ifCond .ne 6, 3) := by decide +kernel
theorem d_Mo_account_14 : decode prog_10_method_77_code 14 = .ok (.ldc 112, 2) := by decide +kernel
theorem d_Mo_account_16 : decode prog_10_method_77_code 16 = .ok (.ireturn, 1) := by decide +kernel
theorem d_Mo_account_17 : decode prog_10_method_77_code 17 = .ok (.iload_n 1, 1) := by decide +kernel
theorem d_Mo_account_18 : decode prog_10_method_77_code 18 = .ok (.iconst 4, 1) := by decide +kernel
theorem d_Mo_account_19 : decode prog_10_method_77_code 19 = .ok (.if_icmp .ge 16, 3) := by decide +kernel
theorem d_Mo_account_22 : decode prog_10_method_77_code 22 = .ok (.aload_n 0, 1) := by decide +kernel
theorem d_Mo_account_23 : decode prog_10_method_77_code 23 = .ok (.getfield 7, 3) := by decide +kernel
theorem d_Mo_account_26 : decode prog_10_method_77_code 26 = .ok (.sipush 250, 3) := by decide +kernel
theorem d_Mo_account_29 : decode prog_10_method_77_code 29 = .ok (.iload_n 1, 1) := by decide +kernel
theorem d_Mo_account_30 : decode prog_10_method_77_code 30 = .ok (.iadd, 1) := by decide +kernel
theorem d_Mo_account_31 : decode prog_10_method_77_code 31 = .ok (.iaload, 1) := by decide +kernel
theorem d_Mo_account_32 : decode prog_10_method_77_code 32 = .ok (.goto 38, 3) := by decide +kernel
theorem d_Mo_account_35 : decode prog_10_method_77_code 35 = .ok (.aload_n 0, 1) := by decide +kernel
theorem d_Mo_account_36 : decode prog_10_method_77_code 36 = .ok (.getfield 7, 3) := by decide +kernel
theorem d_Mo_account_39 : decode prog_10_method_77_code 39 = .ok (.sipush 250, 3) := by decide +kernel
theorem d_Mo_account_42 : decode prog_10_method_77_code 42 = .ok (.iaload, 1) := by decide +kernel
theorem d_Mo_account_43 : decode prog_10_method_77_code 43 = .ok (.aload_n 0, 1) := by decide +kernel
theorem d_Mo_account_44 : decode prog_10_method_77_code 44 = .ok (.getfield 7, 3) := by decide +kernel
theorem d_Mo_account_47 : decode prog_10_method_77_code 47 = .ok (.sipush 251, 3) := by decide +kernel
theorem d_Mo_account_50 : decode prog_10_method_77_code 50 = .ok (.iaload, 1) := by decide +kernel
theorem d_Mo_account_51 : decode prog_10_method_77_code 51 = .ok (.iadd, 1) := by decide +kernel
theorem d_Mo_account_52 : decode prog_10_method_77_code 52 = .ok (.aload_n 0, 1) := by decide +kernel
theorem d_Mo_account_53 : decode prog_10_method_77_code 53 = .ok (.getfield 7, 3) := by decide +kernel
theorem d_Mo_account_56 : decode prog_10_method_77_code 56 = .ok (.sipush 252, 3) := by decide +kernel
theorem d_Mo_account_59 : decode prog_10_method_77_code 59 = .ok (.iaload, 1) := by decide +kernel
theorem d_Mo_account_60 : decode prog_10_method_77_code 60 = .ok (.iadd, 1) := by decide +kernel
theorem d_Mo_account_61 : decode prog_10_method_77_code 61 = .ok (.aload_n 0, 1) := by decide +kernel
theorem d_Mo_account_62 : decode prog_10_method_77_code 62 = .ok (.getfield 7, 3) := by decide +kernel
theorem d_Mo_account_65 : decode prog_10_method_77_code 65 = .ok (.sipush 253, 3) := by decide +kernel
theorem d_Mo_account_68 : decode prog_10_method_77_code 68 = .ok (.iaload, 1) := by decide +kernel
theorem d_Mo_account_69 : decode prog_10_method_77_code 69 = .ok (.iadd, 1) := by decide +kernel
theorem d_Mo_account_70 : decode prog_10_method_77_code 70 = .ok (.ireturn, 1) := by decide +kernel
theorem d_Mo_gain_0 : decode prog_10_method_78_code 0 = .ok (.aload_n 0, 1) := by decide +kernel
theorem d_Mo_gain_1 : decode prog_10_method_78_code 1 = .ok (.iconst 0, 1) := by decide +kernel
theorem d_Mo_gain_2 : decode prog_10_method_78_code 2 = .ok (.putfield 37, 3) := by decide +kernel
theorem d_Mo_gain_5 : decode prog_10_method_78_code 5 = .ok (.iload_n 1, 1) := by decide +kernel
theorem d_Mo_gain_6 : decode prog_10_method_78_code 6 = .ok (.iconst 0, 1) := by decide +kernel
theorem d_Mo_gain_7 : decode prog_10_method_78_code 7 = .ok (.iconst 2, 1) := by decide +kernel
theorem d_Mo_gain_8 : decode prog_10_method_78_code 8 = .ok (.invokestatic 47, 3) := by decide +kernel
theorem d_Mo_gain_11 : decode prog_10_method_78_code 11 = .ok (.ifCond .eq 12, 3) := by decide +kernel
theorem d_Mo_gain_14 : decode prog_10_method_78_code 14 = .ok (.iload_n 2, 1) := by decide +kernel
theorem d_Mo_gain_15 : decode prog_10_method_78_code 15 = .ok (.iconst 0, 1) := by decide +kernel
theorem d_Mo_gain_16 : decode prog_10_method_78_code 16 = .ok (.iconst 2, 1) := by decide +kernel
theorem d_Mo_gain_17 : decode prog_10_method_78_code 17 = .ok (.invokestatic 47, 3) := by decide +kernel
theorem d_Mo_gain_20 : decode prog_10_method_78_code 20 = .ok (.ifCond .ne 6, 3) := by decide +kernel
theorem d_Mo_gain_23 : decode prog_10_method_78_code 23 = .ok (.ldc 112, 2) := by decide +kernel
theorem d_Mo_gain_25 : decode prog_10_method_78_code 25 = .ok (.ireturn, 1) := by decide +kernel
theorem d_Mo_gain_26 : decode prog_10_method_78_code 26 = .ok (.aload_n 0, 1) := by decide +kernel
theorem d_Mo_gain_27 : decode prog_10_method_78_code 27 = .ok (.invokevirtual 154, 3) := by decide +kernel
theorem d_Mo_gain_30 : decode prog_10_method_78_code 30 = .ok (.iload_n 2, 1) := by decide +kernel
theorem d_Mo_gain_31 : decode prog_10_method_78_code 31 = .ok (.ifCond .ne 11, 3) := by decide +kernel
theorem d_Mo_gain_34 : decode prog_10_method_78_code 34 = .ok (.aload_n 0, 1) := by decide +kernel
theorem d_Mo_gain_35 : decode prog_10_method_78_code 35 = .ok (.iload_n 1, 1) := by decide +kernel
theorem d_Mo_gain_36 : decode prog_10_method_78_code 36 = .ok (.invokevirtual 157, 3) := by decide +kernel
theorem d_Mo_gain_39 : decode prog_10_method_78_code 39 = .ok (.goto 20, 3) := by decide +kernel
theorem d_Mo_gain_42 : decode prog_10_method_78_code 42 = .ok (.iload_n 2, 1) := by decide +kernel
theorem d_Mo_gain_43 : decode prog_10_method_78_code 43 = .ok (.iconst 1, 1) := by decide +kernel
theorem d_Mo_gain_44 : decode prog_10_method_78_code 44 = .ok (.if_icmp .ne 11, 3) := by decide +kernel
theorem d_Mo_gain_47 : decode prog_10_method_78_code 47 = .ok (.aload_n 0, 1) := by decide +kernel
theorem d_Mo_gain_48 : decode prog_10_method_78_code 48 = .ok (.iload_n 1, 1) := by decide +kernel
theorem d_Mo_gain_49 : decode prog_10_method_78_code 49 = .ok (.invokevirtual 78, 3) := by decide +kernel
theorem d_Mo_gain_52 : decode prog_10_method_78_code 52 = .ok (.goto 7, 3) := by decide +kernel
theorem d_Mo_gain_55 : decode prog_10_method_78_code 55 = .ok (.aload_n 0, 1) := by decide +kernel
theorem d_Mo_gain_56 : decode prog_10_method_78_code 56 = .ok (.invokevirtual 81, 3) := by decide +kernel
theorem d_Mo_gain_59 : decode prog_10_method_78_code 59 = .ok (.ireturn, 1) := by decide +kernel
theorem d_Mo_trail_0 : decode prog_10_method_79_code 0 = .ok (.aload_n 0, 1) := by decide +kernel
theorem d_Mo_trail_1 : decode prog_10_method_79_code 1 = .ok (.iconst 0, 1) := by decide +kernel
theorem d_Mo_trail_2 : decode prog_10_method_79_code 2 = .ok (.putfield 37, 3) := by decide +kernel
theorem d_Mo_trail_5 : decode prog_10_method_79_code 5 = .ok (.iload_n 1, 1) := by decide +kernel
theorem d_Mo_trail_6 : decode prog_10_method_79_code 6 = .ok (.ifCond .lt 13, 3) := by decide +kernel
theorem d_Mo_trail_9 : decode prog_10_method_79_code 9 = .ok (.iload_n 2, 1) := by decide +kernel
theorem d_Mo_trail_10 : decode prog_10_method_79_code 10 = .ok (.iconst 0, 1) := by decide +kernel
theorem d_Mo_trail_11 : decode prog_10_method_79_code 11 = .ok (.bipush 7, 2) := by decide +kernel
theorem d_Mo_trail_13 : decode prog_10_method_79_code 13 = .ok (.invokestatic 47, 3) := by decide +kernel
theorem d_Mo_trail_16 : decode prog_10_method_79_code 16 = .ok (.ifCond .ne 6, 3) := by decide +kernel
theorem d_Mo_trail_19 : decode prog_10_method_79_code 19 = .ok (.ldc 112, 2) := by decide +kernel
theorem d_Mo_trail_21 : decode prog_10_method_79_code 21 = .ok (.ireturn, 1) := by decide +kernel
theorem d_Mo_trail_22 : decode prog_10_method_79_code 22 = .ok (.iload_n 1, 1) := by decide +kernel
theorem d_Mo_trail_23 : decode prog_10_method_79_code 23 = .ok (.aload_n 0, 1) := by decide +kernel
theorem d_Mo_trail_24 : decode prog_10_method_79_code 24 = .ok (.getfield 7, 3) := by decide +kernel
theorem d_Mo_trail_27 : decode prog_10_method_79_code 27 = .ok (.sipush 254, 3) := by decide +kernel
theorem d_Mo_trail_30 : decode prog_10_method_79_code 30 = .ok (.iaload, 1) := by decide +kernel
theorem d_Mo_trail_31 : decode prog_10_method_79_code 31 = .ok (.if_icmp .ge 32, 3) := by decide +kernel
theorem d_Mo_trail_34 : decode prog_10_method_79_code 34 = .ok (.aload_n 0, 1) := by decide +kernel
theorem d_Mo_trail_35 : decode prog_10_method_79_code 35 = .ok (.getfield 7, 3) := by decide +kernel
theorem d_Mo_trail_38 : decode prog_10_method_79_code 38 = .ok (.sipush 255, 3) := by decide +kernel
theorem d_Mo_trail_41 : decode prog_10_method_79_code 41 = .ok (.bipush 8, 2) := by decide +kernel
theorem d_Mo_trail_43 : decode prog_10_method_79_code 43 = .ok (.aload_n 0, 1) := by decide +kernel
theorem d_Mo_trail_44 : decode prog_10_method_79_code 44 = .ok (.getfield 7, 3) := by decide +kernel
theorem d_Mo_trail_47 : decode prog_10_method_79_code 47 = .ok (.sipush 254, 3) := by decide +kernel
theorem d_Mo_trail_50 : decode prog_10_method_79_code 50 = .ok (.iaload, 1) := by decide +kernel
theorem d_Mo_trail_51 : decode prog_10_method_79_code 51 = .ok (.iconst 1, 1) := by decide +kernel
theorem d_Mo_trail_52 : decode prog_10_method_79_code 52 = .ok (.isub, 1) := by decide +kernel
theorem d_Mo_trail_53 : decode prog_10_method_79_code 53 = .ok (.iload_n 1, 1) := by decide +kernel
theorem d_Mo_trail_54 : decode prog_10_method_79_code 54 = .ok (.isub, 1) := by decide +kernel
theorem d_Mo_trail_55 : decode prog_10_method_79_code 55 = .ok (.imul, 1) := by decide +kernel
theorem d_Mo_trail_56 : decode prog_10_method_79_code 56 = .ok (.iadd, 1) := by decide +kernel
theorem d_Mo_trail_57 : decode prog_10_method_79_code 57 = .ok (.iload_n 2, 1) := by decide +kernel
theorem d_Mo_trail_58 : decode prog_10_method_79_code 58 = .ok (.iadd, 1) := by decide +kernel
theorem d_Mo_trail_59 : decode prog_10_method_79_code 59 = .ok (.iaload, 1) := by decide +kernel
theorem d_Mo_trail_60 : decode prog_10_method_79_code 60 = .ok (.goto 5, 3) := by decide +kernel
theorem d_Mo_trail_63 : decode prog_10_method_79_code 63 = .ok (.ldc 67, 2) := by decide +kernel
theorem d_Mo_trail_65 : decode prog_10_method_79_code 65 = .ok (.ireturn, 1) := by decide +kernel
theorem d_Mo_refusal_0 : decode prog_10_method_80_code 0 = .ok (.aload_n 0, 1) := by decide +kernel
theorem d_Mo_refusal_1 : decode prog_10_method_80_code 1 = .ok (.iconst 0, 1) := by decide +kernel
theorem d_Mo_refusal_2 : decode prog_10_method_80_code 2 = .ok (.putfield 37, 3) := by decide +kernel
theorem d_Mo_refusal_5 : decode prog_10_method_80_code 5 = .ok (.aload_n 0, 1) := by decide +kernel
theorem d_Mo_refusal_6 : decode prog_10_method_80_code 6 = .ok (.iload_n 1, 1) := by decide +kernel
theorem d_Mo_refusal_7 : decode prog_10_method_80_code 7 = .ok (.iload_n 2, 1) := by decide +kernel
theorem d_Mo_refusal_8 : decode prog_10_method_80_code 8 = .ok (.iload_n 3, 1) := by decide +kernel
theorem d_Mo_refusal_9 : decode prog_10_method_80_code 9 = .ok (.iload 4, 2) := by decide +kernel
theorem d_Mo_refusal_11 : decode prog_10_method_80_code 11 = .ok (.iload 5, 2) := by decide +kernel
theorem d_Mo_refusal_13 : decode prog_10_method_80_code 13 = .ok (.invokevirtual 140, 3) := by decide +kernel
theorem d_Mo_refusal_16 : decode prog_10_method_80_code 16 = .ok (.ifCond .eq 17, 3) := by decide +kernel
theorem d_Mo_refusal_19 : decode prog_10_method_80_code 19 = .ok (.aload_n 0, 1) := by decide +kernel
theorem d_Mo_refusal_20 : decode prog_10_method_80_code 20 = .ok (.iload_n 1, 1) := by decide +kernel
theorem d_Mo_refusal_21 : decode prog_10_method_80_code 21 = .ok (.iload_n 2, 1) := by decide +kernel
theorem d_Mo_refusal_22 : decode prog_10_method_80_code 22 = .ok (.iload_n 3, 1) := by decide +kernel
theorem d_Mo_refusal_23 : decode prog_10_method_80_code 23 = .ok (.iload 4, 2) := by decide +kernel
theorem d_Mo_refusal_25 : decode prog_10_method_80_code 25 = .ok (.iload 5, 2) := by decide +kernel
theorem d_Mo_refusal_27 : decode prog_10_method_80_code 27 = .ok (.invokevirtual 144, 3) := by decide +kernel
theorem d_Mo_refusal_30 : decode prog_10_method_80_code 30 = .ok (.goto 5, 3) := by decide +kernel
theorem d_Mo_refusal_33 : decode prog_10_method_80_code 33 = .ok (.ldc 112, 2) := by decide +kernel
theorem d_Mo_refusal_35 : decode prog_10_method_80_code 35 = .ok (.ireturn, 1) := by decide +kernel
theorem d_Mo_effect_0 : decode prog_10_method_81_code 0 = .ok (.aload_n 0, 1) := by decide +kernel
theorem d_Mo_effect_1 : decode prog_10_method_81_code 1 = .ok (.iconst 0, 1) := by decide +kernel
theorem d_Mo_effect_2 : decode prog_10_method_81_code 2 = .ok (.putfield 37, 3) := by decide +kernel
theorem d_Mo_effect_5 : decode prog_10_method_81_code 5 = .ok (.iload_n 1, 1) := by decide +kernel
theorem d_Mo_effect_6 : decode prog_10_method_81_code 6 = .ok (.invokestatic 179, 3) := by decide +kernel
theorem d_Mo_effect_9 : decode prog_10_method_81_code 9 = .ok (.ifCond .eq 10, 3) := by decide +kernel
theorem d_Mo_effect_12 : decode prog_10_method_81_code 12 = .ok (.iload_n 2, 1) := by decide +kernel
theorem d_Mo_effect_13 : decode prog_10_method_81_code 13 = .ok (.invokestatic 179, 3) := by decide +kernel
theorem d_Mo_effect_16 : decode prog_10_method_81_code 16 = .ok (.ifCond .ne 6, 3) := by decide +kernel
theorem d_Mo_effect_19 : decode prog_10_method_81_code 19 = .ok (.ldc 112, 2) := by decide +kernel
theorem d_Mo_effect_21 : decode prog_10_method_81_code 21 = .ok (.ireturn, 1) := by decide +kernel
theorem d_Mo_effect_22 : decode prog_10_method_81_code 22 = .ok (.aload_n 0, 1) := by decide +kernel
theorem d_Mo_effect_23 : decode prog_10_method_81_code 23 = .ok (.iload_n 1, 1) := by decide +kernel
theorem d_Mo_effect_24 : decode prog_10_method_81_code 24 = .ok (.iload_n 2, 1) := by decide +kernel
theorem d_Mo_effect_25 : decode prog_10_method_81_code 25 = .ok (.invokevirtual 163, 3) := by decide +kernel
theorem d_Mo_effect_28 : decode prog_10_method_81_code 28 = .ok (.ifCond .eq 5, 3) := by decide +kernel
theorem d_Mo_effect_31 : decode prog_10_method_81_code 31 = .ok (.iconst 0, 1) := by decide +kernel
theorem d_Mo_effect_32 : decode prog_10_method_81_code 32 = .ok (.ireturn, 1) := by decide +kernel
theorem d_Mo_effect_33 : decode prog_10_method_81_code 33 = .ok (.aload_n 0, 1) := by decide +kernel
theorem d_Mo_effect_34 : decode prog_10_method_81_code 34 = .ok (.invokevirtual 217, 3) := by decide +kernel
theorem d_Mo_effect_37 : decode prog_10_method_81_code 37 = .ok (.aload_n 0, 1) := by decide +kernel
theorem d_Mo_effect_38 : decode prog_10_method_81_code 38 = .ok (.getfield 7, 3) := by decide +kernel
theorem d_Mo_effect_41 : decode prog_10_method_81_code 41 = .ok (.sipush 236, 3) := by decide +kernel
theorem d_Mo_effect_44 : decode prog_10_method_81_code 44 = .ok (.iaload, 1) := by decide +kernel
theorem d_Mo_effect_45 : decode prog_10_method_81_code 45 = .ok (.istore_n 3, 1) := by decide +kernel
theorem d_Mo_effect_46 : decode prog_10_method_81_code 46 = .ok (.aload_n 0, 1) := by decide +kernel
theorem d_Mo_effect_47 : decode prog_10_method_81_code 47 = .ok (.getfield 7, 3) := by decide +kernel
theorem d_Mo_effect_50 : decode prog_10_method_81_code 50 = .ok (.sipush 237, 3) := by decide +kernel
theorem d_Mo_effect_53 : decode prog_10_method_81_code 53 = .ok (.iaload, 1) := by decide +kernel
theorem d_Mo_effect_54 : decode prog_10_method_81_code 54 = .ok (.istore 4, 2) := by decide +kernel
theorem d_Mo_effect_56 : decode prog_10_method_81_code 56 = .ok (.aload_n 0, 1) := by decide +kernel
theorem d_Mo_effect_57 : decode prog_10_method_81_code 57 = .ok (.invokevirtual 166, 3) := by decide +kernel
theorem d_Mo_effect_60 : decode prog_10_method_81_code 60 = .ok (.aload_n 0, 1) := by decide +kernel
theorem d_Mo_effect_61 : decode prog_10_method_81_code 61 = .ok (.iload_n 1, 1) := by decide +kernel
theorem d_Mo_effect_62 : decode prog_10_method_81_code 62 = .ok (.iload_n 2, 1) := by decide +kernel
theorem d_Mo_effect_63 : decode prog_10_method_81_code 63 = .ok (.invokevirtual 169, 3) := by decide +kernel
theorem d_Mo_effect_66 : decode prog_10_method_81_code 66 = .ok (.iconst 1, 1) := by decide +kernel
theorem d_Mo_effect_67 : decode prog_10_method_81_code 67 = .ok (.aload_n 0, 1) := by decide +kernel
theorem d_Mo_effect_68 : decode prog_10_method_81_code 68 = .ok (.getfield 7, 3) := by decide +kernel
theorem d_Mo_effect_71 : decode prog_10_method_81_code 71 = .ok (.sipush 236, 3) := by decide +kernel
theorem d_Mo_effect_74 : decode prog_10_method_81_code 74 = .ok (.iaload, 1) := by decide +kernel
theorem d_Mo_effect_75 : decode prog_10_method_81_code 75 = .ok (.iload_n 3, 1) := by decide +kernel
theorem d_Mo_effect_76 : decode prog_10_method_81_code 76 = .ok (.if_icmp .eq 7, 3) := by decide +kernel
theorem d_Mo_effect_79 : decode prog_10_method_81_code 79 = .ok (.iconst 2, 1) := by decide +kernel
theorem d_Mo_effect_80 : decode prog_10_method_81_code 80 = .ok (.goto 4, 3) := by decide +kernel
theorem d_Mo_effect_83 : decode prog_10_method_81_code 83 = .ok (.iconst 0, 1) := by decide +kernel
theorem d_Mo_effect_84 : decode prog_10_method_81_code 84 = .ok (.iadd, 1) := by decide +kernel
theorem d_Mo_effect_85 : decode prog_10_method_81_code 85 = .ok (.aload_n 0, 1) := by decide +kernel
theorem d_Mo_effect_86 : decode prog_10_method_81_code 86 = .ok (.getfield 7, 3) := by decide +kernel
theorem d_Mo_effect_89 : decode prog_10_method_81_code 89 = .ok (.sipush 237, 3) := by decide +kernel
theorem d_Mo_effect_92 : decode prog_10_method_81_code 92 = .ok (.iaload, 1) := by decide +kernel
theorem d_Mo_effect_93 : decode prog_10_method_81_code 93 = .ok (.iload 4, 2) := by decide +kernel
theorem d_Mo_effect_95 : decode prog_10_method_81_code 95 = .ok (.if_icmp .eq 7, 3) := by decide +kernel
theorem d_Mo_effect_98 : decode prog_10_method_81_code 98 = .ok (.iconst 4, 1) := by decide +kernel
theorem d_Mo_effect_99 : decode prog_10_method_81_code 99 = .ok (.goto 4, 3) := by decide +kernel
theorem d_Mo_effect_102 : decode prog_10_method_81_code 102 = .ok (.iconst 0, 1) := by decide +kernel
theorem d_Mo_effect_103 : decode prog_10_method_81_code 103 = .ok (.iadd, 1) := by decide +kernel
theorem d_Mo_effect_104 : decode prog_10_method_81_code 104 = .ok (.aload_n 0, 1) := by decide +kernel
theorem d_Mo_effect_105 : decode prog_10_method_81_code 105 = .ok (.invokevirtual 173, 3) := by decide +kernel
theorem d_Mo_effect_108 : decode prog_10_method_81_code 108 = .ok (.ifCond .le 8, 3) := by decide +kernel
theorem d_Mo_effect_111 : decode prog_10_method_81_code 111 = .ok (.bipush 8, 2) := by decide +kernel
theorem d_Mo_effect_113 : decode prog_10_method_81_code 113 = .ok (.goto 4, 3) := by decide +kernel
theorem d_Mo_effect_116 : decode prog_10_method_81_code 116 = .ok (.iconst 0, 1) := by decide +kernel
theorem d_Mo_effect_117 : decode prog_10_method_81_code 117 = .ok (.iadd, 1) := by decide +kernel
theorem d_Mo_effect_118 : decode prog_10_method_81_code 118 = .ok (.istore 5, 2) := by decide +kernel
theorem d_Mo_effect_120 : decode prog_10_method_81_code 120 = .ok (.aload_n 0, 1) := by decide +kernel
theorem d_Mo_effect_121 : decode prog_10_method_81_code 121 = .ok (.invokevirtual 223, 3) := by decide +kernel
theorem d_Mo_effect_124 : decode prog_10_method_81_code 124 = .ok (.iload 5, 2) := by decide +kernel
theorem d_Mo_effect_126 : decode prog_10_method_81_code 126 = .ok (.ireturn, 1) := by decide +kernel
theorem d_Mo_valueAt_0 : decode prog_10_method_83_code 0 = .ok (.aload_n 0, 1) := by decide +kernel
theorem d_Mo_valueAt_1 : decode prog_10_method_83_code 1 = .ok (.iconst 0, 1) := by decide +kernel
theorem d_Mo_valueAt_2 : decode prog_10_method_83_code 2 = .ok (.putfield 37, 3) := by decide +kernel
theorem d_Mo_valueAt_5 : decode prog_10_method_83_code 5 = .ok (.iload_n 1, 1) := by decide +kernel
theorem d_Mo_valueAt_6 : decode prog_10_method_83_code 6 = .ok (.invokestatic 179, 3) := by decide +kernel
theorem d_Mo_valueAt_9 : decode prog_10_method_83_code 9 = .ok (.ifCond .eq 29, 3) := by decide +kernel
theorem d_Mo_valueAt_12 : decode prog_10_method_83_code 12 = .ok (.iload_n 2, 1) := by decide +kernel
theorem d_Mo_valueAt_13 : decode prog_10_method_83_code 13 = .ok (.invokestatic 179, 3) := by decide +kernel
theorem d_Mo_valueAt_16 : decode prog_10_method_83_code 16 = .ok (.ifCond .eq 22, 3) := by decide +kernel
theorem d_Mo_valueAt_19 : decode prog_10_method_83_code 19 = .ok (.iload_n 3, 1) := by decide +kernel
theorem d_Mo_valueAt_20 : decode prog_10_method_83_code 20 = .ok (.iconst 0, 1) := by decide +kernel
theorem d_Mo_valueAt_21 : decode prog_10_method_83_code 21 = .ok (.iconst 2, 1) := by decide +kernel
theorem d_Mo_valueAt_22 : decode prog_10_method_83_code 22 = .ok (.invokestatic 47, 3) := by decide +kernel
theorem d_Mo_valueAt_25 : decode prog_10_method_83_code 25 = .ok (.ifCond .eq 13, 3) := by decide +kernel
theorem d_Mo_valueAt_28 : decode prog_10_method_83_code 28 = .ok (.aload_n 0, 1) := by decide +kernel
theorem d_Mo_valueAt_29 : decode prog_10_method_83_code 29 = .ok (.iload_n 1, 1) := by decide +kernel
theorem d_Mo_valueAt_30 : decode prog_10_method_83_code 30 = .ok (.iload_n 2, 1) := by decide +kernel
theorem d_Mo_valueAt_31 : decode prog_10_method_83_code 31 = .ok (.iload_n 3, 1) := by decide +kernel
theorem d_Mo_valueAt_32 : decode prog_10_method_83_code 32 = .ok (.invokevirtual 236, 3) := by decide +kernel
theorem d_Mo_valueAt_35 : decode prog_10_method_83_code 35 = .ok (.goto 5, 3) := by decide +kernel
theorem d_Mo_valueAt_38 : decode prog_10_method_83_code 38 = .ok (.ldc 112, 2) := by decide +kernel
theorem d_Mo_valueAt_40 : decode prog_10_method_83_code 40 = .ok (.ireturn, 1) := by decide +kernel
theorem d_Mo_valueThere_0 : decode prog_10_method_82_code 0 = .ok (.aload_n 0, 1) := by decide +kernel
theorem d_Mo_valueThere_1 : decode prog_10_method_82_code 1 = .ok (.iconst 0, 1) := by decide +kernel
theorem d_Mo_valueThere_2 : decode prog_10_method_82_code 2 = .ok (.aload_n 0, 1) := by decide +kernel
theorem d_Mo_valueThere_3 : decode prog_10_method_82_code 3 = .ok (.iconst 0, 1) := by decide +kernel
theorem d_Mo_valueThere_4 : decode prog_10_method_82_code 4 = .ok (.iload_n 1, 1) := by decide +kernel
theorem d_Mo_valueThere_5 : decode prog_10_method_82_code 5 = .ok (.invokevirtual 68, 3) := by decide +kernel
theorem d_Mo_valueThere_8 : decode prog_10_method_82_code 8 = .ok (.iload_n 1, 1) := by decide +kernel
theorem d_Mo_valueThere_9 : decode prog_10_method_82_code 9 = .ok (.invokevirtual 74, 3) := by decide +kernel
theorem d_Mo_valueThere_12 : decode prog_10_method_82_code 12 = .ok (.aload_n 0, 1) := by decide +kernel
theorem d_Mo_valueThere_13 : decode prog_10_method_82_code 13 = .ok (.iconst 1, 1) := by decide +kernel
theorem d_Mo_valueThere_14 : decode prog_10_method_82_code 14 = .ok (.aload_n 0, 1) := by decide +kernel
theorem d_Mo_valueThere_15 : decode prog_10_method_82_code 15 = .ok (.iconst 1, 1) := by decide +kernel
theorem d_Mo_valueThere_16 : decode prog_10_method_82_code 16 = .ok (.iload_n 2, 1) := by decide +kernel
theorem d_Mo_valueThere_17 : decode prog_10_method_82_code 17 = .ok (.invokevirtual 68, 3) := by decide +kernel
theorem d_Mo_valueThere_20 : decode prog_10_method_82_code 20 = .ok (.iload_n 2, 1) := by decide +kernel
theorem d_Mo_valueThere_21 : decode prog_10_method_82_code 21 = .ok (.invokevirtual 74, 3) := by decide +kernel
theorem d_Mo_valueThere_24 : decode prog_10_method_82_code 24 = .ok (.aload_n 0, 1) := by decide +kernel
theorem d_Mo_valueThere_25 : decode prog_10_method_82_code 25 = .ok (.iload_n 3, 1) := by decide +kernel
theorem d_Mo_valueThere_26 : decode prog_10_method_82_code 26 = .ok (.invokevirtual 157, 3) := by decide +kernel
theorem d_Mo_valueThere_29 : decode prog_10_method_82_code 29 = .ok (.ireturn, 1) := by decide +kernel
theorem d_Mo_chatter_0 : decode prog_10_method_85_code 0 = .ok (.aload_n 0, 1) := by decide +kernel
theorem d_Mo_chatter_1 : decode prog_10_method_85_code 1 = .ok (.iconst 0, 1) := by decide +kernel
theorem d_Mo_chatter_2 : decode prog_10_method_85_code 2 = .ok (.putfield 37, 3) := by decide +kernel
theorem d_Mo_chatter_5 : decode prog_10_method_85_code 5 = .ok (.iload_n 1, 1) := by decide +kernel
theorem d_Mo_chatter_6 : decode prog_10_method_85_code 6 = .ok (.invokestatic 51, 3) := by decide +kernel
theorem d_Mo_chatter_9 : decode prog_10_method_85_code 9 = .ok (.ifCond .eq 32, 3) := by decide +kernel
theorem d_Mo_chatter_12 : decode prog_10_method_85_code 12 = .ok (.iload_n 2, 1) := by decide +kernel
theorem d_Mo_chatter_13 : decode prog_10_method_85_code 13 = .ok (.invokestatic 179, 3) := by decide +kernel
theorem d_Mo_chatter_16 : decode prog_10_method_85_code 16 = .ok (.ifCond .eq 25, 3) := by decide +kernel
theorem d_Mo_chatter_19 : decode prog_10_method_85_code 19 = .ok (.iload_n 3, 1) := by decide +kernel
theorem d_Mo_chatter_20 : decode prog_10_method_85_code 20 = .ok (.iconst 0, 1) := by decide +kernel
theorem d_Mo_chatter_21 : decode prog_10_method_85_code 21 = .ok (.sipush 500, 3) := by decide +kernel
theorem d_Mo_chatter_24 : decode prog_10_method_85_code 24 = .ok (.invokestatic 47, 3) := by decide +kernel
theorem d_Mo_chatter_27 : decode prog_10_method_85_code 27 = .ok (.ifCond .eq 14, 3) := by decide +kernel
theorem d_Mo_chatter_30 : decode prog_10_method_85_code 30 = .ok (.iload 4, 2) := by decide +kernel
theorem d_Mo_chatter_32 : decode prog_10_method_85_code 32 = .ok (.iconst 1, 1) := by decide +kernel
theorem d_Mo_chatter_33 : decode prog_10_method_85_code 33 = .ok (.bipush 100, 2) := by decide +kernel
theorem d_Mo_chatter_35 : decode prog_10_method_85_code 35 = .ok (.invokestatic 47, 3) := by decide +kernel
theorem d_Mo_chatter_38 : decode prog_10_method_85_code 38 = .ok (.ifCond .ne 6, 3) := by decide +kernel
theorem d_Mo_chatter_41 : decode prog_10_method_85_code 41 = .ok (.ldc 112, 2) := by decide +kernel
theorem d_Mo_chatter_43 : decode prog_10_method_85_code 43 = .ok (.ireturn, 1) := by decide +kernel
theorem d_Mo_chatter_44 : decode prog_10_method_85_code 44 = .ok (.iload_n 2, 1) := by decide +kernel
theorem d_Mo_chatter_45 : decode prog_10_method_85_code 45 = .ok (.iload_n 3, 1) := by decide +kernel
theorem d_Mo_chatter_46 : decode prog_10_method_85_code 46 = .ok (.invokestatic 109, 3) := by decide +kernel
theorem d_Mo_chatter_49 : decode prog_10_method_85_code 49 = .ok (.ifCond .ne 6, 3) := by decide +kernel
theorem d_Mo_chatter_52 : decode prog_10_method_85_code 52 = .ok (.ldc 112, 2) := by decide +kernel
theorem d_Mo_chatter_54 : decode prog_10_method_85_code 54 = .ok (.ireturn, 1) := by decide +kernel
theorem d_Mo_chatter_55 : decode prog_10_method_85_code 55 = .ok (.aload_n 0, 1) := by decide +kernel
theorem d_Mo_chatter_56 : decode prog_10_method_85_code 56 = .ok (.iload_n 1, 1) := by decide +kernel
theorem d_Mo_chatter_57 : decode prog_10_method_85_code 57 = .ok (.aload_n 0, 1) := by decide +kernel
theorem d_Mo_chatter_58 : decode prog_10_method_85_code 58 = .ok (.getfield 7, 3) := by decide +kernel
theorem d_Mo_chatter_61 : decode prog_10_method_85_code 61 = .ok (.sipush 236, 3) := by decide +kernel
theorem d_Mo_chatter_64 : decode prog_10_method_85_code 64 = .ok (.iload_n 1, 1) := by decide +kernel
theorem d_Mo_chatter_65 : decode prog_10_method_85_code 65 = .ok (.iadd, 1) := by decide +kernel
theorem d_Mo_chatter_66 : decode prog_10_method_85_code 66 = .ok (.iaload, 1) := by decide +kernel
theorem d_Mo_chatter_67 : decode prog_10_method_85_code 67 = .ok (.iload_n 2, 1) := by decide +kernel
theorem d_Mo_chatter_68 : decode prog_10_method_85_code 68 = .ok (.iload_n 3, 1) := by decide +kernel
theorem d_Mo_chatter_69 : decode prog_10_method_85_code 69 = .ok (.iload 4, 2) := by decide +kernel
theorem d_Mo_chatter_71 : decode prog_10_method_85_code 71 = .ok (.invokevirtual 239, 3) := by decide +kernel
theorem d_Mo_chatter_74 : decode prog_10_method_85_code 74 = .ok (.ireturn, 1) := by decide +kernel
theorem d_Mo_chatters_0 : decode prog_10_method_84_code 0 = .ok (.iload_n 2, 1) := by decide +kernel
theorem d_Mo_chatters_1 : decode prog_10_method_84_code 1 = .ok (.istore 6, 2) := by decide +kernel
theorem d_Mo_chatters_3 : decode prog_10_method_84_code 3 = .ok (.iconst 0, 1) := by decide +kernel
theorem d_Mo_chatters_4 : decode prog_10_method_84_code 4 = .ok (.istore 7, 2) := by decide +kernel
theorem d_Mo_chatters_6 : decode prog_10_method_84_code 6 = .ok (.iconst 0, 1) := by decide +kernel
theorem d_Mo_chatters_7 : decode prog_10_method_84_code 7 = .ok (.istore 8, 2) := by decide +kernel
theorem d_Mo_chatters_9 : decode prog_10_method_84_code 9 = .ok (.iload 8, 2) := by decide +kernel
theorem d_Mo_chatters_11 : decode prog_10_method_84_code 11 = .ok (.iload 5, 2) := by decide +kernel
theorem d_Mo_chatters_13 : decode prog_10_method_84_code 13 = .ok (.if_icmp .ge 57, 3) := by decide +kernel
theorem d_Mo_chatters_16 : decode prog_10_method_84_code 16 = .ok (.aload_n 0, 1) := by decide +kernel
theorem d_Mo_chatters_17 : decode prog_10_method_84_code 17 = .ok (.iload_n 1, 1) := by decide +kernel
theorem d_Mo_chatters_18 : decode prog_10_method_84_code 18 = .ok (.iload 6, 2) := by decide +kernel
theorem d_Mo_chatters_20 : decode prog_10_method_84_code 20 = .ok (.iload 8, 2) := by decide +kernel
theorem d_Mo_chatters_22 : decode prog_10_method_84_code 22 = .ok (.iconst 2, 1) := by decide +kernel
theorem d_Mo_chatters_23 : decode prog_10_method_84_code 23 = .ok (.irem, 1) := by decide +kernel
theorem d_Mo_chatters_24 : decode prog_10_method_84_code 24 = .ok (.ifCond .ne 10, 3) := by decide +kernel
theorem d_Mo_chatters_27 : decode prog_10_method_84_code 27 = .ok (.iload_n 3, 1) := by decide +kernel
theorem d_Mo_chatters_28 : decode prog_10_method_84_code 28 = .ok (.iload 4, 2) := by decide +kernel
theorem d_Mo_chatters_30 : decode prog_10_method_84_code 30 = .ok (.iadd, 1) := by decide +kernel
theorem d_Mo_chatters_31 : decode prog_10_method_84_code 31 = .ok (.goto 7, 3) := by decide +kernel
theorem d_Mo_chatters_34 : decode prog_10_method_84_code 34 = .ok (.iload_n 3, 1) := by decide +kernel
theorem d_Mo_chatters_35 : decode prog_10_method_84_code 35 = .ok (.iload 4, 2) := by decide +kernel
theorem d_Mo_chatters_37 : decode prog_10_method_84_code 37 = .ok (.isub, 1) := by decide +kernel
theorem d_Mo_chatters_38 : decode prog_10_method_84_code 38 = .ok (.invokevirtual 160, 3) := by decide +kernel
theorem d_Mo_chatters_41 : decode prog_10_method_84_code 41 = .ok (.istore 9, 2) := by decide +kernel
theorem d_Mo_chatters_43 : decode prog_10_method_84_code 43 = .ok (.iload 7, 2) := by decide +kernel
theorem d_Mo_chatters_45 : decode prog_10_method_84_code 45 = .ok (.iload 9, 2) := by decide +kernel
theorem d_Mo_chatters_47 : decode prog_10_method_84_code 47 = .ok (.iload 6, 2) := by decide +kernel
theorem d_Mo_chatters_49 : decode prog_10_method_84_code 49 = .ok (.if_icmp .eq 7, 3) := by decide +kernel
theorem d_Mo_chatters_52 : decode prog_10_method_84_code 52 = .ok (.iconst 1, 1) := by decide +kernel
theorem d_Mo_chatters_53 : decode prog_10_method_84_code 53 = .ok (.goto 4, 3) := by decide +kernel
theorem d_Mo_chatters_56 : decode prog_10_method_84_code 56 = .ok (.iconst 0, 1) := by decide +kernel
theorem d_Mo_chatters_57 : decode prog_10_method_84_code 57 = .ok (.iadd, 1) := by decide +kernel
theorem d_Mo_chatters_58 : decode prog_10_method_84_code 58 = .ok (.istore 7, 2) := by decide +kernel
theorem d_Mo_chatters_60 : decode prog_10_method_84_code 60 = .ok (.iload 9, 2) := by decide +kernel
theorem d_Mo_chatters_62 : decode prog_10_method_84_code 62 = .ok (.istore 6, 2) := by decide +kernel
theorem d_Mo_chatters_64 : decode prog_10_method_84_code 64 = .ok (.iinc 8 1, 3) := by decide +kernel
theorem d_Mo_chatters_67 : decode prog_10_method_84_code 67 = .ok (.goto (-58), 3) := by decide +kernel
theorem d_Mo_chatters_70 : decode prog_10_method_84_code 70 = .ok (.iload 7, 2) := by decide +kernel
theorem d_Mo_chatters_72 : decode prog_10_method_84_code 72 = .ok (.ireturn, 1) := by decide +kernel
theorem d_Mo_calmReach_0 : decode prog_10_method_86_code 0 = .ok (.aload_n 0, 1) := by decide +kernel
theorem d_Mo_calmReach_1 : decode prog_10_method_86_code 1 = .ok (.iconst 0, 1) := by decide +kernel
theorem d_Mo_calmReach_2 : decode prog_10_method_86_code 2 = .ok (.putfield 37, 3) := by decide +kernel
theorem d_Mo_calmReach_5 : decode prog_10_method_86_code 5 = .ok (.aload_n 0, 1) := by decide +kernel
theorem d_Mo_calmReach_6 : decode prog_10_method_86_code 6 = .ok (.iload_n 1, 1) := by decide +kernel
theorem d_Mo_calmReach_7 : decode prog_10_method_86_code 7 = .ok (.iload_n 2, 1) := by decide +kernel
theorem d_Mo_calmReach_8 : decode prog_10_method_86_code 8 = .ok (.invokevirtual 130, 3) := by decide +kernel
theorem d_Mo_calmReach_11 : decode prog_10_method_86_code 11 = .ok (.ifCond .eq 14, 3) := by decide +kernel
theorem d_Mo_calmReach_14 : decode prog_10_method_86_code 14 = .ok (.iload_n 3, 1) := by decide +kernel
theorem d_Mo_calmReach_15 : decode prog_10_method_86_code 15 = .ok (.iconst 0, 1) := by decide +kernel
theorem d_Mo_calmReach_16 : decode prog_10_method_86_code 16 = .ok (.sipush 500, 3) := by decide +kernel
theorem d_Mo_calmReach_19 : decode prog_10_method_86_code 19 = .ok (.invokestatic 47, 3) := by decide +kernel
theorem d_Mo_calmReach_22 : decode prog_10_method_86_code 22 = .ok (.ifCond .ne 6, 3) := by decide +kernel
theorem d_Mo_calmReach_25 : decode prog_10_method_86_code 25 = .ok (.ldc 112, 2) := by decide +kernel
theorem d_Mo_calmReach_27 : decode prog_10_method_86_code 27 = .ok (.ireturn, 1) := by decide +kernel
theorem d_Mo_calmReach_28 : decode prog_10_method_86_code 28 = .ok (.aload_n 0, 1) := by decide +kernel
theorem d_Mo_calmReach_29 : decode prog_10_method_86_code 29 = .ok (.iload_n 1, 1) := by decide +kernel
theorem d_Mo_calmReach_30 : decode prog_10_method_86_code 30 = .ok (.iload_n 2, 1) := by decide +kernel
theorem d_Mo_calmReach_31 : decode prog_10_method_86_code 31 = .ok (.iconst 0, 1) := by decide +kernel
theorem d_Mo_calmReach_32 : decode prog_10_method_86_code 32 = .ok (.invokevirtual 63, 3) := by decide +kernel
theorem d_Mo_calmReach_35 : decode prog_10_method_86_code 35 = .ok (.istore 4, 2) := by decide +kernel
theorem d_Mo_calmReach_37 : decode prog_10_method_86_code 37 = .ok (.iload 4, 2) := by decide +kernel
theorem d_Mo_calmReach_39 : decode prog_10_method_86_code 39 = .ok (.iload_n 3, 1) := by decide +kernel
theorem d_Mo_calmReach_40 : decode prog_10_method_86_code 40 = .ok (.invokestatic 109, 3) := by decide +kernel
theorem d_Mo_calmReach_43 : decode prog_10_method_86_code 43 = .ok (.ifCond .ne 6, 3) := by decide +kernel
theorem d_Mo_calmReach_46 : decode prog_10_method_86_code 46 = .ok (.ldc 112, 2) := by decide +kernel
theorem d_Mo_calmReach_48 : decode prog_10_method_86_code 48 = .ok (.ireturn, 1) := by decide +kernel
theorem d_Mo_calmReach_49 : decode prog_10_method_86_code 49 = .ok (.aload_n 0, 1) := by decide +kernel
theorem d_Mo_calmReach_50 : decode prog_10_method_86_code 50 = .ok (.iload_n 1, 1) := by decide +kernel
theorem d_Mo_calmReach_51 : decode prog_10_method_86_code 51 = .ok (.iload_n 2, 1) := by decide +kernel
theorem d_Mo_calmReach_52 : decode prog_10_method_86_code 52 = .ok (.iconst 1, 1) := by decide +kernel
theorem d_Mo_calmReach_53 : decode prog_10_method_86_code 53 = .ok (.invokevirtual 63, 3) := by decide +kernel
theorem d_Mo_calmReach_56 : decode prog_10_method_86_code 56 = .ok (.ifCond .eq 6, 3) := by decide +kernel
theorem d_Mo_calmReach_59 : decode prog_10_method_86_code 59 = .ok (.ldc 117, 2) := by decide +kernel
theorem d_Mo_calmReach_61 : decode prog_10_method_86_code 61 = .ok (.ireturn, 1) := by decide +kernel
theorem d_Mo_calmReach_62 : decode prog_10_method_86_code 62 = .ok (.aload_n 0, 1) := by decide +kernel
theorem d_Mo_calmReach_63 : decode prog_10_method_86_code 63 = .ok (.iload_n 1, 1) := by decide +kernel
theorem d_Mo_calmReach_64 : decode prog_10_method_86_code 64 = .ok (.iload_n 2, 1) := by decide +kernel
theorem d_Mo_calmReach_65 : decode prog_10_method_86_code 65 = .ok (.iconst 2, 1) := by decide +kernel
theorem d_Mo_calmReach_66 : decode prog_10_method_86_code 66 = .ok (.invokevirtual 63, 3) := by decide +kernel
theorem d_Mo_calmReach_69 : decode prog_10_method_86_code 69 = .ok (.istore 5, 2) := by decide +kernel
theorem d_Mo_calmReach_71 : decode prog_10_method_86_code 71 = .ok (.ldc 67, 2) := by decide +kernel
theorem d_Mo_calmReach_73 : decode prog_10_method_86_code 73 = .ok (.istore 6, 2) := by decide +kernel
theorem d_Mo_calmReach_75 : decode prog_10_method_86_code 75 = .ok (.iconst 0, 1) := by decide +kernel
theorem d_Mo_calmReach_76 : decode prog_10_method_86_code 76 = .ok (.istore 7, 2) := by decide +kernel
theorem d_Mo_calmReach_78 : decode prog_10_method_86_code 78 = .ok (.iload 7, 2) := by decide +kernel
theorem d_Mo_calmReach_80 : decode prog_10_method_86_code 80 = .ok (.bipush 100, 2) := by decide +kernel
theorem d_Mo_calmReach_82 : decode prog_10_method_86_code 82 = .ok (.if_icmp .gt 88, 3) := by decide +kernel
theorem d_Mo_calmReach_85 : decode prog_10_method_86_code 85 = .ok (.iload 6, 2) := by decide +kernel
theorem d_Mo_calmReach_87 : decode prog_10_method_86_code 87 = .ok (.ldc 67, 2) := by decide +kernel
theorem d_Mo_calmReach_89 : decode prog_10_method_86_code 89 = .ok (.if_icmp .ne 81, 3) := by decide +kernel
theorem d_Mo_calmReach_92 : decode prog_10_method_86_code 92 = .ok (.iload 4, 2) := by decide +kernel
theorem d_Mo_calmReach_94 : decode prog_10_method_86_code 94 = .ok (.iload 7, 2) := by decide +kernel
theorem d_Mo_calmReach_96 : decode prog_10_method_86_code 96 = .ok (.invokestatic 109, 3) := by decide +kernel
theorem d_Mo_calmReach_99 : decode prog_10_method_86_code 99 = .ok (.ifCond .eq 65, 3) := by decide +kernel
theorem d_Mo_calmReach_102 : decode prog_10_method_86_code 102 = .ok (.aload_n 0, 1) := by decide +kernel
theorem d_Mo_calmReach_103 : decode prog_10_method_86_code 103 = .ok (.iload_n 1, 1) := by decide +kernel
theorem d_Mo_calmReach_104 : decode prog_10_method_86_code 104 = .ok (.iload 4, 2) := by decide +kernel
theorem d_Mo_calmReach_106 : decode prog_10_method_86_code 106 = .ok (.iload 7, 2) := by decide +kernel
theorem d_Mo_calmReach_108 : decode prog_10_method_86_code 108 = .ok (.iload_n 2, 1) := by decide +kernel
theorem d_Mo_calmReach_109 : decode prog_10_method_86_code 109 = .ok (.invokevirtual 113, 3) := by decide +kernel
theorem d_Mo_calmReach_112 : decode prog_10_method_86_code 112 = .ok (.ifCond .ne 52, 3) := by decide +kernel
theorem d_Mo_calmReach_115 : decode prog_10_method_86_code 115 = .ok (.aload_n 0, 1) := by decide +kernel
theorem d_Mo_calmReach_116 : decode prog_10_method_86_code 116 = .ok (.iload_n 1, 1) := by decide +kernel
theorem d_Mo_calmReach_117 : decode prog_10_method_86_code 117 = .ok (.iload_n 2, 1) := by decide +kernel
theorem d_Mo_calmReach_118 : decode prog_10_method_86_code 118 = .ok (.iload 4, 2) := by decide +kernel
theorem d_Mo_calmReach_120 : decode prog_10_method_86_code 120 = .ok (.iconst 0, 1) := by decide +kernel
theorem d_Mo_calmReach_121 : decode prog_10_method_86_code 121 = .ok (.iload 7, 2) := by decide +kernel
theorem d_Mo_calmReach_123 : decode prog_10_method_86_code 123 = .ok (.invokevirtual 92, 3) := by decide +kernel
theorem d_Mo_calmReach_126 : decode prog_10_method_86_code 126 = .ok (.aload_n 0, 1) := by decide +kernel
theorem d_Mo_calmReach_127 : decode prog_10_method_86_code 127 = .ok (.iload_n 1, 1) := by decide +kernel
theorem d_Mo_calmReach_128 : decode prog_10_method_86_code 128 = .ok (.aload_n 0, 1) := by decide +kernel
theorem d_Mo_calmReach_129 : decode prog_10_method_86_code 129 = .ok (.iload_n 1, 1) := by decide +kernel
theorem d_Mo_calmReach_130 : decode prog_10_method_86_code 130 = .ok (.aload_n 0, 1) := by decide +kernel
theorem d_Mo_calmReach_131 : decode prog_10_method_86_code 131 = .ok (.getfield 7, 3) := by decide +kernel
theorem d_Mo_calmReach_134 : decode prog_10_method_86_code 134 = .ok (.sipush 234, 3) := by decide +kernel
theorem d_Mo_calmReach_137 : decode prog_10_method_86_code 137 = .ok (.iload_n 1, 1) := by decide +kernel
theorem d_Mo_calmReach_138 : decode prog_10_method_86_code 138 = .ok (.iadd, 1) := by decide +kernel
theorem d_Mo_calmReach_139 : decode prog_10_method_86_code 139 = .ok (.iaload, 1) := by decide +kernel
theorem d_Mo_calmReach_140 : decode prog_10_method_86_code 140 = .ok (.invokevirtual 68, 3) := by decide +kernel
theorem d_Mo_calmReach_143 : decode prog_10_method_86_code 143 = .ok (.iload 4, 2) := by decide +kernel
theorem d_Mo_calmReach_145 : decode prog_10_method_86_code 145 = .ok (.iload_n 3, 1) := by decide +kernel
theorem d_Mo_calmReach_146 : decode prog_10_method_86_code 146 = .ok (.bipush 100, 2) := by decide +kernel
theorem d_Mo_calmReach_148 : decode prog_10_method_86_code 148 = .ok (.invokevirtual 239, 3) := by decide +kernel
theorem d_Mo_calmReach_151 : decode prog_10_method_86_code 151 = .ok (.iconst 1, 1) := by decide +kernel
theorem d_Mo_calmReach_152 : decode prog_10_method_86_code 152 = .ok (.if_icmp .gt 8, 3) := by decide +kernel
theorem d_Mo_calmReach_155 : decode prog_10_method_86_code 155 = .ok (.iload 7, 2) := by decide +kernel
theorem d_Mo_calmReach_157 : decode prog_10_method_86_code 157 = .ok (.goto 5, 3) := by decide +kernel
theorem d_Mo_calmReach_160 : decode prog_10_method_86_code 160 = .ok (.ldc 67, 2) := by decide +kernel
theorem d_Mo_calmReach_162 : decode prog_10_method_86_code 162 = .ok (.istore 6, 2) := by decide +kernel
theorem d_Mo_calmReach_164 : decode prog_10_method_86_code 164 = .ok (.iinc 7 1, 3) := by decide +kernel
theorem d_Mo_calmReach_167 : decode prog_10_method_86_code 167 = .ok (.goto (-89), 3) := by decide +kernel
theorem d_Mo_calmReach_170 : decode prog_10_method_86_code 170 = .ok (.aload_n 0, 1) := by decide +kernel
theorem d_Mo_calmReach_171 : decode prog_10_method_86_code 171 = .ok (.iload_n 1, 1) := by decide +kernel
theorem d_Mo_calmReach_172 : decode prog_10_method_86_code 172 = .ok (.iload_n 2, 1) := by decide +kernel
theorem d_Mo_calmReach_173 : decode prog_10_method_86_code 173 = .ok (.iload 4, 2) := by decide +kernel
theorem d_Mo_calmReach_175 : decode prog_10_method_86_code 175 = .ok (.iconst 0, 1) := by decide +kernel
theorem d_Mo_calmReach_176 : decode prog_10_method_86_code 176 = .ok (.iload 5, 2) := by decide +kernel
theorem d_Mo_calmReach_178 : decode prog_10_method_86_code 178 = .ok (.invokevirtual 92, 3) := by decide +kernel
theorem d_Mo_calmReach_181 : decode prog_10_method_86_code 181 = .ok (.iload 6, 2) := by decide +kernel
theorem d_Mo_calmReach_183 : decode prog_10_method_86_code 183 = .ok (.ireturn, 1) := by decide +kernel
theorem d_Mo_steepest_0 : decode prog_10_method_87_code 0 = .ok (.aload_n 0, 1) := by decide +kernel
theorem d_Mo_steepest_1 : decode prog_10_method_87_code 1 = .ok (.iconst 0, 1) := by decide +kernel
theorem d_Mo_steepest_2 : decode prog_10_method_87_code 2 = .ok (.putfield 37, 3) := by decide +kernel
theorem d_Mo_steepest_5 : decode prog_10_method_87_code 5 = .ok (.iload_n 1, 1) := by decide +kernel
theorem d_Mo_steepest_6 : decode prog_10_method_87_code 6 = .ok (.invokestatic 51, 3) := by decide +kernel
theorem d_Mo_steepest_9 : decode prog_10_method_87_code 9 = .ok (.ifCond .eq 21, 3) := by decide +kernel
theorem d_Mo_steepest_12 : decode prog_10_method_87_code 12 = .ok (.iload_n 2, 1) := by decide +kernel
theorem d_Mo_steepest_13 : decode prog_10_method_87_code 13 = .ok (.iconst 0, 1) := by decide +kernel
theorem d_Mo_steepest_14 : decode prog_10_method_87_code 14 = .ok (.iconst 2, 1) := by decide +kernel
theorem d_Mo_steepest_15 : decode prog_10_method_87_code 15 = .ok (.invokestatic 47, 3) := by decide +kernel
theorem d_Mo_steepest_18 : decode prog_10_method_87_code 18 = .ok (.ifCond .eq 12, 3) := by decide +kernel
theorem d_Mo_steepest_21 : decode prog_10_method_87_code 21 = .ok (.iload_n 3, 1) := by decide +kernel
theorem d_Mo_steepest_22 : decode prog_10_method_87_code 22 = .ok (.iconst 0, 1) := by decide +kernel
theorem d_Mo_steepest_23 : decode prog_10_method_87_code 23 = .ok (.iconst 1, 1) := by decide +kernel
theorem d_Mo_steepest_24 : decode prog_10_method_87_code 24 = .ok (.invokestatic 47, 3) := by decide +kernel
theorem d_Mo_steepest_27 : decode prog_10_method_87_code 27 = .ok (.ifCond .ne 6, 3) := by decide +kernel
theorem d_Mo_steepest_30 : decode prog_10_method_87_code 30 = .ok (.ldc 112, 2) := by decide +kernel
theorem d_Mo_steepest_32 : decode prog_10_method_87_code 32 = .ok (.ireturn, 1) := by decide +kernel
theorem d_Mo_steepest_33 : decode prog_10_method_87_code 33 = .ok (.iconst (-1), 1) := by decide +kernel
theorem d_Mo_steepest_34 : decode prog_10_method_87_code 34 = .ok (.istore 4, 2) := by decide +kernel
theorem d_Mo_steepest_36 : decode prog_10_method_87_code 36 = .ok (.iconst 0, 1) := by decide +kernel
theorem d_Mo_steepest_37 : decode prog_10_method_87_code 37 = .ok (.istore 5, 2) := by decide +kernel
theorem d_Mo_steepest_39 : decode prog_10_method_87_code 39 = .ok (.iload_n 1, 1) := by decide +kernel
theorem d_Mo_steepest_40 : decode prog_10_method_87_code 40 = .ok (.ifCond .ne 20, 3) := by decide +kernel
theorem d_Mo_steepest_43 : decode prog_10_method_87_code 43 = .ok (.aload_n 0, 1) := by decide +kernel
theorem d_Mo_steepest_44 : decode prog_10_method_87_code 44 = .ok (.iconst 0, 1) := by decide +kernel
theorem d_Mo_steepest_45 : decode prog_10_method_87_code 45 = .ok (.aload_n 0, 1) := by decide +kernel
theorem d_Mo_steepest_46 : decode prog_10_method_87_code 46 = .ok (.getfield 7, 3) := by decide +kernel
theorem d_Mo_steepest_49 : decode prog_10_method_87_code 49 = .ok (.sipush 235, 3) := by decide +kernel
theorem d_Mo_steepest_52 : decode prog_10_method_87_code 52 = .ok (.iaload, 1) := by decide +kernel
theorem d_Mo_steepest_53 : decode prog_10_method_87_code 53 = .ok (.iload_n 2, 1) := by decide +kernel
theorem d_Mo_steepest_54 : decode prog_10_method_87_code 54 = .ok (.invokevirtual 236, 3) := by decide +kernel
theorem d_Mo_steepest_57 : decode prog_10_method_87_code 57 = .ok (.goto 17, 3) := by decide +kernel
theorem d_Mo_steepest_60 : decode prog_10_method_87_code 60 = .ok (.aload_n 0, 1) := by decide +kernel
theorem d_Mo_steepest_61 : decode prog_10_method_87_code 61 = .ok (.aload_n 0, 1) := by decide +kernel
theorem d_Mo_steepest_62 : decode prog_10_method_87_code 62 = .ok (.getfield 7, 3) := by decide +kernel
theorem d_Mo_steepest_65 : decode prog_10_method_87_code 65 = .ok (.sipush 234, 3) := by decide +kernel
theorem d_Mo_steepest_68 : decode prog_10_method_87_code 68 = .ok (.iaload, 1) := by decide +kernel
theorem d_Mo_steepest_69 : decode prog_10_method_87_code 69 = .ok (.iconst 0, 1) := by decide +kernel
theorem d_Mo_steepest_70 : decode prog_10_method_87_code 70 = .ok (.iload_n 2, 1) := by decide +kernel
theorem d_Mo_steepest_71 : decode prog_10_method_87_code 71 = .ok (.invokevirtual 236, 3) := by decide +kernel
theorem d_Mo_steepest_74 : decode prog_10_method_87_code 74 = .ok (.istore 6, 2) := by decide +kernel
theorem d_Mo_steepest_76 : decode prog_10_method_87_code 76 = .ok (.iconst 0, 1) := by decide +kernel
theorem d_Mo_steepest_77 : decode prog_10_method_87_code 77 = .ok (.istore 7, 2) := by decide +kernel
theorem d_Mo_steepest_79 : decode prog_10_method_87_code 79 = .ok (.iload 7, 2) := by decide +kernel
theorem d_Mo_steepest_81 : decode prog_10_method_87_code 81 = .ok (.sipush 1000, 3) := by decide +kernel
theorem d_Mo_steepest_84 : decode prog_10_method_87_code 84 = .ok (.if_icmp .ge 103, 3) := by decide +kernel
theorem d_Mo_steepest_87 : decode prog_10_method_87_code 87 = .ok (.iload_n 1, 1) := by decide +kernel
theorem d_Mo_steepest_88 : decode prog_10_method_87_code 88 = .ok (.ifCond .ne 23, 3) := by decide +kernel
theorem d_Mo_steepest_91 : decode prog_10_method_87_code 91 = .ok (.aload_n 0, 1) := by decide +kernel
theorem d_Mo_steepest_92 : decode prog_10_method_87_code 92 = .ok (.iload 7, 2) := by decide +kernel
theorem d_Mo_steepest_94 : decode prog_10_method_87_code 94 = .ok (.iconst 1, 1) := by decide +kernel
theorem d_Mo_steepest_95 : decode prog_10_method_87_code 95 = .ok (.iadd, 1) := by decide +kernel
theorem d_Mo_steepest_96 : decode prog_10_method_87_code 96 = .ok (.aload_n 0, 1) := by decide +kernel
theorem d_Mo_steepest_97 : decode prog_10_method_87_code 97 = .ok (.getfield 7, 3) := by decide +kernel
theorem d_Mo_steepest_100 : decode prog_10_method_87_code 100 = .ok (.sipush 235, 3) := by decide +kernel
theorem d_Mo_steepest_103 : decode prog_10_method_87_code 103 = .ok (.iaload, 1) := by decide +kernel
theorem d_Mo_steepest_104 : decode prog_10_method_87_code 104 = .ok (.iload_n 2, 1) := by decide +kernel
theorem d_Mo_steepest_105 : decode prog_10_method_87_code 105 = .ok (.invokevirtual 236, 3) := by decide +kernel
theorem d_Mo_steepest_108 : decode prog_10_method_87_code 108 = .ok (.goto 20, 3) := by decide +kernel
theorem d_Mo_steepest_111 : decode prog_10_method_87_code 111 = .ok (.aload_n 0, 1) := by decide +kernel
theorem d_Mo_steepest_112 : decode prog_10_method_87_code 112 = .ok (.aload_n 0, 1) := by decide +kernel
theorem d_Mo_steepest_113 : decode prog_10_method_87_code 113 = .ok (.getfield 7, 3) := by decide +kernel
theorem d_Mo_steepest_116 : decode prog_10_method_87_code 116 = .ok (.sipush 234, 3) := by decide +kernel
theorem d_Mo_steepest_119 : decode prog_10_method_87_code 119 = .ok (.iaload, 1) := by decide +kernel
theorem d_Mo_steepest_120 : decode prog_10_method_87_code 120 = .ok (.iload 7, 2) := by decide +kernel
theorem d_Mo_steepest_122 : decode prog_10_method_87_code 122 = .ok (.iconst 1, 1) := by decide +kernel
theorem d_Mo_steepest_123 : decode prog_10_method_87_code 123 = .ok (.iadd, 1) := by decide +kernel
theorem d_Mo_steepest_124 : decode prog_10_method_87_code 124 = .ok (.iload_n 2, 1) := by decide +kernel
theorem d_Mo_steepest_125 : decode prog_10_method_87_code 125 = .ok (.invokevirtual 236, 3) := by decide +kernel
theorem d_Mo_steepest_128 : decode prog_10_method_87_code 128 = .ok (.istore 8, 2) := by decide +kernel
theorem d_Mo_steepest_130 : decode prog_10_method_87_code 130 = .ok (.iload 8, 2) := by decide +kernel
theorem d_Mo_steepest_132 : decode prog_10_method_87_code 132 = .ok (.iload 6, 2) := by decide +kernel
theorem d_Mo_steepest_134 : decode prog_10_method_87_code 134 = .ok (.invokestatic 85, 3) := by decide +kernel
theorem d_Mo_steepest_137 : decode prog_10_method_87_code 137 = .ok (.iload 4, 2) := by decide +kernel
theorem d_Mo_steepest_139 : decode prog_10_method_87_code 139 = .ok (.if_icmp .le 8, 3) := by decide +kernel
theorem d_Mo_steepest_142 : decode prog_10_method_87_code 142 = .ok (.iload 7, 2) := by decide +kernel
theorem d_Mo_steepest_144 : decode prog_10_method_87_code 144 = .ok (.goto 5, 3) := by decide +kernel
theorem d_Mo_steepest_147 : decode prog_10_method_87_code 147 = .ok (.iload 5, 2) := by decide +kernel
theorem d_Mo_steepest_149 : decode prog_10_method_87_code 149 = .ok (.istore 5, 2) := by decide +kernel
theorem d_Mo_steepest_151 : decode prog_10_method_87_code 151 = .ok (.iload 8, 2) := by decide +kernel
theorem d_Mo_steepest_153 : decode prog_10_method_87_code 153 = .ok (.iload 6, 2) := by decide +kernel
theorem d_Mo_steepest_155 : decode prog_10_method_87_code 155 = .ok (.invokestatic 85, 3) := by decide +kernel
theorem d_Mo_steepest_158 : decode prog_10_method_87_code 158 = .ok (.iload 4, 2) := by decide +kernel
theorem d_Mo_steepest_160 : decode prog_10_method_87_code 160 = .ok (.if_icmp .le 13, 3) := by decide +kernel
theorem d_Mo_steepest_163 : decode prog_10_method_87_code 163 = .ok (.iload 8, 2) := by decide +kernel
theorem d_Mo_steepest_165 : decode prog_10_method_87_code 165 = .ok (.iload 6, 2) := by decide +kernel
theorem d_Mo_steepest_167 : decode prog_10_method_87_code 167 = .ok (.invokestatic 85, 3) := by decide +kernel
theorem d_Mo_steepest_170 : decode prog_10_method_87_code 170 = .ok (.goto 5, 3) := by decide +kernel
theorem d_Mo_steepest_173 : decode prog_10_method_87_code 173 = .ok (.iload 4, 2) := by decide +kernel
theorem d_Mo_steepest_175 : decode prog_10_method_87_code 175 = .ok (.istore 4, 2) := by decide +kernel
theorem d_Mo_steepest_177 : decode prog_10_method_87_code 177 = .ok (.iload 8, 2) := by decide +kernel
theorem d_Mo_steepest_179 : decode prog_10_method_87_code 179 = .ok (.istore 6, 2) := by decide +kernel
theorem d_Mo_steepest_181 : decode prog_10_method_87_code 181 = .ok (.iinc 7 1, 3) := by decide +kernel
theorem d_Mo_steepest_184 : decode prog_10_method_87_code 184 = .ok (.goto (-105), 3) := by decide +kernel
theorem d_Mo_steepest_187 : decode prog_10_method_87_code 187 = .ok (.iload_n 3, 1) := by decide +kernel
theorem d_Mo_steepest_188 : decode prog_10_method_87_code 188 = .ok (.ifCond .ne 8, 3) := by decide +kernel
theorem d_Mo_steepest_191 : decode prog_10_method_87_code 191 = .ok (.iload 4, 2) := by decide +kernel
theorem d_Mo_steepest_193 : decode prog_10_method_87_code 193 = .ok (.goto 5, 3) := by decide +kernel
theorem d_Mo_steepest_196 : decode prog_10_method_87_code 196 = .ok (.iload 5, 2) := by decide +kernel
theorem d_Mo_steepest_198 : decode prog_10_method_87_code 198 = .ok (.ireturn, 1) := by decide +kernel
end
section
/-- a private method of a class that the tables say can be made, by its rows of tables_1 -/
def lw_okq (q : MethodName × Nat) : Prop := (q.1.cls ≠ "java/lang/invoke/MethodHandle" ∧ q.1.cls ≠ "java/lang/invoke/VarHandle") ∧ Cond.instantiable q.1.cls q.2 ∈ tables_1 ∧ Cond.privateMethod q.1 ∈ tables_1 ∧ Cond.instanceMethod q.1 ∈ tables_1
theorem lw_p0 : lw_okq (⟨"GainTables$Borders", "copyBorder", "(II)V"⟩, 4) := ⟨⟨by decide +kernel, by decide +kernel⟩, List.mem_of_getElem? (i := 34) (by decide +kernel), List.mem_of_getElem? (i := 340) (by decide +kernel), List.mem_of_getElem? (i := 341) (by decide +kernel)⟩
theorem lw_p1 : lw_okq (⟨"GainTables$Table", "copyStrip", "(III)V"⟩, 4) := ⟨⟨by decide +kernel, by decide +kernel⟩, List.mem_of_getElem? (i := 28) (by decide +kernel), List.mem_of_getElem? (i := 344) (by decide +kernel), List.mem_of_getElem? (i := 345) (by decide +kernel)⟩
theorem lw_p2 : lw_okq (⟨"GainTables", "isBorder", "(II)Z"⟩, 9) := ⟨⟨by decide +kernel, by decide +kernel⟩, List.mem_of_getElem? (i := 14) (by decide +kernel), List.mem_of_getElem? (i := 377) (by decide +kernel), List.mem_of_getElem? (i := 378) (by decide +kernel)⟩
theorem lw_p3 : lw_okq (⟨"GainTables", "isEdit", "(IIIII)Z"⟩, 9) := ⟨⟨by decide +kernel, by decide +kernel⟩, List.mem_of_getElem? (i := 14) (by decide +kernel), List.mem_of_getElem? (i := 427) (by decide +kernel), List.mem_of_getElem? (i := 428) (by decide +kernel)⟩
theorem lw_p4 : lw_okq (⟨"GainTables", "isRegion", "(II)Z"⟩, 9) := ⟨⟨by decide +kernel, by decide +kernel⟩, List.mem_of_getElem? (i := 14) (by decide +kernel), List.mem_of_getElem? (i := 431) (by decide +kernel), List.mem_of_getElem? (i := 432) (by decide +kernel)⟩
theorem lw_p5 : lw_okq (⟨"GainTables", "carryOutMove", "(II)I"⟩, 9) := ⟨⟨by decide +kernel, by decide +kernel⟩, List.mem_of_getElem? (i := 14) (by decide +kernel), List.mem_of_getElem? (i := 484) (by decide +kernel), List.mem_of_getElem? (i := 485) (by decide +kernel)⟩
theorem lw_p6 : lw_okq (⟨"GainTables", "blendAtPoint", "()V"⟩, 9) := ⟨⟨by decide +kernel, by decide +kernel⟩, List.mem_of_getElem? (i := 14) (by decide +kernel), List.mem_of_getElem? (i := 492) (by decide +kernel), List.mem_of_getElem? (i := 493) (by decide +kernel)⟩
theorem lw_p7 : lw_okq (⟨"GainTables", "noteValues", "([I)V"⟩, 9) := ⟨⟨by decide +kernel, by decide +kernel⟩, List.mem_of_getElem? (i := 14) (by decide +kernel), List.mem_of_getElem? (i := 515) (by decide +kernel), List.mem_of_getElem? (i := 516) (by decide +kernel)⟩
theorem lw_p8 : lw_okq (⟨"GainTables", "blendedValue", "(I)I"⟩, 9) := ⟨⟨by decide +kernel, by decide +kernel⟩, List.mem_of_getElem? (i := 14) (by decide +kernel), List.mem_of_getElem? (i := 519) (by decide +kernel), List.mem_of_getElem? (i := 520) (by decide +kernel)⟩
theorem lw_p9 : lw_okq (⟨"GainTables", "greatestDifference", "()I"⟩, 9) := ⟨⟨by decide +kernel, by decide +kernel⟩, List.mem_of_getElem? (i := 14) (by decide +kernel), List.mem_of_getElem? (i := 535) (by decide +kernel), List.mem_of_getElem? (i := 536) (by decide +kernel)⟩
theorem lw_p10 : lw_okq (⟨"GainTables$Text", "peek", "()I"⟩, 4) := ⟨⟨by decide +kernel, by decide +kernel⟩, List.mem_of_getElem? (i := 177) (by decide +kernel), List.mem_of_getElem? (i := 618) (by decide +kernel), List.mem_of_getElem? (i := 619) (by decide +kernel)⟩
theorem lw_p11 : lw_okq (⟨"GainTables$Text", "characterAt", "(I)I"⟩, 4) := ⟨⟨by decide +kernel, by decide +kernel⟩, List.mem_of_getElem? (i := 177) (by decide +kernel), List.mem_of_getElem? (i := 622) (by decide +kernel), List.mem_of_getElem? (i := 623) (by decide +kernel)⟩
theorem lw_p12 : lw_okq (⟨"GainTables$Text", "readItem", "(LGainTables$Table;)V"⟩, 4) := ⟨⟨by decide +kernel, by decide +kernel⟩, List.mem_of_getElem? (i := 177) (by decide +kernel), List.mem_of_getElem? (i := 626) (by decide +kernel), List.mem_of_getElem? (i := 627) (by decide +kernel)⟩
theorem lw_p13 : lw_okq (⟨"GainTables$Text", "readBorder", "(LGainTables$Table;I)V"⟩, 4) := ⟨⟨by decide +kernel, by decide +kernel⟩, List.mem_of_getElem? (i := 177) (by decide +kernel), List.mem_of_getElem? (i := 630) (by decide +kernel), List.mem_of_getElem? (i := 631) (by decide +kernel)⟩
theorem lw_p14 : lw_okq (⟨"GainTables$Text", "readNumber", "(II)I"⟩, 4) := ⟨⟨by decide +kernel, by decide +kernel⟩, List.mem_of_getElem? (i := 177) (by decide +kernel), List.mem_of_getElem? (i := 634) (by decide +kernel), List.mem_of_getElem? (i := 635) (by decide +kernel)⟩
theorem lw_p15 : lw_okq (⟨"GainTables$Text", "readEndOfItem", "()V"⟩, 4) := ⟨⟨by decide +kernel, by decide +kernel⟩, List.mem_of_getElem? (i := 177) (by decide +kernel), List.mem_of_getElem? (i := 644) (by decide +kernel), List.mem_of_getElem? (i := 645) (by decide +kernel)⟩
def lw_privs_1 : List (MethodName × Nat) := [(⟨"GainTables$Borders", "copyBorder", "(II)V"⟩, 4), (⟨"GainTables$Table", "copyStrip", "(III)V"⟩, 4), (⟨"GainTables", "isBorder", "(II)Z"⟩, 9), (⟨"GainTables", "isEdit", "(IIIII)Z"⟩, 9), (⟨"GainTables", "isRegion", "(II)Z"⟩, 9), (⟨"GainTables", "carryOutMove", "(II)I"⟩, 9), (⟨"GainTables", "blendAtPoint", "()V"⟩, 9), (⟨"GainTables", "noteValues", "([I)V"⟩, 9), (⟨"GainTables", "blendedValue", "(I)I"⟩, 9), (⟨"GainTables", "greatestDifference", "()I"⟩, 9), (⟨"GainTables$Text", "peek", "()I"⟩, 4), (⟨"GainTables$Text", "characterAt", "(I)I"⟩, 4), (⟨"GainTables$Text", "readItem", "(LGainTables$Table;)V"⟩, 4), (⟨"GainTables$Text", "readBorder", "(LGainTables$Table;I)V"⟩, 4), (⟨"GainTables$Text", "readNumber", "(II)I"⟩, 4), (⟨"GainTables$Text", "readEndOfItem", "()V"⟩, 4)]
theorem lw_r1 : ∀ q ∈ lw_privs_1, lw_okq q := List.forall_mem_cons.mpr ⟨lw_p0, List.forall_mem_cons.mpr ⟨lw_p1, List.forall_mem_cons.mpr ⟨lw_p2, List.forall_mem_cons.mpr ⟨lw_p3, List.forall_mem_cons.mpr ⟨lw_p4, List.forall_mem_cons.mpr ⟨lw_p5, List.forall_mem_cons.mpr ⟨lw_p6, List.forall_mem_cons.mpr ⟨lw_p7, List.forall_mem_cons.mpr ⟨lw_p8, List.forall_mem_cons.mpr ⟨lw_p9, List.forall_mem_cons.mpr ⟨lw_p10, List.forall_mem_cons.mpr ⟨lw_p11, List.forall_mem_cons.mpr ⟨lw_p12, List.forall_mem_cons.mpr ⟨lw_p13, List.forall_mem_cons.mpr ⟨lw_p14, List.forall_mem_cons.mpr ⟨lw_p15, fun _ h => absurd h List.not_mem_nil⟩⟩⟩⟩⟩⟩⟩⟩⟩⟩⟩⟩⟩⟩⟩⟩
theorem lw_p16 : lw_okq (⟨"GainTables$Text", "readGain", "(LGainTables$Table;)V"⟩, 4) := ⟨⟨by decide +kernel, by decide +kernel⟩, List.mem_of_getElem? (i := 177) (by decide +kernel), List.mem_of_getElem? (i := 654) (by decide +kernel), List.mem_of_getElem? (i := 655) (by decide +kernel)⟩
theorem lw_p17 : lw_okq (⟨"GainTablesModel", "clearRegions", "()V"⟩, 14) := ⟨⟨by decide +kernel, by decide +kernel⟩, List.mem_of_getElem? (i := 755) (by decide +kernel), List.mem_of_getElem? (i := 761) (by decide +kernel), List.mem_of_getElem? (i := 762) (by decide +kernel)⟩
theorem lw_p18 : lw_okq (⟨"GainTablesModel", "isOccupied", "(IIII)Z"⟩, 14) := ⟨⟨by decide +kernel, by decide +kernel⟩, List.mem_of_getElem? (i := 755) (by decide +kernel), List.mem_of_getElem? (i := 826) (by decide +kernel), List.mem_of_getElem? (i := 827) (by decide +kernel)⟩
theorem lw_p19 : lw_okq (⟨"GainTablesModel", "borders", "(I)I"⟩, 14) := ⟨⟨by decide +kernel, by decide +kernel⟩, List.mem_of_getElem? (i := 755) (by decide +kernel), List.mem_of_getElem? (i := 830) (by decide +kernel), List.mem_of_getElem? (i := 831) (by decide +kernel)⟩
theorem lw_p20 : lw_okq (⟨"GainTablesModel", "ofBorder", "(III)I"⟩, 14) := ⟨⟨by decide +kernel, by decide +kernel⟩, List.mem_of_getElem? (i := 755) (by decide +kernel), List.mem_of_getElem? (i := 834) (by decide +kernel), List.mem_of_getElem? (i := 835) (by decide +kernel)⟩
theorem lw_p21 : lw_okq (⟨"GainTablesModel", "act", "()V"⟩, 14) := ⟨⟨by decide +kernel, by decide +kernel⟩, List.mem_of_getElem? (i := 755) (by decide +kernel), List.mem_of_getElem? (i := 843) (by decide +kernel), List.mem_of_getElem? (i := 844) (by decide +kernel)⟩
theorem lw_p22 : lw_okq (⟨"GainTablesModel", "allGains", "()I"⟩, 14) := ⟨⟨by decide +kernel, by decide +kernel⟩, List.mem_of_getElem? (i := 755) (by decide +kernel), List.mem_of_getElem? (i := 847) (by decide +kernel), List.mem_of_getElem? (i := 848) (by decide +kernel)⟩
theorem lw_p23 : lw_okq (⟨"GainTablesModel", "insert", "(IIII)I"⟩, 14) := ⟨⟨by decide +kernel, by decide +kernel⟩, List.mem_of_getElem? (i := 755) (by decide +kernel), List.mem_of_getElem? (i := 854) (by decide +kernel), List.mem_of_getElem? (i := 855) (by decide +kernel)⟩
theorem lw_p24 : lw_okq (⟨"GainTablesModel", "setBorder", "(IIIII)V"⟩, 14) := ⟨⟨by decide +kernel, by decide +kernel⟩, List.mem_of_getElem? (i := 755) (by decide +kernel), List.mem_of_getElem? (i := 858) (by decide +kernel), List.mem_of_getElem? (i := 859) (by decide +kernel)⟩
theorem lw_p25 : lw_okq (⟨"GainTablesModel", "copyStrip", "(III)V"⟩, 14) := ⟨⟨by decide +kernel, by decide +kernel⟩, List.mem_of_getElem? (i := 755) (by decide +kernel), List.mem_of_getElem? (i := 862) (by decide +kernel), List.mem_of_getElem? (i := 863) (by decide +kernel)⟩
theorem lw_p26 : lw_okq (⟨"GainTablesModel", "copyRegion", "(IIII)V"⟩, 14) := ⟨⟨by decide +kernel, by decide +kernel⟩, List.mem_of_getElem? (i := 755) (by decide +kernel), List.mem_of_getElem? (i := 866) (by decide +kernel), List.mem_of_getElem? (i := 867) (by decide +kernel)⟩
theorem lw_p27 : lw_okq (⟨"GainTablesModel", "settle", "(I)V"⟩, 14) := ⟨⟨by decide +kernel, by decide +kernel⟩, List.mem_of_getElem? (i := 755) (by decide +kernel), List.mem_of_getElem? (i := 870) (by decide +kernel), List.mem_of_getElem? (i := 871) (by decide +kernel)⟩
theorem lw_p28 : lw_okq (⟨"GainTablesModel", "findZones", "()V"⟩, 14) := ⟨⟨by decide +kernel, by decide +kernel⟩, List.mem_of_getElem? (i := 755) (by decide +kernel), List.mem_of_getElem? (i := 874) (by decide +kernel), List.mem_of_getElem? (i := 875) (by decide +kernel)⟩
theorem lw_p29 : lw_okq (⟨"GainTablesModel", "zoneOf", "(II)I"⟩, 14) := ⟨⟨by decide +kernel, by decide +kernel⟩, List.mem_of_getElem? (i := 755) (by decide +kernel), List.mem_of_getElem? (i := 878) (by decide +kernel), List.mem_of_getElem? (i := 879) (by decide +kernel)⟩
theorem lw_p30 : lw_okq (⟨"GainTablesModel", "isBorder", "(II)Z"⟩, 14) := ⟨⟨by decide +kernel, by decide +kernel⟩, List.mem_of_getElem? (i := 755) (by decide +kernel), List.mem_of_getElem? (i := 886) (by decide +kernel), List.mem_of_getElem? (i := 887) (by decide +kernel)⟩
theorem lw_p31 : lw_okq (⟨"GainTablesModel", "isEdit", "(IIIII)Z"⟩, 14) := ⟨⟨by decide +kernel, by decide +kernel⟩, List.mem_of_getElem? (i := 755) (by decide +kernel), List.mem_of_getElem? (i := 906) (by decide +kernel), List.mem_of_getElem? (i := 907) (by decide +kernel)⟩
def lw_privs_2 : List (MethodName × Nat) := [(⟨"GainTables$Text", "readGain", "(LGainTables$Table;)V"⟩, 4), (⟨"GainTablesModel", "clearRegions", "()V"⟩, 14), (⟨"GainTablesModel", "isOccupied", "(IIII)Z"⟩, 14), (⟨"GainTablesModel", "borders", "(I)I"⟩, 14), (⟨"GainTablesModel", "ofBorder", "(III)I"⟩, 14), (⟨"GainTablesModel", "act", "()V"⟩, 14), (⟨"GainTablesModel", "allGains", "()I"⟩, 14), (⟨"GainTablesModel", "insert", "(IIII)I"⟩, 14), (⟨"GainTablesModel", "setBorder", "(IIIII)V"⟩, 14), (⟨"GainTablesModel", "copyStrip", "(III)V"⟩, 14), (⟨"GainTablesModel", "copyRegion", "(IIII)V"⟩, 14), (⟨"GainTablesModel", "settle", "(I)V"⟩, 14), (⟨"GainTablesModel", "findZones", "()V"⟩, 14), (⟨"GainTablesModel", "zoneOf", "(II)I"⟩, 14), (⟨"GainTablesModel", "isBorder", "(II)Z"⟩, 14), (⟨"GainTablesModel", "isEdit", "(IIIII)Z"⟩, 14)]
theorem lw_r2 : ∀ q ∈ lw_privs_2, lw_okq q := List.forall_mem_cons.mpr ⟨lw_p16, List.forall_mem_cons.mpr ⟨lw_p17, List.forall_mem_cons.mpr ⟨lw_p18, List.forall_mem_cons.mpr ⟨lw_p19, List.forall_mem_cons.mpr ⟨lw_p20, List.forall_mem_cons.mpr ⟨lw_p21, List.forall_mem_cons.mpr ⟨lw_p22, List.forall_mem_cons.mpr ⟨lw_p23, List.forall_mem_cons.mpr ⟨lw_p24, List.forall_mem_cons.mpr ⟨lw_p25, List.forall_mem_cons.mpr ⟨lw_p26, List.forall_mem_cons.mpr ⟨lw_p27, List.forall_mem_cons.mpr ⟨lw_p28, List.forall_mem_cons.mpr ⟨lw_p29, List.forall_mem_cons.mpr ⟨lw_p30, List.forall_mem_cons.mpr ⟨lw_p31, fun _ h => absurd h List.not_mem_nil⟩⟩⟩⟩⟩⟩⟩⟩⟩⟩⟩⟩⟩⟩⟩⟩
theorem lw_p32 : lw_okq (⟨"GainTablesModel", "isRegion", "(II)Z"⟩, 14) := ⟨⟨by decide +kernel, by decide +kernel⟩, List.mem_of_getElem? (i := 755) (by decide +kernel), List.mem_of_getElem? (i := 910) (by decide +kernel), List.mem_of_getElem? (i := 911) (by decide +kernel)⟩
theorem lw_p33 : lw_okq (⟨"GainTablesModel", "refusalOf", "(IIIII)I"⟩, 14) := ⟨⟨by decide +kernel, by decide +kernel⟩, List.mem_of_getElem? (i := 755) (by decide +kernel), List.mem_of_getElem? (i := 914) (by decide +kernel), List.mem_of_getElem? (i := 915) (by decide +kernel)⟩
theorem lw_p34 : lw_okq (⟨"GainTablesModel", "change", "(IIIII)V"⟩, 14) := ⟨⟨by decide +kernel, by decide +kernel⟩, List.mem_of_getElem? (i := 755) (by decide +kernel), List.mem_of_getElem? (i := 918) (by decide +kernel), List.mem_of_getElem? (i := 919) (by decide +kernel)⟩
theorem lw_p35 : lw_okq (⟨"GainTablesModel", "locksOf", "(I)I"⟩, 14) := ⟨⟨by decide +kernel, by decide +kernel⟩, List.mem_of_getElem? (i := 755) (by decide +kernel), List.mem_of_getElem? (i := 930) (by decide +kernel), List.mem_of_getElem? (i := 931) (by decide +kernel)⟩
theorem lw_p36 : lw_okq (⟨"GainTablesModel", "moves", "(II)I"⟩, 14) := ⟨⟨by decide +kernel, by decide +kernel⟩, List.mem_of_getElem? (i := 755) (by decide +kernel), List.mem_of_getElem? (i := 945) (by decide +kernel), List.mem_of_getElem? (i := 946) (by decide +kernel)⟩
theorem lw_p37 : lw_okq (⟨"GainTablesModel", "isIgnored", "(II)Z"⟩, 14) := ⟨⟨by decide +kernel, by decide +kernel⟩, List.mem_of_getElem? (i := 755) (by decide +kernel), List.mem_of_getElem? (i := 949) (by decide +kernel), List.mem_of_getElem? (i := 950) (by decide +kernel)⟩
theorem lw_p38 : lw_okq (⟨"GainTablesModel", "noteValues", "()V"⟩, 14) := ⟨⟨by decide +kernel, by decide +kernel⟩, List.mem_of_getElem? (i := 755) (by decide +kernel), List.mem_of_getElem? (i := 953) (by decide +kernel), List.mem_of_getElem? (i := 954) (by decide +kernel)⟩
theorem lw_p39 : lw_okq (⟨"GainTablesModel", "locatePoint", "()V"⟩, 14) := ⟨⟨by decide +kernel, by decide +kernel⟩, List.mem_of_getElem? (i := 755) (by decide +kernel), List.mem_of_getElem? (i := 957) (by decide +kernel), List.mem_of_getElem? (i := 958) (by decide +kernel)⟩
theorem lw_p40 : lw_okq (⟨"GainTablesModel", "locate", "(III)V"⟩, 14) := ⟨⟨by decide +kernel, by decide +kernel⟩, List.mem_of_getElem? (i := 755) (by decide +kernel), List.mem_of_getElem? (i := 961) (by decide +kernel), List.mem_of_getElem? (i := 962) (by decide +kernel)⟩
theorem lw_p41 : lw_okq (⟨"GainTablesModel", "sticky", "(II)I"⟩, 14) := ⟨⟨by decide +kernel, by decide +kernel⟩, List.mem_of_getElem? (i := 755) (by decide +kernel), List.mem_of_getElem? (i := 965) (by decide +kernel), List.mem_of_getElem? (i := 966) (by decide +kernel)⟩
theorem lw_p42 : lw_okq (⟨"GainTablesModel", "value", "(I)I"⟩, 14) := ⟨⟨by decide +kernel, by decide +kernel⟩, List.mem_of_getElem? (i := 755) (by decide +kernel), List.mem_of_getElem? (i := 969) (by decide +kernel), List.mem_of_getElem? (i := 970) (by decide +kernel)⟩
theorem lw_p43 : lw_okq (⟨"GainTablesModel", "numerator", "(I)I"⟩, 14) := ⟨⟨by decide +kernel, by decide +kernel⟩, List.mem_of_getElem? (i := 755) (by decide +kernel), List.mem_of_getElem? (i := 973) (by decide +kernel), List.mem_of_getElem? (i := 974) (by decide +kernel)⟩
theorem lw_p44 : lw_okq (⟨"GainTablesModel", "denominator", "()I"⟩, 14) := ⟨⟨by decide +kernel, by decide +kernel⟩, List.mem_of_getElem? (i := 755) (by decide +kernel), List.mem_of_getElem? (i := 977) (by decide +kernel), List.mem_of_getElem? (i := 978) (by decide +kernel)⟩
theorem lw_p45 : lw_okq (⟨"GainTablesModel", "goTo", "(II)V"⟩, 14) := ⟨⟨by decide +kernel, by decide +kernel⟩, List.mem_of_getElem? (i := 755) (by decide +kernel), List.mem_of_getElem? (i := 981) (by decide +kernel), List.mem_of_getElem? (i := 982) (by decide +kernel)⟩
theorem lw_p46 : lw_okq (⟨"GainTablesModel", "zoneBehind", "(III)I"⟩, 14) := ⟨⟨by decide +kernel, by decide +kernel⟩, List.mem_of_getElem? (i := 755) (by decide +kernel), List.mem_of_getElem? (i := 985) (by decide +kernel), List.mem_of_getElem? (i := 986) (by decide +kernel)⟩
theorem lw_p47 : lw_okq (⟨"GainTablesModel", "jump", "()I"⟩, 14) := ⟨⟨by decide +kernel, by decide +kernel⟩, List.mem_of_getElem? (i := 755) (by decide +kernel), List.mem_of_getElem? (i := 989) (by decide +kernel), List.mem_of_getElem? (i := 990) (by decide +kernel)⟩
def lw_privs_3 : List (MethodName × Nat) := [(⟨"GainTablesModel", "isRegion", "(II)Z"⟩, 14), (⟨"GainTablesModel", "refusalOf", "(IIIII)I"⟩, 14), (⟨"GainTablesModel", "change", "(IIIII)V"⟩, 14), (⟨"GainTablesModel", "locksOf", "(I)I"⟩, 14), (⟨"GainTablesModel", "moves", "(II)I"⟩, 14), (⟨"GainTablesModel", "isIgnored", "(II)Z"⟩, 14), (⟨"GainTablesModel", "noteValues", "()V"⟩, 14), (⟨"GainTablesModel", "locatePoint", "()V"⟩, 14), (⟨"GainTablesModel", "locate", "(III)V"⟩, 14), (⟨"GainTablesModel", "sticky", "(II)I"⟩, 14), (⟨"GainTablesModel", "value", "(I)I"⟩, 14), (⟨"GainTablesModel", "numerator", "(I)I"⟩, 14), (⟨"GainTablesModel", "denominator", "()I"⟩, 14), (⟨"GainTablesModel", "goTo", "(II)V"⟩, 14), (⟨"GainTablesModel", "zoneBehind", "(III)I"⟩, 14), (⟨"GainTablesModel", "jump", "()I"⟩, 14)]
theorem lw_r3 : ∀ q ∈ lw_privs_3, lw_okq q := List.forall_mem_cons.mpr ⟨lw_p32, List.forall_mem_cons.mpr ⟨lw_p33, List.forall_mem_cons.mpr ⟨lw_p34, List.forall_mem_cons.mpr ⟨lw_p35, List.forall_mem_cons.mpr ⟨lw_p36, List.forall_mem_cons.mpr ⟨lw_p37, List.forall_mem_cons.mpr ⟨lw_p38, List.forall_mem_cons.mpr ⟨lw_p39, List.forall_mem_cons.mpr ⟨lw_p40, List.forall_mem_cons.mpr ⟨lw_p41, List.forall_mem_cons.mpr ⟨lw_p42, List.forall_mem_cons.mpr ⟨lw_p43, List.forall_mem_cons.mpr ⟨lw_p44, List.forall_mem_cons.mpr ⟨lw_p45, List.forall_mem_cons.mpr ⟨lw_p46, List.forall_mem_cons.mpr ⟨lw_p47, fun _ h => absurd h List.not_mem_nil⟩⟩⟩⟩⟩⟩⟩⟩⟩⟩⟩⟩⟩⟩⟩⟩
theorem lw_p48 : lw_okq (⟨"GainTablesModel", "newEntry", "()I"⟩, 14) := ⟨⟨by decide +kernel, by decide +kernel⟩, List.mem_of_getElem? (i := 755) (by decide +kernel), List.mem_of_getElem? (i := 993) (by decide +kernel), List.mem_of_getElem? (i := 994) (by decide +kernel)⟩
theorem lw_p49 : lw_okq (⟨"GainTablesModel", "regions", "()I"⟩, 14) := ⟨⟨by decide +kernel, by decide +kernel⟩, List.mem_of_getElem? (i := 755) (by decide +kernel), List.mem_of_getElem? (i := 1008) (by decide +kernel), List.mem_of_getElem? (i := 1009) (by decide +kernel)⟩
theorem lw_p50 : lw_okq (⟨"GainTablesModel", "hold", "()V"⟩, 14) := ⟨⟨by decide +kernel, by decide +kernel⟩, List.mem_of_getElem? (i := 755) (by decide +kernel), List.mem_of_getElem? (i := 1032) (by decide +kernel), List.mem_of_getElem? (i := 1033) (by decide +kernel)⟩
theorem lw_p51 : lw_okq (⟨"GainTablesModel", "here", "()I"⟩, 14) := ⟨⟨by decide +kernel, by decide +kernel⟩, List.mem_of_getElem? (i := 755) (by decide +kernel), List.mem_of_getElem? (i := 1036) (by decide +kernel), List.mem_of_getElem? (i := 1037) (by decide +kernel)⟩
theorem lw_p52 : lw_okq (⟨"GainTablesModel", "readsItem", "()Z"⟩, 14) := ⟨⟨by decide +kernel, by decide +kernel⟩, List.mem_of_getElem? (i := 755) (by decide +kernel), List.mem_of_getElem? (i := 1040) (by decide +kernel), List.mem_of_getElem? (i := 1041) (by decide +kernel)⟩
theorem lw_p53 : lw_okq (⟨"GainTablesModel", "readsGain", "()Z"⟩, 14) := ⟨⟨by decide +kernel, by decide +kernel⟩, List.mem_of_getElem? (i := 755) (by decide +kernel), List.mem_of_getElem? (i := 1044) (by decide +kernel), List.mem_of_getElem? (i := 1045) (by decide +kernel)⟩
theorem lw_p54 : lw_okq (⟨"GainTablesModel", "reads", "(II)Z"⟩, 14) := ⟨⟨by decide +kernel, by decide +kernel⟩, List.mem_of_getElem? (i := 755) (by decide +kernel), List.mem_of_getElem? (i := 1048) (by decide +kernel), List.mem_of_getElem? (i := 1049) (by decide +kernel)⟩
theorem lw_p55 : lw_okq (⟨"GainTablesModel", "takes", "(I)Z"⟩, 14) := ⟨⟨by decide +kernel, by decide +kernel⟩, List.mem_of_getElem? (i := 755) (by decide +kernel), List.mem_of_getElem? (i := 1053) (by decide +kernel), List.mem_of_getElem? (i := 1054) (by decide +kernel)⟩
theorem lw_p56 : lw_okq (⟨"GainTablesModel", "readsBorder", "(II)Z"⟩, 14) := ⟨⟨by decide +kernel, by decide +kernel⟩, List.mem_of_getElem? (i := 755) (by decide +kernel), List.mem_of_getElem? (i := 1057) (by decide +kernel), List.mem_of_getElem? (i := 1058) (by decide +kernel)⟩
theorem lw_p57 : lw_okq (⟨"GainTablesModel", "release", "()V"⟩, 14) := ⟨⟨by decide +kernel, by decide +kernel⟩, List.mem_of_getElem? (i := 755) (by decide +kernel), List.mem_of_getElem? (i := 1061) (by decide +kernel), List.mem_of_getElem? (i := 1062) (by decide +kernel)⟩
theorem lw_p58 : lw_okq (⟨"GainTablesModel", "exchange", "()V"⟩, 14) := ⟨⟨by decide +kernel, by decide +kernel⟩, List.mem_of_getElem? (i := 755) (by decide +kernel), List.mem_of_getElem? (i := 1066) (by decide +kernel), List.mem_of_getElem? (i := 1067) (by decide +kernel)⟩
theorem lw_p59 : lw_okq (⟨"GainTablesModel", "snapshots", "()I"⟩, 14) := ⟨⟨by decide +kernel, by decide +kernel⟩, List.mem_of_getElem? (i := 755) (by decide +kernel), List.mem_of_getElem? (i := 1074) (by decide +kernel), List.mem_of_getElem? (i := 1075) (by decide +kernel)⟩
theorem lw_p60 : lw_okq (⟨"GainTablesModel", "stickyMany", "(I)I"⟩, 14) := ⟨⟨by decide +kernel, by decide +kernel⟩, List.mem_of_getElem? (i := 755) (by decide +kernel), List.mem_of_getElem? (i := 1082) (by decide +kernel), List.mem_of_getElem? (i := 1083) (by decide +kernel)⟩
theorem lw_p61 : lw_okq (⟨"GainTablesModel", "valueThere", "(III)I"⟩, 14) := ⟨⟨by decide +kernel, by decide +kernel⟩, List.mem_of_getElem? (i := 755) (by decide +kernel), List.mem_of_getElem? (i := 1122) (by decide +kernel), List.mem_of_getElem? (i := 1123) (by decide +kernel)⟩
theorem lw_p62 : lw_okq (⟨"GainTablesModel", "chatters", "(IIIII)I"⟩, 14) := ⟨⟨by decide +kernel, by decide +kernel⟩, List.mem_of_getElem? (i := 755) (by decide +kernel), List.mem_of_getElem? (i := 1130) (by decide +kernel), List.mem_of_getElem? (i := 1131) (by decide +kernel)⟩
def lw_privs_4 : List (MethodName × Nat) := [(⟨"GainTablesModel", "newEntry", "()I"⟩, 14), (⟨"GainTablesModel", "regions", "()I"⟩, 14), (⟨"GainTablesModel", "hold", "()V"⟩, 14), (⟨"GainTablesModel", "here", "()I"⟩, 14), (⟨"GainTablesModel", "readsItem", "()Z"⟩, 14), (⟨"GainTablesModel", "readsGain", "()Z"⟩, 14), (⟨"GainTablesModel", "reads", "(II)Z"⟩, 14), (⟨"GainTablesModel", "takes", "(I)Z"⟩, 14), (⟨"GainTablesModel", "readsBorder", "(II)Z"⟩, 14), (⟨"GainTablesModel", "release", "()V"⟩, 14), (⟨"GainTablesModel", "exchange", "()V"⟩, 14), (⟨"GainTablesModel", "snapshots", "()I"⟩, 14), (⟨"GainTablesModel", "stickyMany", "(I)I"⟩, 14), (⟨"GainTablesModel", "valueThere", "(III)I"⟩, 14), (⟨"GainTablesModel", "chatters", "(IIIII)I"⟩, 14)]
theorem lw_r4 : ∀ q ∈ lw_privs_4, lw_okq q := List.forall_mem_cons.mpr ⟨lw_p48, List.forall_mem_cons.mpr ⟨lw_p49, List.forall_mem_cons.mpr ⟨lw_p50, List.forall_mem_cons.mpr ⟨lw_p51, List.forall_mem_cons.mpr ⟨lw_p52, List.forall_mem_cons.mpr ⟨lw_p53, List.forall_mem_cons.mpr ⟨lw_p54, List.forall_mem_cons.mpr ⟨lw_p55, List.forall_mem_cons.mpr ⟨lw_p56, List.forall_mem_cons.mpr ⟨lw_p57, List.forall_mem_cons.mpr ⟨lw_p58, List.forall_mem_cons.mpr ⟨lw_p59, List.forall_mem_cons.mpr ⟨lw_p60, List.forall_mem_cons.mpr ⟨lw_p61, List.forall_mem_cons.mpr ⟨lw_p62, fun _ h => absurd h List.not_mem_nil⟩⟩⟩⟩⟩⟩⟩⟩⟩⟩⟩⟩⟩⟩⟩
def lw_privs : List (MethodName × Nat) := lw_privs_1 ++ (lw_privs_2 ++ (lw_privs_3 ++ (lw_privs_4)))
def lw_tbl : List Cond := k2_sels lw_privs ++ tables_1
theorem lw_privs_ok : ∀ q ∈ lw_privs, lw_okq q := by
  show ∀ q ∈ lw_privs_1 ++ (lw_privs_2 ++ (lw_privs_3 ++ (lw_privs_4))), lw_okq q
  exact List.forall_mem_append.mpr ⟨lw_r1, List.forall_mem_append.mpr ⟨lw_r2, List.forall_mem_append.mpr ⟨lw_r3, lw_r4⟩⟩⟩
end
section
/-! A calculus over a fixed graph of objects: the world is 358 cells at addresses in a row; a state is what ints they hold. -/
abbrev ga_V : Type := Int ⊕ Nat
abbrev ga_I : Type := Nat → Nat → Int
abbrev ga_M : Type := MethodName × ByteArray × Nat × Option FieldType
abbrev ga_Sh : Type := (Nat × List (Option Nat)) ⊕ (Nat × Nat) ⊕ List Nat
/-- launch, classes, addresses of the cells, classes of the arrays, base of the world, the script: cell, length, ints -/
abbrev ga_G : Type := Launch × va_G × (Nat → Nat) × (Nat → ClassId) × Nat × Nat × Nat × (Nat → Int32)
abbrev ga_l (G : ga_G) : Launch := G.1
abbrev ga_D (G : ga_G) : va_G := G.2.1
abbrev ga_ad (G : ga_G) : Nat → Nat := G.2.2.1
abbrev ga_cy (G : ga_G) : Nat → ClassId := G.2.2.2.1
abbrev ga_ba (G : ga_G) : Nat := G.2.2.2.2.1
abbrev ga_b (G : ga_G) : Nat := G.2.2.2.2.2.1
abbrev ga_L (G : ga_G) : Nat := G.2.2.2.2.2.2.1
abbrev ga_xs (G : ga_G) : Nat → Int32 := G.2.2.2.2.2.2.2
-- the numbers
abbrev ga_rg (z : Int) : Prop := -2147483648 ≤ z ∧ z < 2147483648
theorem ga_bm {z : Int} (h1 : -2147483648 ≤ z) (h2 : z < 2147483648) : z.bmod (2 ^ 32) = z := by
  rw [Int.bmod_eq_of_le (by omega) (by omega)]
theorem ga_oadd (a b : Int) : Int32.ofInt a + Int32.ofInt b = Int32.ofInt (a + b) := (Int32.ofInt_add a b).symm
theorem ga_osub (a b : Int) : Int32.ofInt a - Int32.ofInt b = Int32.ofInt (a - b) := (Int32.ofInt_sub a b).symm
theorem ga_omul (a b : Int) : Int32.ofInt a * Int32.ofInt b = Int32.ofInt (a * b) := (Int32.ofInt_mul a b).symm
theorem ga_oneg (a : Int) : -Int32.ofInt a = Int32.ofInt (-a) := (Int32.ofInt_neg a).symm
theorem ga_toI0 (z : Int) : (Int32.ofInt z).toInt = z.bmod (2 ^ 32) := by
  first | exact Int32.toInt_ofInt z | exact Int32.toInt_ofInt | simp
theorem ga_toI {z : Int} (h : ga_rg z) : (Int32.ofInt z).toInt = z := by
  rw [ga_toI0]
  exact ga_bm h.1 h.2
theorem ga_rgI (x : Int32) : ga_rg x.toInt := by
  exact ⟨Int32.le_toInt x, Int32.toInt_lt x⟩
theorem ga_of_I (x : Int32) : Int32.ofInt x.toInt = x := by
  first | exact Int32.ofInt_toInt x | simp
theorem ga_lt {a b : Int} (ha : ga_rg a) (hb : ga_rg b) : Int32.ofInt a < Int32.ofInt b ↔ a < b := by
  rw [Int32.lt_iff_toInt_lt, ga_toI ha, ga_toI hb]
theorem ga_le {a b : Int} (ha : ga_rg a) (hb : ga_rg b) : Int32.ofInt a ≤ Int32.ofInt b ↔ a ≤ b := by
  rw [Int32.le_iff_toInt_le, ga_toI ha, ga_toI hb]
theorem ga_eq {a b : Int} (ha : ga_rg a) (hb : ga_rg b) : Int32.ofInt a = Int32.ofInt b ↔ a = b := by
  rw [← Int32.toInt_inj, ga_toI ha, ga_toI hb]
theorem ga_nat {z : Int} (h : ga_rg z) : (Int32.ofInt z).toNatClampNeg = z.toNat := by
  show (Int32.ofInt z).toInt.toNat = z.toNat
  rw [ga_toI h]
theorem ga_in {z : Int} {n : Nat} (h0 : 0 ≤ z) (h1 : z < n) (hn : n < 2147483648) : vp_in (Int32.ofInt z) n := by
  have hz : ga_rg z := ⟨by omega, by omega⟩
  rw [vp_in_iff, ga_toI hz]
  exact ⟨h0, h1⟩
theorem ga_tdiv_rg {a b : Int} (ha : ga_rg a) (hb0 : 0 < b) : ga_rg (a.tdiv b) := by
  have h := Int.natAbs_tdiv_le_natAbs a b
  have h3 : ¬ a.tdiv b = 2147483648 := by
    intro h4
    have h5 : a = -2147483648 := by omega
    subst h5
    have h7 : (-2147483648 : Int).tdiv b ≤ 0 := by
      have h8 : (-2147483648 : Int).tdiv b = -((2147483648 : Int).tdiv b) := by rw [← Int.neg_tdiv]
      have h9 : 0 ≤ (2147483648 : Int).tdiv b := Int.tdiv_nonneg (by omega) (by omega)
      omega
    omega
  constructor <;> omega
theorem ga_div {a b : Int} (ha : ga_rg a) (hb : ga_rg b) (hb0 : 0 < b) : Int32.ofInt a / Int32.ofInt b = Int32.ofInt (a.tdiv b) := by
  have h1 := ga_tdiv_rg ha hb0
  apply Int32.toInt_inj.mp
  rw [Int32.toInt_div, ga_toI ha, ga_toI hb, ga_toI h1]
  exact ga_bm h1.1 h1.2
theorem ga_rem {a b : Int} (ha : ga_rg a) (hb : ga_rg b) (hb0 : 0 < b) : Int32.ofInt a - Int32.ofInt a / Int32.ofInt b * Int32.ofInt b = Int32.ofInt (a.tmod b) := by
  rw [ga_div ha hb hb0, ga_omul, ga_osub, Int.tmod_def, Int.mul_comm]

def ga_wr (z : Int) : Int := (Int32.ofInt z).toInt
theorem ga_wr_eq {z : Int} (h : ga_rg z) : ga_wr z = z := ga_toI h
theorem ga_rg_wr (z : Int) : ga_rg (ga_wr z) := ga_rgI _
theorem ga_of_wr (z : Int) : Int32.ofInt (ga_wr z) = Int32.ofInt z := ga_of_I _
end
section
-- the classes: fields in the order of the slots
def R_Blend : String := "GainTables$Blend"
def R_Borders : String := "GainTables$Borders"
def R_History : String := "GainTables$History"
def R_Path : String := "GainTables$Path"
def R_State : String := "GainTables$State"
def R_Table : String := "GainTables$Table"
def R_Text : String := "GainTables$Text"
def R_GT : String := "GainTables"
def R_Mo : String := "GainTablesModel"
def T_Blend : u_T := fun k => match k with
  | 0 => ("GainTables$Blend", "low", "I", false)
  | 1 => ("GainTables$Blend", "high", "I", false)
  | 2 => ("GainTables$Blend", "numerator", "I", false)
  | _ => ("GainTables$Blend", "denominator", "I", false)
def y_Blend : Nat → FieldType := fun k => match k with
  | 0 => .int
  | 1 => .int
  | 2 => .int
  | _ => .int
theorem nm_Blend : ∀ a, a < 4 → ∀ b, b < 4 → a ≠ b → (T_Blend a).2.1 ≠ (T_Blend b).2.1 := by decide +kernel
theorem ty_Blend : ∀ k, k < 4 → parseFieldDescriptor (T_Blend k).2.2.1 = some (y_Blend k) := by decide +kernel
def T_Borders : u_T := fun k => match k with
  | 0 => ("GainTables$Borders", "size", "I", false)
  | 1 => ("GainTables$Borders", "positions", "[I", true)
  | 2 => ("GainTables$Borders", "kinds", "[I", true)
  | _ => ("GainTables$Borders", "reaches", "[I", true)
def y_Borders : Nat → FieldType := fun k => match k with
  | 0 => .int
  | 1 => .array .int
  | 2 => .array .int
  | _ => .array .int
theorem nm_Borders : ∀ a, a < 4 → ∀ b, b < 4 → a ≠ b → (T_Borders a).2.1 ≠ (T_Borders b).2.1 := by decide +kernel
theorem ty_Borders : ∀ k, k < 4 → parseFieldDescriptor (T_Borders k).2.2.1 = some (y_Borders k) := by decide +kernel
def T_History : u_T := fun k => match k with
  | 0 => ("GainTables$History", "size", "I", false)
  | 1 => ("GainTables$History", "first", "I", false)
  | _ => ("GainTables$History", "states", "[LGainTables$State;", true)
def y_History : Nat → FieldType := fun k => match k with
  | 0 => .int
  | 1 => .int
  | _ => .array (.object "GainTables$State")
theorem nm_History : ∀ a, a < 3 → ∀ b, b < 3 → a ≠ b → (T_History a).2.1 ≠ (T_History b).2.1 := by decide +kernel
theorem ty_History : ∀ k, k < 3 → parseFieldDescriptor (T_History k).2.2.1 = some (y_History k) := by decide +kernel
def T_Path : u_T := fun k => match k with
  | 0 => ("GainTables$Path", "size", "I", false)
  | 1 => ("GainTables$Path", "latest", "I", false)
  | _ => ("GainTables$Path", "parts", "[I", true)
def y_Path : Nat → FieldType := fun k => match k with
  | 0 => .int
  | 1 => .int
  | _ => .array .int
theorem nm_Path : ∀ a, a < 3 → ∀ b, b < 3 → a ≠ b → (T_Path a).2.1 ≠ (T_Path b).2.1 := by decide +kernel
theorem ty_Path : ∀ k, k < 3 → parseFieldDescriptor (T_Path k).2.2.1 = some (y_Path k) := by decide +kernel
def T_State : u_T := fun k => match k with
  | 0 => ("GainTables$State", "table", "LGainTables$Table;", true)
  | 1 => ("GainTables$State", "firstSnapshot", "LGainTables$Table;", true)
  | 2 => ("GainTables$State", "secondSnapshot", "LGainTables$Table;", true)
  | 3 => ("GainTables$State", "thirdSnapshot", "LGainTables$Table;", true)
  | 4 => ("GainTables$State", "taken", "[Z", true)
  | 5 => ("GainTables$State", "point", "[I", true)
  | 6 => ("GainTables$State", "zones", "[I", true)
  | 7 => ("GainTables$State", "margin", "I", false)
  | 8 => ("GainTables$State", "path", "LGainTables$Path;", true)
  | 9 => ("GainTables$State", "ignoredMoves", "I", false)
  | 10 => ("GainTables$State", "carriedOutMoves", "I", false)
  | 11 => ("GainTables$State", "steps", "[I", true)
  | 12 => ("GainTables$State", "budgets", "[I", true)
  | 13 => ("GainTables$State", "edits", "[I", true)
  | _ => ("GainTables$State", "accounts", "[I", true)
def y_State : Nat → FieldType := fun k => match k with
  | 0 => .object "GainTables$Table"
  | 1 => .object "GainTables$Table"
  | 2 => .object "GainTables$Table"
  | 3 => .object "GainTables$Table"
  | 4 => .array .boolean
  | 5 => .array .int
  | 6 => .array .int
  | 7 => .int
  | 8 => .object "GainTables$Path"
  | 9 => .int
  | 10 => .int
  | 11 => .array .int
  | 12 => .array .int
  | 13 => .array .int
  | _ => .array .int
theorem nm_State : ∀ a, a < 15 → ∀ b, b < 15 → a ≠ b → (T_State a).2.1 ≠ (T_State b).2.1 := by decide +kernel
theorem ty_State : ∀ k, k < 15 → parseFieldDescriptor (T_State k).2.2.1 = some (y_State k) := by decide +kernel
def T_Table : u_T := fun k => match k with
  | 0 => ("GainTables$Table", "columns", "LGainTables$Borders;", true)
  | 1 => ("GainTables$Table", "rows", "LGainTables$Borders;", true)
  | 2 => ("GainTables$Table", "gains", "[I", true)
  | _ => ("GainTables$Table", "locks", "[I", true)
def y_Table : Nat → FieldType := fun k => match k with
  | 0 => .object "GainTables$Borders"
  | 1 => .object "GainTables$Borders"
  | 2 => .array .int
  | _ => .array .int
theorem nm_Table : ∀ a, a < 4 → ∀ b, b < 4 → a ≠ b → (T_Table a).2.1 ≠ (T_Table b).2.1 := by decide +kernel
theorem ty_Table : ∀ k, k < 4 → parseFieldDescriptor (T_Table k).2.2.1 = some (y_Table k) := by decide +kernel
def T_Text : u_T := fun k => match k with
  | 0 => ("GainTables$Text", "length", "I", false)
  | 1 => ("GainTables$Text", "error", "I", false)
  | 2 => ("GainTables$Text", "next", "I", false)
  | _ => ("GainTables$Text", "characters", "[C", true)
def y_Text : Nat → FieldType := fun k => match k with
  | 0 => .int
  | 1 => .int
  | 2 => .int
  | _ => .array .char
theorem nm_Text : ∀ a, a < 4 → ∀ b, b < 4 → a ≠ b → (T_Text a).2.1 ≠ (T_Text b).2.1 := by decide +kernel
theorem ty_Text : ∀ k, k < 4 → parseFieldDescriptor (T_Text k).2.2.1 = some (y_Text k) := by decide +kernel
def T_GT : u_T := fun k => match k with
  | 0 => ("GainTables", "now", "LGainTables$State;", true)
  | 1 => ("GainTables", "history", "LGainTables$History;", true)
  | 2 => ("GainTables", "text", "LGainTables$Text;", true)
  | 3 => ("GainTables", "draft", "LGainTables$Table;", true)
  | 4 => ("GainTables", "trial", "LGainTables$Borders;", true)
  | 5 => ("GainTables", "across", "LGainTables$Blend;", true)
  | 6 => ("GainTables", "along", "LGainTables$Blend;", true)
  | 7 => ("GainTables", "valuesAhead", "[I", true)
  | _ => ("GainTables", "valuesBehind", "[I", true)
def y_GT : Nat → FieldType := fun k => match k with
  | 0 => .object "GainTables$State"
  | 1 => .object "GainTables$History"
  | 2 => .object "GainTables$Text"
  | 3 => .object "GainTables$Table"
  | 4 => .object "GainTables$Borders"
  | 5 => .object "GainTables$Blend"
  | 6 => .object "GainTables$Blend"
  | 7 => .array .int
  | _ => .array .int
theorem nm_GT : ∀ a, a < 9 → ∀ b, b < 9 → a ≠ b → (T_GT a).2.1 ≠ (T_GT b).2.1 := by decide +kernel
theorem ty_GT : ∀ k, k < 9 → parseFieldDescriptor (T_GT k).2.2.1 = some (y_GT k) := by decide +kernel
def T_Mo : u_T := fun k => match k with
  | 0 => ("GainTablesModel", "thrown", "I", false)
  | 1 => ("GainTablesModel", "s", "[I", true)
  | 2 => ("GainTablesModel", "aside", "[I", true)
  | 3 => ("GainTablesModel", "saved", "[I", true)
  | 4 => ("GainTablesModel", "savedMany", "I", false)
  | 5 => ("GainTablesModel", "text", "[I", true)
  | 6 => ("GainTablesModel", "length", "I", false)
  | 7 => ("GainTablesModel", "low", "[I", true)
  | 8 => ("GainTablesModel", "high", "[I", true)
  | 9 => ("GainTablesModel", "up", "[I", true)
  | 10 => ("GainTablesModel", "down", "[I", true)
  | 11 => ("GainTablesModel", "ahead", "[I", true)
  | 12 => ("GainTablesModel", "next", "I", false)
  | _ => ("GainTablesModel", "number", "I", false)
def y_Mo : Nat → FieldType := fun k => match k with
  | 0 => .int
  | 1 => .array .int
  | 2 => .array .int
  | 3 => .array .int
  | 4 => .int
  | 5 => .array .int
  | 6 => .int
  | 7 => .array .int
  | 8 => .array .int
  | 9 => .array .int
  | 10 => .array .int
  | 11 => .array .int
  | 12 => .int
  | _ => .int
theorem nm_Mo : ∀ a, a < 14 → ∀ b, b < 14 → a ≠ b → (T_Mo a).2.1 ≠ (T_Mo b).2.1 := by decide +kernel
theorem ty_Mo : ∀ k, k < 14 → parseFieldDescriptor (T_Mo k).2.2.1 = some (y_Mo k) := by decide +kernel
abbrev ga_cl : List vw_C := [(R_Blend, T_Blend, 4), (R_Borders, T_Borders, 4), (R_History, T_History, 3), (R_Path, T_Path, 3), (R_State, T_State, 15), (R_Table, T_Table, 4), (R_Text, T_Text, 4), (R_GT, T_GT, 9), (R_Mo, T_Mo, 14)]
/-- the shapes of the cells: objects (class, fields: an int, or the cell that it names), arrays of numbers (kind, length), the one array of references -/
def ga_shl : List ga_Sh := [
  .inl (7, [some 1, some 55, some 327, some 329, some 340, some 344, some 345, some 346, some 347]),
  .inl (4, [some 2, some 13, some 24, some 35, some 46, some 47, some 48, none, some 49, none, none, some 51, some 52, some 53, some 54]),
  .inl (5, [some 3, some 7, some 11, some 12]),
  .inl (1, [none, some 4, some 5, some 6]),
  .inr (.inl (0, 6)),
  .inr (.inl (0, 6)),
  .inr (.inl (0, 6)),
  .inl (1, [none, some 8, some 9, some 10]),
  .inr (.inl (0, 6)),
  .inr (.inl (0, 6)),
  .inr (.inl (0, 6)),
  .inr (.inl (0, 147)),
  .inr (.inl (0, 49)),
  .inl (5, [some 14, some 18, some 22, some 23]),
  .inl (1, [none, some 15, some 16, some 17]),
  .inr (.inl (0, 6)),
  .inr (.inl (0, 6)),
  .inr (.inl (0, 6)),
  .inl (1, [none, some 19, some 20, some 21]),
  .inr (.inl (0, 6)),
  .inr (.inl (0, 6)),
  .inr (.inl (0, 6)),
  .inr (.inl (0, 147)),
  .inr (.inl (0, 49)),
  .inl (5, [some 25, some 29, some 33, some 34]),
  .inl (1, [none, some 26, some 27, some 28]),
  .inr (.inl (0, 6)),
  .inr (.inl (0, 6)),
  .inr (.inl (0, 6)),
  .inl (1, [none, some 30, some 31, some 32]),
  .inr (.inl (0, 6)),
  .inr (.inl (0, 6)),
  .inr (.inl (0, 6)),
  .inr (.inl (0, 147)),
  .inr (.inl (0, 49)),
  .inl (5, [some 36, some 40, some 44, some 45]),
  .inl (1, [none, some 37, some 38, some 39]),
  .inr (.inl (0, 6)),
  .inr (.inl (0, 6)),
  .inr (.inl (0, 6)),
  .inl (1, [none, some 41, some 42, some 43]),
  .inr (.inl (0, 6)),
  .inr (.inl (0, 6)),
  .inr (.inl (0, 6)),
  .inr (.inl (0, 147)),
  .inr (.inl (0, 49)),
  .inr (.inl (1, 3)),
  .inr (.inl (0, 2)),
  .inr (.inl (0, 2)),
  .inl (3, [none, none, some 50]),
  .inr (.inl (0, 160)),
  .inr (.inl (0, 3)),
  .inr (.inl (0, 3)),
  .inr (.inl (0, 3)),
  .inr (.inl (0, 4)),
  .inl (2, [none, none, some 56]),
  .inr (.inr [57, 111, 165, 219, 273]),
  .inl (4, [some 58, some 69, some 80, some 91, some 102, some 103, some 104, none, some 105, none, none, some 107, some 108, some 109, some 110]),
  .inl (5, [some 59, some 63, some 67, some 68]),
  .inl (1, [none, some 60, some 61, some 62]),
  .inr (.inl (0, 6)),
  .inr (.inl (0, 6)),
  .inr (.inl (0, 6)),
  .inl (1, [none, some 64, some 65, some 66]),
  .inr (.inl (0, 6)),
  .inr (.inl (0, 6)),
  .inr (.inl (0, 6)),
  .inr (.inl (0, 147)),
  .inr (.inl (0, 49)),
  .inl (5, [some 70, some 74, some 78, some 79]),
  .inl (1, [none, some 71, some 72, some 73]),
  .inr (.inl (0, 6)),
  .inr (.inl (0, 6)),
  .inr (.inl (0, 6)),
  .inl (1, [none, some 75, some 76, some 77]),
  .inr (.inl (0, 6)),
  .inr (.inl (0, 6)),
  .inr (.inl (0, 6)),
  .inr (.inl (0, 147)),
  .inr (.inl (0, 49)),
  .inl (5, [some 81, some 85, some 89, some 90]),
  .inl (1, [none, some 82, some 83, some 84]),
  .inr (.inl (0, 6)),
  .inr (.inl (0, 6)),
  .inr (.inl (0, 6)),
  .inl (1, [none, some 86, some 87, some 88]),
  .inr (.inl (0, 6)),
  .inr (.inl (0, 6)),
  .inr (.inl (0, 6)),
  .inr (.inl (0, 147)),
  .inr (.inl (0, 49)),
  .inl (5, [some 92, some 96, some 100, some 101]),
  .inl (1, [none, some 93, some 94, some 95]),
  .inr (.inl (0, 6)),
  .inr (.inl (0, 6)),
  .inr (.inl (0, 6)),
  .inl (1, [none, some 97, some 98, some 99]),
  .inr (.inl (0, 6)),
  .inr (.inl (0, 6)),
  .inr (.inl (0, 6)),
  .inr (.inl (0, 147)),
  .inr (.inl (0, 49)),
  .inr (.inl (1, 3)),
  .inr (.inl (0, 2)),
  .inr (.inl (0, 2)),
  .inl (3, [none, none, some 106]),
  .inr (.inl (0, 160)),
  .inr (.inl (0, 3)),
  .inr (.inl (0, 3)),
  .inr (.inl (0, 3)),
  .inr (.inl (0, 4)),
  .inl (4, [some 112, some 123, some 134, some 145, some 156, some 157, some 158, none, some 159, none, none, some 161, some 162, some 163, some 164]),
  .inl (5, [some 113, some 117, some 121, some 122]),
  .inl (1, [none, some 114, some 115, some 116]),
  .inr (.inl (0, 6)),
  .inr (.inl (0, 6)),
  .inr (.inl (0, 6)),
  .inl (1, [none, some 118, some 119, some 120]),
  .inr (.inl (0, 6)),
  .inr (.inl (0, 6)),
  .inr (.inl (0, 6)),
  .inr (.inl (0, 147)),
  .inr (.inl (0, 49)),
  .inl (5, [some 124, some 128, some 132, some 133]),
  .inl (1, [none, some 125, some 126, some 127]),
  .inr (.inl (0, 6)),
  .inr (.inl (0, 6)),
  .inr (.inl (0, 6)),
  .inl (1, [none, some 129, some 130, some 131]),
  .inr (.inl (0, 6)),
  .inr (.inl (0, 6)),
  .inr (.inl (0, 6)),
  .inr (.inl (0, 147)),
  .inr (.inl (0, 49)),
  .inl (5, [some 135, some 139, some 143, some 144]),
  .inl (1, [none, some 136, some 137, some 138]),
  .inr (.inl (0, 6)),
  .inr (.inl (0, 6)),
  .inr (.inl (0, 6)),
  .inl (1, [none, some 140, some 141, some 142]),
  .inr (.inl (0, 6)),
  .inr (.inl (0, 6)),
  .inr (.inl (0, 6)),
  .inr (.inl (0, 147)),
  .inr (.inl (0, 49)),
  .inl (5, [some 146, some 150, some 154, some 155]),
  .inl (1, [none, some 147, some 148, some 149]),
  .inr (.inl (0, 6)),
  .inr (.inl (0, 6)),
  .inr (.inl (0, 6)),
  .inl (1, [none, some 151, some 152, some 153]),
  .inr (.inl (0, 6)),
  .inr (.inl (0, 6)),
  .inr (.inl (0, 6)),
  .inr (.inl (0, 147)),
  .inr (.inl (0, 49)),
  .inr (.inl (1, 3)),
  .inr (.inl (0, 2)),
  .inr (.inl (0, 2)),
  .inl (3, [none, none, some 160]),
  .inr (.inl (0, 160)),
  .inr (.inl (0, 3)),
  .inr (.inl (0, 3)),
  .inr (.inl (0, 3)),
  .inr (.inl (0, 4)),
  .inl (4, [some 166, some 177, some 188, some 199, some 210, some 211, some 212, none, some 213, none, none, some 215, some 216, some 217, some 218]),
  .inl (5, [some 167, some 171, some 175, some 176]),
  .inl (1, [none, some 168, some 169, some 170]),
  .inr (.inl (0, 6)),
  .inr (.inl (0, 6)),
  .inr (.inl (0, 6)),
  .inl (1, [none, some 172, some 173, some 174]),
  .inr (.inl (0, 6)),
  .inr (.inl (0, 6)),
  .inr (.inl (0, 6)),
  .inr (.inl (0, 147)),
  .inr (.inl (0, 49)),
  .inl (5, [some 178, some 182, some 186, some 187]),
  .inl (1, [none, some 179, some 180, some 181]),
  .inr (.inl (0, 6)),
  .inr (.inl (0, 6)),
  .inr (.inl (0, 6)),
  .inl (1, [none, some 183, some 184, some 185]),
  .inr (.inl (0, 6)),
  .inr (.inl (0, 6)),
  .inr (.inl (0, 6)),
  .inr (.inl (0, 147)),
  .inr (.inl (0, 49)),
  .inl (5, [some 189, some 193, some 197, some 198]),
  .inl (1, [none, some 190, some 191, some 192]),
  .inr (.inl (0, 6)),
  .inr (.inl (0, 6)),
  .inr (.inl (0, 6)),
  .inl (1, [none, some 194, some 195, some 196]),
  .inr (.inl (0, 6)),
  .inr (.inl (0, 6)),
  .inr (.inl (0, 6)),
  .inr (.inl (0, 147)),
  .inr (.inl (0, 49)),
  .inl (5, [some 200, some 204, some 208, some 209]),
  .inl (1, [none, some 201, some 202, some 203]),
  .inr (.inl (0, 6)),
  .inr (.inl (0, 6)),
  .inr (.inl (0, 6)),
  .inl (1, [none, some 205, some 206, some 207]),
  .inr (.inl (0, 6)),
  .inr (.inl (0, 6)),
  .inr (.inl (0, 6)),
  .inr (.inl (0, 147)),
  .inr (.inl (0, 49)),
  .inr (.inl (1, 3)),
  .inr (.inl (0, 2)),
  .inr (.inl (0, 2)),
  .inl (3, [none, none, some 214]),
  .inr (.inl (0, 160)),
  .inr (.inl (0, 3)),
  .inr (.inl (0, 3)),
  .inr (.inl (0, 3)),
  .inr (.inl (0, 4)),
  .inl (4, [some 220, some 231, some 242, some 253, some 264, some 265, some 266, none, some 267, none, none, some 269, some 270, some 271, some 272]),
  .inl (5, [some 221, some 225, some 229, some 230]),
  .inl (1, [none, some 222, some 223, some 224]),
  .inr (.inl (0, 6)),
  .inr (.inl (0, 6)),
  .inr (.inl (0, 6)),
  .inl (1, [none, some 226, some 227, some 228]),
  .inr (.inl (0, 6)),
  .inr (.inl (0, 6)),
  .inr (.inl (0, 6)),
  .inr (.inl (0, 147)),
  .inr (.inl (0, 49)),
  .inl (5, [some 232, some 236, some 240, some 241]),
  .inl (1, [none, some 233, some 234, some 235]),
  .inr (.inl (0, 6)),
  .inr (.inl (0, 6)),
  .inr (.inl (0, 6)),
  .inl (1, [none, some 237, some 238, some 239]),
  .inr (.inl (0, 6)),
  .inr (.inl (0, 6)),
  .inr (.inl (0, 6)),
  .inr (.inl (0, 147)),
  .inr (.inl (0, 49)),
  .inl (5, [some 243, some 247, some 251, some 252]),
  .inl (1, [none, some 244, some 245, some 246]),
  .inr (.inl (0, 6)),
  .inr (.inl (0, 6)),
  .inr (.inl (0, 6)),
  .inl (1, [none, some 248, some 249, some 250]),
  .inr (.inl (0, 6)),
  .inr (.inl (0, 6)),
  .inr (.inl (0, 6)),
  .inr (.inl (0, 147)),
  .inr (.inl (0, 49)),
  .inl (5, [some 254, some 258, some 262, some 263]),
  .inl (1, [none, some 255, some 256, some 257]),
  .inr (.inl (0, 6)),
  .inr (.inl (0, 6)),
  .inr (.inl (0, 6)),
  .inl (1, [none, some 259, some 260, some 261]),
  .inr (.inl (0, 6)),
  .inr (.inl (0, 6)),
  .inr (.inl (0, 6)),
  .inr (.inl (0, 147)),
  .inr (.inl (0, 49)),
  .inr (.inl (1, 3)),
  .inr (.inl (0, 2)),
  .inr (.inl (0, 2)),
  .inl (3, [none, none, some 268]),
  .inr (.inl (0, 160)),
  .inr (.inl (0, 3)),
  .inr (.inl (0, 3)),
  .inr (.inl (0, 3)),
  .inr (.inl (0, 4)),
  .inl (4, [some 274, some 285, some 296, some 307, some 318, some 319, some 320, none, some 321, none, none, some 323, some 324, some 325, some 326]),
  .inl (5, [some 275, some 279, some 283, some 284]),
  .inl (1, [none, some 276, some 277, some 278]),
  .inr (.inl (0, 6)),
  .inr (.inl (0, 6)),
  .inr (.inl (0, 6)),
  .inl (1, [none, some 280, some 281, some 282]),
  .inr (.inl (0, 6)),
  .inr (.inl (0, 6)),
  .inr (.inl (0, 6)),
  .inr (.inl (0, 147)),
  .inr (.inl (0, 49)),
  .inl (5, [some 286, some 290, some 294, some 295]),
  .inl (1, [none, some 287, some 288, some 289]),
  .inr (.inl (0, 6)),
  .inr (.inl (0, 6)),
  .inr (.inl (0, 6)),
  .inl (1, [none, some 291, some 292, some 293]),
  .inr (.inl (0, 6)),
  .inr (.inl (0, 6)),
  .inr (.inl (0, 6)),
  .inr (.inl (0, 147)),
  .inr (.inl (0, 49)),
  .inl (5, [some 297, some 301, some 305, some 306]),
  .inl (1, [none, some 298, some 299, some 300]),
  .inr (.inl (0, 6)),
  .inr (.inl (0, 6)),
  .inr (.inl (0, 6)),
  .inl (1, [none, some 302, some 303, some 304]),
  .inr (.inl (0, 6)),
  .inr (.inl (0, 6)),
  .inr (.inl (0, 6)),
  .inr (.inl (0, 147)),
  .inr (.inl (0, 49)),
  .inl (5, [some 308, some 312, some 316, some 317]),
  .inl (1, [none, some 309, some 310, some 311]),
  .inr (.inl (0, 6)),
  .inr (.inl (0, 6)),
  .inr (.inl (0, 6)),
  .inl (1, [none, some 313, some 314, some 315]),
  .inr (.inl (0, 6)),
  .inr (.inl (0, 6)),
  .inr (.inl (0, 6)),
  .inr (.inl (0, 147)),
  .inr (.inl (0, 49)),
  .inr (.inl (1, 3)),
  .inr (.inl (0, 2)),
  .inr (.inl (0, 2)),
  .inl (3, [none, none, some 322]),
  .inr (.inl (0, 160)),
  .inr (.inl (0, 3)),
  .inr (.inl (0, 3)),
  .inr (.inl (0, 3)),
  .inr (.inl (0, 4)),
  .inl (6, [none, none, none, some 328]),
  .inr (.inl (2, 160)),
  .inl (5, [some 330, some 334, some 338, some 339]),
  .inl (1, [none, some 331, some 332, some 333]),
  .inr (.inl (0, 6)),
  .inr (.inl (0, 6)),
  .inr (.inl (0, 6)),
  .inl (1, [none, some 335, some 336, some 337]),
  .inr (.inl (0, 6)),
  .inr (.inl (0, 6)),
  .inr (.inl (0, 6)),
  .inr (.inl (0, 147)),
  .inr (.inl (0, 49)),
  .inl (1, [none, some 341, some 342, some 343]),
  .inr (.inl (0, 6)),
  .inr (.inl (0, 6)),
  .inr (.inl (0, 6)),
  .inl (0, [none, none, none, none]),
  .inl (0, [none, none, none, none]),
  .inr (.inl (0, 3)),
  .inr (.inl (0, 3)),
  .inl (8, [none, some 349, some 350, some 351, none, some 352, none, some 353, some 354, some 355, some 356, some 357, none, none]),
  .inr (.inl (0, 1120)),
  .inr (.inl (0, 1120)),
  .inr (.inl (0, 5600)),
  .inr (.inl (0, 160)),
  .inr (.inl (0, 2)),
  .inr (.inl (0, 2)),
  .inr (.inl (0, 2)),
  .inr (.inl (0, 2)),
  .inr (.inl (0, 3))]
def ga_sh (k : Nat) : ga_Sh := ga_shl.getD k (.inr (.inl (0, 0)))
/-- the words that a callee may take over -/
def ga_T : List Cond := lw_tbl.filter goodWord
theorem ga_mem {w : Cond} (i : Nat) (h : lw_tbl[i]? = some w ∧ goodWord w = true) : w ∈ ga_T := List.mem_filter.mpr ⟨List.mem_of_getElem? h.1, h.2⟩
theorem ga_mems (ws : List Cond) (ps : List Nat) (hp : ws = ps.filterMap (fun i => lw_tbl[i]?) ∧ ws.all goodWord = true) : ∀ w ∈ ws, w ∈ ga_T := by
  intro w hw
  refine List.mem_filter.mpr ⟨?_, List.all_eq_true.mp hp.2 w hw⟩
  rw [hp.1] at hw
  obtain ⟨i, -, hi⟩ := List.mem_filterMap.mp hw
  exact List.mem_of_getElem? hi
theorem in_Blend : ∀ w ∈ u_ws R_Blend T_Blend 4, w ∈ ga_T := ga_mems _ [283, 285, 287, 289] (by decide +kernel)
theorem in_Borders : ∀ w ∈ u_ws R_Borders T_Borders 4, w ∈ ga_T := ga_mems _ [109, 111, 113, 115] (by decide +kernel)
theorem in_History : ∀ w ∈ u_ws R_History T_History 3, w ∈ ga_T := ga_mems _ [232, 234, 236] (by decide +kernel)
theorem in_Path : ∀ w ∈ u_ws R_Path T_Path 3, w ∈ ga_T := ga_mems _ [152, 154, 156] (by decide +kernel)
theorem in_State : ∀ w ∈ u_ws R_State T_State 15, w ∈ ga_T := ga_mems _ [188, 190, 192, 194, 196, 198, 200, 202, 204, 206, 208, 210, 212, 214, 216] (by decide +kernel)
theorem in_Table : ∀ w ∈ u_ws R_Table T_Table 4, w ∈ ga_T := ga_mems _ [133, 135, 137, 139] (by decide +kernel)
theorem in_Text : ∀ w ∈ u_ws R_Text T_Text 4, w ∈ ga_T := ga_mems _ [251, 253, 255, 257] (by decide +kernel)
theorem in_GT : ∀ w ∈ u_ws R_GT T_GT 9, w ∈ ga_T := ga_mems _ [301, 303, 305, 307, 309, 311, 313, 315, 317] (by decide +kernel)
theorem in_Mo : ∀ w ∈ u_ws R_Mo T_Mo 14, w ∈ ga_T := ga_mems _ [841, 843, 845, 847, 849, 851, 853, 855, 857, 859, 861, 863, 865, 867] (by decide +kernel)
-- the methods: name, bytes, locals, what they answer
abbrev mt_GT_init : ga_M := (⟨"GainTables", "<init>", "()V"⟩, prog_1_method_1_code, 1, none)
abbrev mt_State_init : ga_M := (⟨"GainTables$State", "<init>", "()V"⟩, prog_6_method_1_code, 1, none)
abbrev mt_Table_init : ga_M := (⟨"GainTables$Table", "<init>", "()V"⟩, prog_7_method_1_code, 1, none)
abbrev mt_Borders_init : ga_M := (⟨"GainTables$Borders", "<init>", "()V"⟩, prog_3_method_1_code, 1, none)
abbrev mt_Arr_fill : ga_M := (⟨"java/util/Arrays", "fill", "([II)V"⟩, prog_13_method_103_code, 4, none)
abbrev mt_Path_init : ga_M := (⟨"GainTables$Path", "<init>", "()V"⟩, prog_5_method_1_code, 1, none)
abbrev mt_History_init : ga_M := (⟨"GainTables$History", "<init>", "()V"⟩, prog_4_method_1_code, 2, none)
abbrev mt_Text_init : ga_M := (⟨"GainTables$Text", "<init>", "()V"⟩, prog_8_method_1_code, 1, none)
abbrev mt_Blend_init : ga_M := (⟨"GainTables$Blend", "<init>", "()V"⟩, prog_2_method_1_code, 1, none)
abbrev mt_GT_addBorder : ga_M := (⟨"GainTables", "addBorder", "(IIII)I"⟩, prog_1_method_2_code, 8, some .int)
abbrev mt_GT_isAxis : ga_M := (⟨"GainTables", "isAxis", "(I)Z"⟩, prog_1_method_33_code, 1, some .boolean)
abbrev mt_GT_isIn : ga_M := (⟨"GainTables", "isIn", "(III)Z"⟩, prog_1_method_32_code, 3, some .boolean)
abbrev mt_GT_isReach : ga_M := (⟨"GainTables", "isReach", "(II)Z"⟩, prog_1_method_38_code, 2, some .boolean)
abbrev mt_Borders_isInside : ga_M := (⟨"GainTables$Borders", "isInside", "(II)Z"⟩, prog_3_method_9_code, 2, some .boolean)
abbrev mt_Table_bordersOf : ga_M := (⟨"GainTables$Table", "bordersOf", "(I)LGainTables$Borders;"⟩, prog_7_method_4_code, 2, some (.object "GainTables$Borders"))
abbrev mt_Borders_isFree : ga_M := (⟨"GainTables$Borders", "isFree", "(III)Z"⟩, prog_3_method_10_code, 5, some .boolean)
abbrev mt_Borders_isFull : ga_M := (⟨"GainTables$Borders", "isFull", "()Z"⟩, prog_3_method_4_code, 1, some .boolean)
abbrev mt_History_keep : ga_M := (⟨"GainTables$History", "keep", "(LGainTables$State;)V"⟩, prog_4_method_2_code, 3, none)
abbrev mt_State_copyFrom : ga_M := (⟨"GainTables$State", "copyFrom", "(LGainTables$State;)V"⟩, prog_6_method_2_code, 3, none)
abbrev mt_Table_copyFrom : ga_M := (⟨"GainTables$Table", "copyFrom", "(LGainTables$Table;)V"⟩, prog_7_method_3_code, 2, none)
abbrev mt_Borders_copyFrom : ga_M := (⟨"GainTables$Borders", "copyFrom", "(LGainTables$Borders;)V"⟩, prog_3_method_2_code, 2, none)
abbrev mt_Path_copyFrom : ga_M := (⟨"GainTables$Path", "copyFrom", "(LGainTables$Path;)V"⟩, prog_5_method_2_code, 2, none)
abbrev mt_Table_sumOfGains : ga_M := (⟨"GainTables$Table", "sumOfGains", "()I"⟩, prog_7_method_12_code, 5, some .int)
abbrev mt_Table_regionAt : ga_M := (⟨"GainTables$Table", "regionAt", "(II)I"⟩, prog_7_method_6_code, 2, some .int)
abbrev mt_Table_gainAt : ga_M := (⟨"GainTables$Table", "gainAt", "(II)I"⟩, prog_7_method_7_code, 4, some .int)
abbrev mt_Table_splitAt : ga_M := (⟨"GainTables$Table", "splitAt", "(IIII)I"⟩, prog_7_method_14_code, 8, some .int)
abbrev mt_Borders_insert : ga_M := (⟨"GainTables$Borders", "insert", "(III)I"⟩, prog_3_method_18_code, 6, some .int)
abbrev mt_Borders_stripOf : ga_M := (⟨"GainTables$Borders", "stripOf", "(I)I"⟩, prog_3_method_11_code, 4, some .int)
abbrev mt_Borders_copyBorder : ga_M := (⟨"GainTables$Borders", "copyBorder", "(II)V"⟩, prog_3_method_20_code, 3, none)
abbrev mt_Table_copyStrip : ga_M := (⟨"GainTables$Table", "copyStrip", "(III)V"⟩, prog_7_method_16_code, 8, none)
abbrev mt_Table_putGain : ga_M := (⟨"GainTables$Table", "putGain", "(III)V"⟩, prog_7_method_8_code, 5, none)
abbrev mt_Table_lockAt : ga_M := (⟨"GainTables$Table", "lockAt", "(I)I"⟩, prog_7_method_9_code, 2, some .int)
abbrev mt_Table_putLock : ga_M := (⟨"GainTables$Table", "putLock", "(II)V"⟩, prog_7_method_10_code, 3, none)
abbrev mt_State_settleTable : ga_M := (⟨"GainTables$State", "settleTable", "(I)V"⟩, prog_6_method_7_code, 2, none)
abbrev mt_State_findZones : ga_M := (⟨"GainTables$State", "findZones", "()V"⟩, prog_6_method_6_code, 1, none)
abbrev mt_Borders_zoneOf : ga_M := (⟨"GainTables$Borders", "zoneOf", "(I)I"⟩, prog_3_method_13_code, 4, some .int)
abbrev mt_GT_removeBorder : ga_M := (⟨"GainTables", "removeBorder", "(II)I"⟩, prog_1_method_3_code, 4, some .int)
abbrev mt_GT_isBorder : ga_M := (⟨"GainTables", "isBorder", "(II)Z"⟩, prog_1_method_40_code, 3, some .boolean)
abbrev mt_Borders_has : ga_M := (⟨"GainTables$Borders", "has", "(I)Z"⟩, prog_3_method_3_code, 2, some .boolean)
abbrev mt_Table_mergeAt : ga_M := (⟨"GainTables$Table", "mergeAt", "(II)V"⟩, prog_7_method_15_code, 5, none)
abbrev mt_Borders_delete : ga_M := (⟨"GainTables$Borders", "delete", "(I)V"⟩, prog_3_method_19_code, 3, none)
abbrev mt_GT_setReach : ga_M := (⟨"GainTables", "setReach", "(III)I"⟩, prog_1_method_4_code, 7, some .int)
abbrev mt_Borders_positionOf : ga_M := (⟨"GainTables$Borders", "positionOf", "(I)I"⟩, prog_3_method_5_code, 2, some .int)
abbrev mt_Borders_kindOf : ga_M := (⟨"GainTables$Borders", "kindOf", "(I)I"⟩, prog_3_method_6_code, 2, some .int)
abbrev mt_Borders_reachOf : ga_M := (⟨"GainTables$Borders", "reachOf", "(I)I"⟩, prog_3_method_7_code, 2, some .int)
abbrev mt_Borders_putReach : ga_M := (⟨"GainTables$Borders", "putReach", "(II)V"⟩, prog_3_method_8_code, 3, none)
abbrev mt_GT_setOperator : ga_M := (⟨"GainTables", "setOperator", "(III)I"⟩, prog_1_method_5_code, 6, some .int)
abbrev mt_GT_isOperator : ga_M := (⟨"GainTables", "isOperator", "(I)Z"⟩, prog_1_method_36_code, 1, some .boolean)
abbrev mt_GT_edit : ga_M := (⟨"GainTables", "edit", "(IIIII)I"⟩, prog_1_method_6_code, 8, some .int)
abbrev mt_GT_isEdit : ga_M := (⟨"GainTables", "isEdit", "(IIIII)Z"⟩, prog_1_method_42_code, 6, some .boolean)
abbrev mt_GT_isRegion : ga_M := (⟨"GainTables", "isRegion", "(II)Z"⟩, prog_1_method_41_code, 3, some .boolean)
abbrev mt_GT_isGain : ga_M := (⟨"GainTables", "isGain", "(I)Z"⟩, prog_1_method_35_code, 1, some .boolean)
abbrev mt_State_reasonAgainst : ga_M := (⟨"GainTables$State", "reasonAgainst", "(IIII)I"⟩, prog_6_method_12_code, 7, some .int)
abbrev mt_Math_abs : ga_M := (⟨"java/lang/Math", "abs", "(I)I"⟩, prog_11_method_59_code, 1, some .int)
abbrev mt_State_carryOutEdit : ga_M := (⟨"GainTables$State", "carryOutEdit", "(IIII)V"⟩, prog_6_method_13_code, 6, none)
abbrev mt_GT_scale : ga_M := (⟨"GainTables", "scale", "(III)I"⟩, prog_1_method_7_code, 9, some .int)
abbrev mt_Math_min : ga_M := (⟨"java/lang/Math", "min", "(II)I"⟩, prog_11_method_69_code, 2, some .int)
abbrev mt_GT_lock : ga_M := (⟨"GainTables", "lock", "(IIII)I"⟩, prog_1_method_8_code, 7, some .int)
abbrev mt_Table_locksOf : ga_M := (⟨"GainTables$Table", "locksOf", "(I)I"⟩, prog_7_method_11_code, 5, some .int)
abbrev mt_GT_setMargin : ga_M := (⟨"GainTables", "setMargin", "(I)I"⟩, prog_1_method_9_code, 3, some .int)
abbrev mt_GT_move : ga_M := (⟨"GainTables", "move", "(II)I"⟩, prog_1_method_10_code, 3, some .int)
abbrev mt_GT_isCoordinate : ga_M := (⟨"GainTables", "isCoordinate", "(I)Z"⟩, prog_1_method_34_code, 1, some .boolean)
abbrev mt_GT_carryOutMove : ga_M := (⟨"GainTables", "carryOutMove", "(II)I"⟩, prog_1_method_44_code, 4, some .int)
abbrev mt_State_ignores : ga_M := (⟨"GainTables$State", "ignores", "(II)Z"⟩, prog_6_method_9_code, 3, some .boolean)
abbrev mt_GT_blendAtPoint : ga_M := (⟨"GainTables", "blendAtPoint", "()V"⟩, prog_1_method_45_code, 1, none)
abbrev mt_Blend_findIn : ga_M := (⟨"GainTables$Blend", "findIn", "(LGainTables$Borders;II)V"⟩, prog_2_method_2_code, 7, none)
abbrev mt_Borders_heldIn : ga_M := (⟨"GainTables$Borders", "heldIn", "(II)I"⟩, prog_3_method_15_code, 6, some .int)
abbrev mt_Math_max : ga_M := (⟨"java/lang/Math", "max", "(II)I"⟩, prog_11_method_65_code, 2, some .int)
abbrev mt_Borders_blendingAt : ga_M := (⟨"GainTables$Borders", "blendingAt", "(I)I"⟩, prog_3_method_16_code, 3, some .int)
abbrev mt_GT_noteValues : ga_M := (⟨"GainTables", "noteValues", "([I)V"⟩, prog_1_method_47_code, 3, none)
abbrev mt_GT_blendedValue : ga_M := (⟨"GainTables", "blendedValue", "(I)I"⟩, prog_1_method_46_code, 3, some .int)
abbrev mt_Table_numerator : ga_M := (⟨"GainTables$Table", "numerator", "(LGainTables$Blend;LGainTables$Blend;I)I"⟩, prog_7_method_13_code, 6, some .int)
abbrev mt_State_putPoint : ga_M := (⟨"GainTables$State", "putPoint", "(II)V"⟩, prog_6_method_10_code, 3, none)
abbrev mt_Borders_zoneAfter : ga_M := (⟨"GainTables$Borders", "zoneAfter", "(II)I"⟩, prog_3_method_14_code, 6, some .int)
abbrev mt_GT_greatestDifference : ga_M := (⟨"GainTables", "greatestDifference", "()I"⟩, prog_1_method_48_code, 3, some .int)
abbrev mt_State_noteEntry : ga_M := (⟨"GainTables$State", "noteEntry", "([II)V"⟩, prog_6_method_11_code, 4, none)
abbrev mt_Path_startEntry : ga_M := (⟨"GainTables$Path", "startEntry", "()V"⟩, prog_5_method_3_code, 1, none)
abbrev mt_Path_putPart : ga_M := (⟨"GainTables$Path", "putPart", "(II)V"⟩, prog_5_method_4_code, 4, none)
abbrev mt_GT_sweep : ga_M := (⟨"GainTables", "sweep", "(III)I"⟩, prog_1_method_11_code, 8, some .int)
abbrev mt_GT_placeTowards : ga_M := (⟨"GainTables", "placeTowards", "(III)I"⟩, prog_1_method_43_code, 3, some .int)
abbrev mt_GT_take : ga_M := (⟨"GainTables", "take", "(I)I"⟩, prog_1_method_12_code, 2, some .int)
abbrev mt_GT_isPlace : ga_M := (⟨"GainTables", "isPlace", "(I)Z"⟩, prog_1_method_37_code, 1, some .boolean)
abbrev mt_State_snapshotAt : ga_M := (⟨"GainTables$State", "snapshotAt", "(I)LGainTables$Table;"⟩, prog_6_method_3_code, 2, some (.object "GainTables$Table"))
abbrev mt_Table_regions : ga_M := (⟨"GainTables$Table", "regions", "()I"⟩, prog_7_method_5_code, 1, some .int)
abbrev mt_GT_restore : ga_M := (⟨"GainTables", "restore", "(I)I"⟩, prog_1_method_13_code, 2, some .int)
abbrev mt_State_replaceTable : ga_M := (⟨"GainTables$State", "replaceTable", "(LGainTables$Table;)V"⟩, prog_6_method_8_code, 3, none)
abbrev mt_GT_undo : ga_M := (⟨"GainTables", "undo", "()I"⟩, prog_1_method_14_code, 1, some .int)
abbrev mt_History_bringBack : ga_M := (⟨"GainTables$History", "bringBack", "(LGainTables$State;)V"⟩, prog_4_method_3_code, 3, none)
abbrev mt_GT_append : ga_M := (⟨"GainTables", "append", "(I)I"⟩, prog_1_method_15_code, 2, some .int)
abbrev mt_Text_put : ga_M := (⟨"GainTables$Text", "put", "(C)V"⟩, prog_8_method_2_code, 2, none)
abbrev mt_GT_clearText : ga_M := (⟨"GainTables", "clearText", "()I"⟩, prog_1_method_16_code, 2, some .int)
abbrev mt_GT_load : ga_M := (⟨"GainTables", "load", "()I"⟩, prog_1_method_17_code, 2, some .int)
abbrev mt_Text_readInto : ga_M := (⟨"GainTables$Text", "readInto", "(LGainTables$Table;)I"⟩, prog_8_method_3_code, 3, some .int)
abbrev mt_Table_clear : ga_M := (⟨"GainTables$Table", "clear", "()V"⟩, prog_7_method_2_code, 1, none)
abbrev mt_Text_peek : ga_M := (⟨"GainTables$Text", "peek", "()I"⟩, prog_8_method_9_code, 1, some .int)
abbrev mt_Text_characterAt : ga_M := (⟨"GainTables$Text", "characterAt", "(I)I"⟩, prog_8_method_10_code, 2, some .int)
abbrev mt_Text_readItem : ga_M := (⟨"GainTables$Text", "readItem", "(LGainTables$Table;)V"⟩, prog_8_method_4_code, 3, none)
abbrev mt_Text_readBorder : ga_M := (⟨"GainTables$Text", "readBorder", "(LGainTables$Table;I)V"⟩, prog_8_method_5_code, 8, none)
abbrev mt_Text_readNumber : ga_M := (⟨"GainTables$Text", "readNumber", "(II)I"⟩, prog_8_method_7_code, 7, some .int)
abbrev mt_Text_isDigit : ga_M := (⟨"GainTables$Text", "isDigit", "(I)Z"⟩, prog_8_method_11_code, 1, some .boolean)
abbrev mt_Text_readEndOfItem : ga_M := (⟨"GainTables$Text", "readEndOfItem", "()V"⟩, prog_8_method_8_code, 1, none)
abbrev mt_Text_readGain : ga_M := (⟨"GainTables$Text", "readGain", "(LGainTables$Table;)V"⟩, prog_8_method_6_code, 6, none)
abbrev mt_GT_count : ga_M := (⟨"GainTables", "count", "(I)I"⟩, prog_1_method_18_code, 2, some .int)
abbrev mt_State_placesTaken : ga_M := (⟨"GainTables$State", "placesTaken", "()I"⟩, prog_6_method_4_code, 3, some .int)
abbrev mt_GT_axis : ga_M := (⟨"GainTables", "axis", "(II)I"⟩, prog_1_method_19_code, 4, some .int)
abbrev mt_Borders_zones : ga_M := (⟨"GainTables$Borders", "zones", "()I"⟩, prog_3_method_12_code, 1, some .int)
abbrev mt_GT_border : ga_M := (⟨"GainTables", "border", "(III)I"⟩, prog_1_method_20_code, 5, some .int)
abbrev mt_GT_region : ga_M := (⟨"GainTables", "region", "(III)I"⟩, prog_1_method_21_code, 5, some .int)
abbrev mt_GT_operator : ga_M := (⟨"GainTables", "operator", "(II)I"⟩, prog_1_method_22_code, 3, some .int)
abbrev mt_GT_account : ga_M := (⟨"GainTables", "account", "(I)I"⟩, prog_1_method_23_code, 2, some .int)
abbrev mt_State_sumOfAccounts : ga_M := (⟨"GainTables$State", "sumOfAccounts", "()I"⟩, prog_6_method_5_code, 3, some .int)
abbrev mt_GT_gain : ga_M := (⟨"GainTables", "gain", "(II)I"⟩, prog_1_method_24_code, 3, some .int)
abbrev mt_GT_trail : ga_M := (⟨"GainTables", "trail", "(II)I"⟩, prog_1_method_25_code, 3, some .int)
abbrev mt_Path_partOf : ga_M := (⟨"GainTables$Path", "partOf", "(II)I"⟩, prog_5_method_5_code, 4, some .int)
abbrev mt_Math_floorMod : ga_M := (⟨"java/lang/Math", "floorMod", "(II)I"⟩, prog_11_method_50_code, 3, some .int)
abbrev mt_GT_refusal : ga_M := (⟨"GainTables", "refusal", "(IIIII)I"⟩, prog_1_method_26_code, 6, some .int)
abbrev mt_GT_effect : ga_M := (⟨"GainTables", "effect", "(II)I"⟩, prog_1_method_27_code, 5, some .int)
abbrev mt_GT_valueAt : ga_M := (⟨"GainTables", "valueAt", "(III)I"⟩, prog_1_method_28_code, 4, some .int)
abbrev mt_Blend_findByPosition : ga_M := (⟨"GainTables$Blend", "findByPosition", "(LGainTables$Borders;I)V"⟩, prog_2_method_3_code, 3, none)
abbrev mt_GT_chatter : ga_M := (⟨"GainTables", "chatter", "(IIII)I"⟩, prog_1_method_29_code, 6, some .int)
abbrev mt_GT_isSwing : ga_M := (⟨"GainTables", "isSwing", "(II)Z"⟩, prog_1_method_39_code, 2, some .boolean)
abbrev mt_Borders_zoneChanges : ga_M := (⟨"GainTables$Borders", "zoneChanges", "(IIII)I"⟩, prog_3_method_17_code, 10, some .int)
abbrev mt_GT_calmReach : ga_M := (⟨"GainTables", "calmReach", "(III)I"⟩, prog_1_method_30_code, 8, some .int)
abbrev mt_GT_steepest : ga_M := (⟨"GainTables", "steepest", "(III)I"⟩, prog_1_method_31_code, 11, some .int)
abbrev mt_Mo_init : ga_M := (⟨"GainTablesModel", "<init>", "()V"⟩, prog_10_method_1_code, 2, none)
abbrev mt_Mo_clearRegions : ga_M := (⟨"GainTablesModel", "clearRegions", "()V"⟩, prog_10_method_2_code, 3, none)
abbrev mt_Mo_addBorder : ga_M := (⟨"GainTablesModel", "addBorder", "(IIII)I"⟩, prog_10_method_36_code, 7, some .int)
abbrev mt_Mo_isAxis : ga_M := (⟨"GainTablesModel", "isAxis", "(I)Z"⟩, prog_10_method_10_code, 1, some .boolean)
abbrev mt_Mo_in : ga_M := (⟨"GainTablesModel", "in", "(III)Z"⟩, prog_10_method_4_code, 3, some .boolean)
abbrev mt_Mo_isReach : ga_M := (⟨"GainTablesModel", "isReach", "(II)Z"⟩, prog_10_method_29_code, 2, some .boolean)
abbrev mt_Mo_isInside : ga_M := (⟨"GainTablesModel", "isInside", "(II)Z"⟩, prog_10_method_30_code, 2, some .boolean)
abbrev mt_Mo_isOccupied : ga_M := (⟨"GainTablesModel", "isOccupied", "(IIII)Z"⟩, prog_10_method_31_code, 7, some .boolean)
abbrev mt_Mo_borders : ga_M := (⟨"GainTablesModel", "borders", "(I)I"⟩, prog_10_method_11_code, 2, some .int)
abbrev mt_Mo_ofBorder : ga_M := (⟨"GainTablesModel", "ofBorder", "(III)I"⟩, prog_10_method_12_code, 4, some .int)
abbrev mt_Mo_apart : ga_M := (⟨"GainTablesModel", "apart", "(II)I"⟩, prog_10_method_5_code, 2, some .int)
abbrev mt_Mo_act : ga_M := (⟨"GainTablesModel", "act", "()V"⟩, prog_10_method_6_code, 2, none)
abbrev mt_Mo_allGains : ga_M := (⟨"GainTablesModel", "allGains", "()I"⟩, prog_10_method_18_code, 4, some .int)
abbrev mt_Mo_at : ga_M := (⟨"GainTablesModel", "at", "(II)I"⟩, prog_10_method_15_code, 2, some .int)
abbrev mt_Mo_insert : ga_M := (⟨"GainTablesModel", "insert", "(IIII)I"⟩, prog_10_method_34_code, 8, some .int)
abbrev mt_Mo_setBorder : ga_M := (⟨"GainTablesModel", "setBorder", "(IIIII)V"⟩, prog_10_method_13_code, 7, none)
abbrev mt_Mo_copyStrip : ga_M := (⟨"GainTablesModel", "copyStrip", "(III)V"⟩, prog_10_method_33_code, 5, none)
abbrev mt_Mo_copyRegion : ga_M := (⟨"GainTablesModel", "copyRegion", "(IIII)V"⟩, prog_10_method_32_code, 6, none)
abbrev mt_Mo_settle : ga_M := (⟨"GainTablesModel", "settle", "(I)V"⟩, prog_10_method_35_code, 2, none)
abbrev mt_Mo_findZones : ga_M := (⟨"GainTablesModel", "findZones", "()V"⟩, prog_10_method_22_code, 1, none)
abbrev mt_Mo_zoneOf : ga_M := (⟨"GainTablesModel", "zoneOf", "(II)I"⟩, prog_10_method_21_code, 5, some .int)
abbrev mt_Mo_removeBorder : ga_M := (⟨"GainTablesModel", "removeBorder", "(II)I"⟩, prog_10_method_37_code, 6, some .int)
abbrev mt_Mo_isBorder : ga_M := (⟨"GainTablesModel", "isBorder", "(II)Z"⟩, prog_10_method_14_code, 3, some .boolean)
abbrev mt_Mo_setReach : ga_M := (⟨"GainTablesModel", "setReach", "(III)I"⟩, prog_10_method_38_code, 5, some .int)
abbrev mt_Mo_setOperator : ga_M := (⟨"GainTablesModel", "setOperator", "(III)I"⟩, prog_10_method_40_code, 6, some .int)
abbrev mt_Mo_isOperator : ga_M := (⟨"GainTablesModel", "isOperator", "(I)Z"⟩, prog_10_method_39_code, 1, some .boolean)
abbrev mt_Mo_edit : ga_M := (⟨"GainTablesModel", "edit", "(IIIII)I"⟩, prog_10_method_44_code, 7, some .int)
abbrev mt_Mo_isEdit : ga_M := (⟨"GainTablesModel", "isEdit", "(IIIII)Z"⟩, prog_10_method_43_code, 6, some .boolean)
abbrev mt_Mo_isRegion : ga_M := (⟨"GainTablesModel", "isRegion", "(II)Z"⟩, prog_10_method_16_code, 3, some .boolean)
abbrev mt_Mo_refusalOf : ga_M := (⟨"GainTablesModel", "refusalOf", "(IIIII)I"⟩, prog_10_method_41_code, 8, some .int)
abbrev mt_Mo_change : ga_M := (⟨"GainTablesModel", "change", "(IIIII)V"⟩, prog_10_method_42_code, 7, none)
abbrev mt_Mo_scale : ga_M := (⟨"GainTablesModel", "scale", "(III)I"⟩, prog_10_method_45_code, 8, some .int)
abbrev mt_Mo_lock : ga_M := (⟨"GainTablesModel", "lock", "(IIII)I"⟩, prog_10_method_47_code, 5, some .int)
abbrev mt_Mo_locksOf : ga_M := (⟨"GainTablesModel", "locksOf", "(I)I"⟩, prog_10_method_46_code, 5, some .int)
abbrev mt_Mo_setMargin : ga_M := (⟨"GainTablesModel", "setMargin", "(I)I"⟩, prog_10_method_48_code, 3, some .int)
abbrev mt_Mo_move : ga_M := (⟨"GainTablesModel", "move", "(II)I"⟩, prog_10_method_56_code, 3, some .int)
abbrev mt_Mo_isCoordinate : ga_M := (⟨"GainTablesModel", "isCoordinate", "(I)Z"⟩, prog_10_method_55_code, 1, some .boolean)
abbrev mt_Mo_moves : ga_M := (⟨"GainTablesModel", "moves", "(II)I"⟩, prog_10_method_54_code, 5, some .int)
abbrev mt_Mo_isIgnored : ga_M := (⟨"GainTablesModel", "isIgnored", "(II)Z"⟩, prog_10_method_49_code, 3, some .boolean)
abbrev mt_Mo_noteValues : ga_M := (⟨"GainTablesModel", "noteValues", "()V"⟩, prog_10_method_51_code, 2, none)
abbrev mt_Mo_locatePoint : ga_M := (⟨"GainTablesModel", "locatePoint", "()V"⟩, prog_10_method_25_code, 1, none)
abbrev mt_Mo_locate : ga_M := (⟨"GainTablesModel", "locate", "(III)V"⟩, prog_10_method_24_code, 10, none)
abbrev mt_Mo_sticky : ga_M := (⟨"GainTablesModel", "sticky", "(II)I"⟩, prog_10_method_19_code, 5, some .int)
abbrev mt_Mo_value : ga_M := (⟨"GainTablesModel", "value", "(I)I"⟩, prog_10_method_28_code, 2, some .int)
abbrev mt_Mo_numerator : ga_M := (⟨"GainTablesModel", "numerator", "(I)I"⟩, prog_10_method_27_code, 5, some .int)
abbrev mt_Mo_denominator : ga_M := (⟨"GainTablesModel", "denominator", "()I"⟩, prog_10_method_26_code, 1, some .int)
abbrev mt_Mo_goTo : ga_M := (⟨"GainTablesModel", "goTo", "(II)V"⟩, prog_10_method_53_code, 3, none)
abbrev mt_Mo_zoneBehind : ga_M := (⟨"GainTablesModel", "zoneBehind", "(III)I"⟩, prog_10_method_23_code, 6, some .int)
abbrev mt_Mo_jump : ga_M := (⟨"GainTablesModel", "jump", "()I"⟩, prog_10_method_52_code, 4, some .int)
abbrev mt_Mo_newEntry : ga_M := (⟨"GainTablesModel", "newEntry", "()I"⟩, prog_10_method_50_code, 2, some .int)
abbrev mt_Mo_sweep : ga_M := (⟨"GainTablesModel", "sweep", "(III)I"⟩, prog_10_method_57_code, 9, some .int)
abbrev mt_Mo_take : ga_M := (⟨"GainTablesModel", "take", "(I)I"⟩, prog_10_method_59_code, 4, some .int)
abbrev mt_Mo_isPlace : ga_M := (⟨"GainTablesModel", "isPlace", "(I)Z"⟩, prog_10_method_58_code, 1, some .boolean)
abbrev mt_Mo_regions : ga_M := (⟨"GainTablesModel", "regions", "()I"⟩, prog_10_method_17_code, 1, some .int)
abbrev mt_Mo_restore : ga_M := (⟨"GainTablesModel", "restore", "(I)I"⟩, prog_10_method_60_code, 5, some .int)
abbrev mt_Mo_undo : ga_M := (⟨"GainTablesModel", "undo", "()I"⟩, prog_10_method_61_code, 2, some .int)
abbrev mt_Mo_append : ga_M := (⟨"GainTablesModel", "append", "(I)I"⟩, prog_10_method_62_code, 2, some .int)
abbrev mt_Mo_clearText : ga_M := (⟨"GainTablesModel", "clearText", "()I"⟩, prog_10_method_63_code, 2, some .int)
abbrev mt_Mo_load : ga_M := (⟨"GainTablesModel", "load", "()I"⟩, prog_10_method_70_code, 4, some .int)
abbrev mt_Mo_hold : ga_M := (⟨"GainTablesModel", "hold", "()V"⟩, prog_10_method_7_code, 2, none)
abbrev mt_Mo_here : ga_M := (⟨"GainTablesModel", "here", "()I"⟩, prog_10_method_64_code, 1, some .int)
abbrev mt_Mo_readsItem : ga_M := (⟨"GainTablesModel", "readsItem", "()Z"⟩, prog_10_method_69_code, 3, some .boolean)
abbrev mt_Mo_readsGain : ga_M := (⟨"GainTablesModel", "readsGain", "()Z"⟩, prog_10_method_68_code, 5, some .boolean)
abbrev mt_Mo_reads : ga_M := (⟨"GainTablesModel", "reads", "(II)Z"⟩, prog_10_method_65_code, 7, some .boolean)
abbrev mt_Mo_takes : ga_M := (⟨"GainTablesModel", "takes", "(I)Z"⟩, prog_10_method_66_code, 3, some .boolean)
abbrev mt_Mo_readsBorder : ga_M := (⟨"GainTablesModel", "readsBorder", "(II)Z"⟩, prog_10_method_67_code, 6, some .boolean)
abbrev mt_Mo_release : ga_M := (⟨"GainTablesModel", "release", "()V"⟩, prog_10_method_8_code, 2, none)
abbrev mt_Mo_exchange : ga_M := (⟨"GainTablesModel", "exchange", "()V"⟩, prog_10_method_9_code, 3, none)
abbrev mt_Mo_count : ga_M := (⟨"GainTablesModel", "count", "(I)I"⟩, prog_10_method_72_code, 2, some .int)
abbrev mt_Mo_snapshots : ga_M := (⟨"GainTablesModel", "snapshots", "()I"⟩, prog_10_method_71_code, 1, some .int)
abbrev mt_Mo_axis : ga_M := (⟨"GainTablesModel", "axis", "(II)I"⟩, prog_10_method_73_code, 3, some .int)
abbrev mt_Mo_stickyMany : ga_M := (⟨"GainTablesModel", "stickyMany", "(I)I"⟩, prog_10_method_20_code, 4, some .int)
abbrev mt_Mo_border : ga_M := (⟨"GainTablesModel", "border", "(III)I"⟩, prog_10_method_74_code, 4, some .int)
abbrev mt_Mo_region : ga_M := (⟨"GainTablesModel", "region", "(III)I"⟩, prog_10_method_75_code, 5, some .int)
abbrev mt_Mo_operator : ga_M := (⟨"GainTablesModel", "operator", "(II)I"⟩, prog_10_method_76_code, 3, some .int)
abbrev mt_Mo_account : ga_M := (⟨"GainTablesModel", "account", "(I)I"⟩, prog_10_method_77_code, 2, some .int)
abbrev mt_Mo_gain : ga_M := (⟨"GainTablesModel", "gain", "(II)I"⟩, prog_10_method_78_code, 3, some .int)
abbrev mt_Mo_trail : ga_M := (⟨"GainTablesModel", "trail", "(II)I"⟩, prog_10_method_79_code, 3, some .int)
abbrev mt_Mo_refusal : ga_M := (⟨"GainTablesModel", "refusal", "(IIIII)I"⟩, prog_10_method_80_code, 6, some .int)
abbrev mt_Mo_effect : ga_M := (⟨"GainTablesModel", "effect", "(II)I"⟩, prog_10_method_81_code, 6, some .int)
abbrev mt_Mo_valueAt : ga_M := (⟨"GainTablesModel", "valueAt", "(III)I"⟩, prog_10_method_83_code, 4, some .int)
abbrev mt_Mo_valueThere : ga_M := (⟨"GainTablesModel", "valueThere", "(III)I"⟩, prog_10_method_82_code, 4, some .int)
abbrev mt_Mo_chatter : ga_M := (⟨"GainTablesModel", "chatter", "(IIII)I"⟩, prog_10_method_85_code, 5, some .int)
abbrev mt_Mo_chatters : ga_M := (⟨"GainTablesModel", "chatters", "(IIIII)I"⟩, prog_10_method_84_code, 10, some .int)
abbrev mt_Mo_calmReach : ga_M := (⟨"GainTablesModel", "calmReach", "(III)I"⟩, prog_10_method_86_code, 8, some .int)
abbrev mt_Mo_steepest : ga_M := (⟨"GainTablesModel", "steepest", "(III)I"⟩, prog_10_method_87_code, 9, some .int)
end
section
/-! the calculus: worlds, contexts, the judgement ga_W and its rows -/
def ga_cz (G : ga_G) : ga_V → Value
  | .inl z => .int (Int32.ofInt z)
  | .inr k => .ref (ga_ad G k)
def ga_f1 (G : ga_G) (I : ga_I) (k j : Nat) : Option Nat → Value
  | none => .int (Int32.ofInt (I k j))
  | some r => .ref (ga_ad G r)
def ga_fv (G : ga_G) (I : ga_I) (k : Nat) (fs : List (Option Nat)) : List Value := fs.mapIdx (fun j o => ga_f1 G I k j o)
def ga_ce (G : ga_G) (I : ga_I) (k : Nat) : ga_Sh → va_E
  | .inl (ci, fs) => .inr (ci, ga_fv G I k fs)
  | .inr (.inl (t, n)) => .inl (ga_cy G t, (n, .inl (fun j => Int32.ofInt (I k j))))
  | .inr (.inr ts) => .inl (ga_cy G 3, (ts.length, .inr (.inr (.inr (.inr (fun j => some (ga_ad G (ts.getD j 0))))))))
def ga_ws (G : ga_G) (I : ga_I) : va_W := (List.range 358).map (fun k => (ga_ad G k, ga_ce G I k (ga_sh k)))
theorem ga_ws_at (G : ga_G) (I : ga_I) {k : Nat} (hk : k < 358) : (ga_ws G I)[k]? = some (ga_ad G k, ga_ce G I k (ga_sh k)) := by
  unfold ga_ws
  rw [List.getElem?_map, List.getElem?_range hk]
  rfl
theorem ga_ws_ge (G : ga_G) (I : ga_I) {k : Nat} (hk : ¬ k < 358) : (ga_ws G I)[k]? = none := by
  unfold ga_ws
  rw [List.getElem?_map, List.getElem?_eq_none (by simpa using hk)]
  rfl
theorem ga_ws_set {G : ga_G} {I I' : ga_I} {k : Nat} {c : va_E} (hk : k < 358) (hc : ga_ce G I' k (ga_sh k) = c) (ho : ∀ q, q ≠ k → ga_ce G I' q (ga_sh q) = ga_ce G I q (ga_sh q)) : (ga_ws G I).set k (ga_ad G k, c) = ga_ws G I' := by
  apply List.ext_getElem?
  intro q
  by_cases hq : q < 358
  · rw [ga_ws_at G I' hq]
    by_cases e : k = q
    · subst e
      rw [List.getElem?_set_self (by simp [ga_ws]; omega), hc]
    · rw [List.getElem?_set_ne e, ga_ws_at G I hq, ho q (fun h => e h.symm)]
  · rw [ga_ws_ge G I' hq]
    rw [List.getElem?_eq_none (by simp [ga_ws]; omega)]
abbrev ga_ok (G : ga_G) : Prop := (∀ k, k < 358 → ga_ad G k = ga_ba G + k) ∧ ga_b G < ga_ba G ∧ ga_ad G 1000 = ga_b G
def ga_A (G : ga_G) : Nat → Prop := fun q => ga_ba G ≤ q
theorem ga_apart {G : ga_G} (h : ga_ok G) (I : ga_I) : va_D (ga_A G) (ga_ws G I) := by
  refine ⟨fun i j p q hi hj e => ?_, fun k q hk => ?_⟩
  · by_cases h1 : i < 358
    · by_cases h2 : j < 358
      · rw [ga_ws_at G I h1] at hi
        rw [ga_ws_at G I h2] at hj
        cases hi; cases hj
        have e1 : ga_ad G i = ga_ad G j := e
        rw [h.1 i h1, h.1 j h2] at e1
        omega
      · rw [ga_ws_ge G I h2] at hj; cases hj
    · rw [ga_ws_ge G I h1] at hi; cases hi
  · by_cases h1 : k < 358
    · rw [ga_ws_at G I h1] at hk
      cases hk
      show ga_ba G ≤ ga_ad G k
      rw [h.1 k h1]; omega
    · rw [ga_ws_ge G I h1] at hk; cases hk
def ga_ty (G : ga_G) : List (ClassId × FieldType) := [(ga_cy G 0, .int), (ga_cy G 1, .boolean), (ga_cy G 2, .char), (ga_cy G 3, .object "GainTables$State")]
def ga_RG (I : ga_I) : Prop := ∀ k j, ga_rg (I k j)
/-- the heap holds the world -/
abbrev ga_Wd (G : ga_G) (I : ga_I) (H : Heap) : Prop := va_P (ga_D G) ga_cl (ga_ws G I) H
def ga_has (G : ga_G) (n : Nat) (ls : Array Slot) (lst : List (Option ga_V)) : Prop := ls.size = n ∧ lst.length = n ∧ lv_wf ls ∧ ∀ (i : Nat) (v : ga_V), lst[i]? = some (some v) → ls[i]? = some (.val (ga_cz G v))
theorem ga_cat (G : ga_G) (v : ga_V) : (ga_cz G v).category = 1 := by
  cases v <;> rfl
def ga_lv (G : ga_G) (lst : List (Option ga_V)) : List (Nat × Value) := (List.range lst.length).filterMap (fun i => (lst.getD i none).map (fun v => (i, ga_cz G v)))
theorem ga_lv_mem {G : ga_G} {lst : List (Option ga_V)} {q : Nat × Value} : q ∈ ga_lv G lst ↔ ∃ i v, lst[i]? = some (some v) ∧ q = (i, ga_cz G v) := by
  unfold ga_lv
  rw [List.mem_filterMap]
  constructor
  · rintro ⟨i, hi, h⟩
    rw [List.mem_range] at hi
    rw [Option.map_eq_some_iff] at h
    obtain ⟨v, h1, h2⟩ := h
    refine ⟨i, v, ?_, h2.symm⟩
    rw [List.getD_eq_getElem?_getD] at h1
    rw [List.getElem?_eq_getElem hi] at h1 ⊢
    exact congrArg some h1
  · rintro ⟨i, v, h, rfl⟩
    have hi := (List.getElem?_eq_some_iff.mp h).1
    refine ⟨i, List.mem_range.mpr hi, ?_⟩
    rw [List.getD_eq_getElem?_getD, h]
    rfl
theorem ga_has_lv {G : ga_G} {n : Nat} {ls : Array Slot} {lst : List (Option ga_V)} (h : ga_has G n ls lst) : lv_has ls n (ga_lv G lst) := by
  refine ⟨h.1, h.2.2.1, fun q hq => ?_⟩
  obtain ⟨i, v, h1, rfl⟩ := ga_lv_mem.mp hq
  exact h.2.2.2 i v h1
theorem ga_has_set {G : ga_G} {n i : Nat} {ls ls' : Array Slot} {lst : List (Option ga_V)} {v : ga_V} (h : ga_has G n ls lst) (hi : i < lst.length) (h' : lv_has ls' n ((i, ga_cz G v) :: (ga_lv G lst).filter (fun q => !(q.1 == i) && !(q.1 + 1 == i && q.2.category == 2)))) : ga_has G n ls' (lst.set i (some v)) := by
  refine ⟨h'.1, by rw [List.length_set]; exact h.2.1, h'.2.1, fun j w hj => ?_⟩
  by_cases e : i = j
  · subst e
    rw [List.getElem?_set_self hi] at hj
    cases hj
    exact h'.2.2 _ List.mem_cons_self
  · rw [List.getElem?_set_ne e] at hj
    refine h'.2.2 (j, ga_cz G w) (List.mem_cons_of_mem _ (List.mem_filter.mpr ⟨ga_lv_mem.mpr ⟨j, w, hj, rfl⟩, ?_⟩))
    have e2 : ¬ j = i := fun q => e q.symm
    simp [ga_cat, e2]
/-- fewer locals are known -/
theorem ga_has_less {G : ga_G} {n : Nat} {ls : Array Slot} {lst lst' : List (Option ga_V)} (h : ga_has G n ls lst) (hl : lst'.length = lst.length) (hk : ∀ (i : Nat) (v : ga_V), lst'[i]? = some (some v) → lst[i]? = some (some v)) : ga_has G n ls lst' :=
  ⟨h.1, hl.trans h.2.1, h.2.2.1, fun i v hv => h.2.2.2 i v (hk i v hv)⟩
/-- the two links between nest mates that are calls of static methods -/
def ga_Nx (U : State) : Prop := va_Nw (.methodLinkNest "GainTables$Text" 108 mt_GT_isIn.1 "GainTables") U ∧ va_Nw (.methodLinkNest "GainTables$Text" 56 mt_GT_isReach.1 "GainTables") U
def ga_Ctx (G : ga_G) (d : Nat) (mt : ga_M) (p : Program) (R : Room) (s : State) (m : MethodId) (args : Array Value) (c : Code) (cells slots : Nat) : Prop :=
  p.tables.exec = Jvm.exec ∧ c.code = mt.2.1 ∧ c.maxLocals = mt.2.2.1 ∧ s.vm.findClass mt.1.cls = some m.cls ∧ (∀ w ∈ ga_T, w.before args s = true) ∧ va_K (ga_D G) ga_cl (ga_ty G) s ∧ va_X (ga_b G) (ga_L G) (ga_xs G) s s.heap ∧ ga_b G < s.heap.size ∧ ga_ok G ∧ (d ≤ R.frames ∧ 43 * d ≤ R.locals) ∧ cells ≤ R.cells ∧ slots ≤ R.slots ∧ ga_Nx s
def ga_fit (r : Option FieldType) (ins : Instr) (v : Option ga_V) : Prop :=
  (r = none ∧ ins = .return_ ∧ v = none) ∨ (r = some .int ∧ ins = .ireturn ∧ ∃ z, v = some (.inl z)) ∨ (r = some .boolean ∧ ins = .ireturn ∧ (v = some (.inl 0) ∨ v = some (.inl 1))) ∨ (∃ C, r = some (.object C) ∧ ins = .areturn ∧ ∃ k, v = some (.inr k))
def ga_Ret (G : ga_G) (mt : ga_M) (E : Option ga_V → ga_I → Prop) (p : Program) (e : Env) (R : Room) (s : State) (m : MethodId) (args : Array Value) (below : List Frame) (meth : Method) (c : Code) (cells slots : Nat) (Q : State → Prop) : Prop :=
  ∀ (pc : Nat) (ls : Array Slot) (H : Heap) (locs : List Loc) (I : ga_I) (v : Option ga_V) (ins : Instr), decode mt.2.1 pc = .ok (ins, 1) → ga_fit mt.2.2.2 ins v → E v I → ga_RG I → ga_Wd G I H → va_S (ga_A G) s.heap H locs → W p (ga_l G) e R s m args below meth c H locs cells slots Q (F0 m pc ls (v.toList.map (ga_cz G)))
/-- from this place of the method, in this state, it comes to its end with E -/
def ga_W (G : ga_G) (d : Nat) (mt : ga_M) (pc : Nat) (lst : List (Option ga_V)) (st : List ga_V) (I : ga_I) (E : Option ga_V → ga_I → Prop) : Prop :=
  ∀ (p : Program) (e : Env) (R : Room) (s : State) (m : MethodId) (args : Array Value) (below : List Frame) (meth : Method) (c : Code) (cells slots : Nat) (Q : State → Prop),
    ga_Ctx G d mt p R s m args c cells slots → ga_Ret G mt E p e R s m args below meth c cells slots Q → ga_RG I →
    ∀ (H : Heap) (locs : List Loc) (ls : Array Slot), ga_Wd G I H → va_S (ga_A G) s.heap H locs → ga_has G mt.2.2.1 ls lst → W p (ga_l G) e R s m args below meth c H locs cells slots Q (F0 m pc ls (st.map (ga_cz G)))
section GW
variable {G : ga_G} {d : Nat} {mt : ga_M} {pc : Nat} {lst : List (Option ga_V)} {st : List ga_V} {I : ga_I} {E : Option ga_V → ga_I → Prop}
theorem gw_RG (K : ga_RG I → ga_W G d mt pc lst st I E) : ga_W G d mt pc lst st I E := by
  intro p e R s m args below meth c cells slots Q C hr hI H locs ls hP hS hL
  exact K hI p e R s m args below meth c cells slots Q C hr hI H locs ls hP hS hL
theorem gw_less {lst' : List (Option ga_V)} (K : ga_W G d mt pc lst' st I E) (hl : lst'.length = lst.length) (hk : ∀ (i : Nat) (v : ga_V), lst'[i]? = some (some v) → lst[i]? = some (some v)) : ga_W G d mt pc lst st I E := by
  intro p e R s m args below meth c cells slots Q C hr hI H locs ls hP hS hL
  exact K p e R s m args below meth c cells slots Q C hr hI H locs ls hP hS (ga_has_less hL hl hk)
theorem gw_mono {E' : Option ga_V → ga_I → Prop} (h : ∀ v I', E' v I' → E v I') (K : ga_W G d mt pc lst st I E') : ga_W G d mt pc lst st I E := by
  intro p e R s m args below meth c cells slots Q C hr hI H locs ls hP hS hL
  exact K p e R s m args below meth c cells slots Q C (fun pc ls H locs I v ins h1 h2 h3 => hr pc ls H locs I v ins h1 h2 (h v I h3)) hI H locs ls hP hS hL
-- loads, constants, stores
theorem gw_iload_n {k : Fin 4} {z : Int} (i : Nat) (hd : decode mt.2.1 pc = .ok (.iload_n k, 1)) (hk : (k : Nat) = i) (hl : lst[i]? = some (some (.inl z))) (K : ga_W G d mt (pc + 1) lst (.inl z :: st) I E) : ga_W G d mt pc lst st I E := by
  intro p e R s m args below meth c cells slots Q C hr hI H locs ls hP hS hL
  exact lv_iload_n C.1 C.2.1 hd hk (hL.2.2.2 i _ hl) (K p e R s m args below meth c cells slots Q C hr hI H locs ls hP hS hL)
theorem gw_iload {z : Int} (i : Nat) (hd : decode mt.2.1 pc = .ok (.iload i, 2)) (hl : lst[i]? = some (some (.inl z))) (K : ga_W G d mt (pc + 2) lst (.inl z :: st) I E) : ga_W G d mt pc lst st I E := by
  intro p e R s m args below meth c cells slots Q C hr hI H locs ls hP hS hL
  exact lv_iload C.1 C.2.1 hd (hL.2.2.2 i _ hl) (K p e R s m args below meth c cells slots Q C hr hI H locs ls hP hS hL)
theorem gw_aload_n {k : Fin 4} {z : Nat} (i : Nat) (hd : decode mt.2.1 pc = .ok (.aload_n k, 1)) (hk : (k : Nat) = i) (hl : lst[i]? = some (some (.inr z))) (K : ga_W G d mt (pc + 1) lst (.inr z :: st) I E) : ga_W G d mt pc lst st I E := by
  intro p e R s m args below meth c cells slots Q C hr hI H locs ls hP hS hL
  exact lv_aload_n C.1 C.2.1 hd hk (hL.2.2.2 i _ hl) (K p e R s m args below meth c cells slots Q C hr hI H locs ls hP hS hL)
theorem gw_aload {z : Nat} (i : Nat) (hd : decode mt.2.1 pc = .ok (.aload i, 2)) (hl : lst[i]? = some (some (.inr z))) (K : ga_W G d mt (pc + 2) lst (.inr z :: st) I E) : ga_W G d mt pc lst st I E := by
  intro p e R s m args below meth c cells slots Q C hr hI H locs ls hP hS hL
  exact lv_aload C.1 C.2.1 hd (hL.2.2.2 i _ hl) (K p e R s m args below meth c cells slots Q C hr hI H locs ls hP hS hL)
theorem gw_iconst {n : Int} (hd : decode mt.2.1 pc = .ok (.iconst n, 1)) (K : ga_W G d mt (pc + 1) lst (.inl n :: st) I E) : ga_W G d mt pc lst st I E := by
  intro p e R s m args below meth c cells slots Q C hr hI H locs ls hP hS hL
  exact lv_iconst C.1 C.2.1 hd rfl (K p e R s m args below meth c cells slots Q C hr hI H locs ls hP hS hL)
theorem gw_bipush {n : Int} (hd : decode mt.2.1 pc = .ok (.bipush n, 2)) (hn : (Int8.ofInt n).toInt32 = Int32.ofInt n) (K : ga_W G d mt (pc + 2) lst (.inl n :: st) I E) : ga_W G d mt pc lst st I E := by
  intro p e R s m args below meth c cells slots Q C hr hI H locs ls hP hS hL
  exact lv_bipush C.1 C.2.1 hd hn (K p e R s m args below meth c cells slots Q C hr hI H locs ls hP hS hL)
theorem gw_sipush {n : Int} (hd : decode mt.2.1 pc = .ok (.sipush n, 3)) (hn : (Int16.ofInt n).toInt32 = Int32.ofInt n) (K : ga_W G d mt (pc + 3) lst (.inl n :: st) I E) : ga_W G d mt pc lst st I E := by
  intro p e R s m args below meth c cells slots Q C hr hI H locs ls hP hS hL
  exact lv_sipush C.1 C.2.1 hd hn (K p e R s m args below meth c cells slots Q C hr hI H locs ls hP hS hL)
theorem gw_ldc {idx : Nat} {x : Int32} {n : Int} (hd : decode mt.2.1 pc = .ok (.ldc idx, 2)) (hw : Cond.constant mt.1.cls idx x ∈ ga_T) (hn : x = Int32.ofInt n) (K : ga_W G d mt (pc + 2) lst (.inl n :: st) I E) : ga_W G d mt pc lst st I E := by
  intro p e R s m args below meth c cells slots Q C hr hI H locs ls hP hS hL
  subst hn
  exact lv_ldc C.1 C.2.1 C.2.2.2.1 (C.2.2.2.2.1 _ hw) hd (K p e R s m args below meth c cells slots Q C hr hI H locs ls hP hS hL)
theorem gw_istore_n {k : Fin 4} {z : Int} (i : Nat) {lst' : List (Option ga_V)} (hd : decode mt.2.1 pc = .ok (.istore_n k, 1)) (hk : (k : Nat) = i) (hi : i < lst.length) (hl : lst.set i (some (.inl z)) = lst') (K : ga_W G d mt (pc + 1) lst' st I E) : ga_W G d mt pc lst (.inl z :: st) I E := by
  intro p e R s m args below meth c cells slots Q C hr hI H locs ls hP hS hL
  subst hl
  exact lv_istore_n C.1 C.2.1 hd hk (ga_has_lv hL) (by rw [← hL.2.1]; exact hi) rfl (fun ls' h' => K p e R s m args below meth c cells slots Q C hr hI H locs ls' hP hS (ga_has_set (v := .inl z) hL hi h'))
theorem gw_istore {z : Int} (i : Nat) {lst' : List (Option ga_V)} (hd : decode mt.2.1 pc = .ok (.istore i, 2)) (hi : i < lst.length) (hl : lst.set i (some (.inl z)) = lst') (K : ga_W G d mt (pc + 2) lst' st I E) : ga_W G d mt pc lst (.inl z :: st) I E := by
  intro p e R s m args below meth c cells slots Q C hr hI H locs ls hP hS hL
  subst hl
  exact lv_istore C.1 C.2.1 hd (ga_has_lv hL) (by rw [← hL.2.1]; exact hi) rfl (fun ls' h' => K p e R s m args below meth c cells slots Q C hr hI H locs ls' hP hS (ga_has_set (v := .inl z) hL hi h'))
theorem gw_astore_n {k : Fin 4} {z : Nat} (i : Nat) {lst' : List (Option ga_V)} (hd : decode mt.2.1 pc = .ok (.astore_n k, 1)) (hk : (k : Nat) = i) (hi : i < lst.length) (hl : lst.set i (some (.inr z)) = lst') (K : ga_W G d mt (pc + 1) lst' st I E) : ga_W G d mt pc lst (.inr z :: st) I E := by
  intro p e R s m args below meth c cells slots Q C hr hI H locs ls hP hS hL
  subst hl
  exact lv_astore_n C.1 C.2.1 hd hk (ga_has_lv hL) (by rw [← hL.2.1]; exact hi) rfl (fun ls' h' => K p e R s m args below meth c cells slots Q C hr hI H locs ls' hP hS (ga_has_set (v := .inr z) hL hi h'))
theorem gw_astore {z : Nat} (i : Nat) {lst' : List (Option ga_V)} (hd : decode mt.2.1 pc = .ok (.astore i, 2)) (hi : i < lst.length) (hl : lst.set i (some (.inr z)) = lst') (K : ga_W G d mt (pc + 2) lst' st I E) : ga_W G d mt pc lst (.inr z :: st) I E := by
  intro p e R s m args below meth c cells slots Q C hr hI H locs ls hP hS hL
  subst hl
  exact lv_astore C.1 C.2.1 hd (ga_has_lv hL) (by rw [← hL.2.1]; exact hi) rfl (fun ls' h' => K p e R s m args below meth c cells slots Q C hr hI H locs ls' hP hS (ga_has_set (v := .inr z) hL hi h'))
theorem gw_iinc {z : Int} {n : Int} (i : Nat) {lst' : List (Option ga_V)} (hd : decode mt.2.1 pc = .ok (.iinc i n, 3)) (hv : lst[i]? = some (some (.inl z))) (hl : lst.set i (some (.inl (z + n))) = lst') (K : ga_W G d mt (pc + 3) lst' st I E) : ga_W G d mt pc lst st I E := by
  intro p e R s m args below meth c cells slots Q C hr hI H locs ls hP hS hL
  subst hl
  have hi : i < lst.length := (List.getElem?_eq_some_iff.mp hv).1
  obtain ⟨k, hk⟩ := List.getElem?_of_mem (ga_lv_mem (G := G).mpr ⟨i, _, hv, rfl⟩)
  exact lv_iinc C.1 C.2.1 hd (ga_has_lv hL) (k := k) hk (ga_oadd z n) (by rw [← hL.2.1]; exact hi) rfl (fun ls' h' => K p e R s m args below meth c cells slots Q C hr hI H locs ls' hP hS (ga_has_set (v := .inl (z + n)) hL hi h'))
-- arithmetic
theorem gw_iadd {a b : Int} (hd : decode mt.2.1 pc = .ok (.iadd, 1)) (K : ga_W G d mt (pc + 1) lst (.inl (a + b) :: st) I E) : ga_W G d mt pc lst (.inl b :: .inl a :: st) I E := by
  intro p e R s m args below meth c cells slots Q C hr hI H locs ls hP hS hL
  refine lv_iadd C.1 C.2.1 hd ?_
  rw [ga_oadd]
  exact K p e R s m args below meth c cells slots Q C hr hI H locs ls hP hS hL
theorem gw_isub {a b : Int} (hd : decode mt.2.1 pc = .ok (.isub, 1)) (K : ga_W G d mt (pc + 1) lst (.inl (a - b) :: st) I E) : ga_W G d mt pc lst (.inl b :: .inl a :: st) I E := by
  intro p e R s m args below meth c cells slots Q C hr hI H locs ls hP hS hL
  refine lv_isub C.1 C.2.1 hd ?_
  rw [ga_osub]
  exact K p e R s m args below meth c cells slots Q C hr hI H locs ls hP hS hL
theorem gw_imul {a b : Int} (hd : decode mt.2.1 pc = .ok (.imul, 1)) (K : ga_W G d mt (pc + 1) lst (.inl (a * b) :: st) I E) : ga_W G d mt pc lst (.inl b :: .inl a :: st) I E := by
  intro p e R s m args below meth c cells slots Q C hr hI H locs ls hP hS hL
  refine lv_imul C.1 C.2.1 hd ?_
  rw [ga_omul]
  exact K p e R s m args below meth c cells slots Q C hr hI H locs ls hP hS hL
theorem gw_ineg {a : Int} (hd : decode mt.2.1 pc = .ok (.ineg, 1)) (K : ga_W G d mt (pc + 1) lst (.inl (-a) :: st) I E) : ga_W G d mt pc lst (.inl a :: st) I E := by
  intro p e R s m args below meth c cells slots Q C hr hI H locs ls hP hS hL
  refine lv_ineg C.1 C.2.1 hd ?_
  rw [ga_oneg]
  exact K p e R s m args below meth c cells slots Q C hr hI H locs ls hP hS hL
theorem ga_ne0 {b : Int} (hb : ga_rg b) (hb0 : b ≠ 0) : ¬ Int32.ofInt b = 0 := fun h => hb0 ((ga_eq hb (b := 0) ⟨by omega, by omega⟩).mp h)
theorem gw_idiv {a b : Int} (hd : decode mt.2.1 pc = .ok (.idiv, 1)) (ha : ga_rg a) (hb : ga_rg b) (hb0 : 0 < b) (K : ga_W G d mt (pc + 1) lst (.inl (a.tdiv b) :: st) I E) : ga_W G d mt pc lst (.inl b :: .inl a :: st) I E := by
  intro p e R s m args below meth c cells slots Q C hr hI H locs ls hP hS hL
  refine lv_idiv C.1 C.2.1 hd (ga_ne0 hb (by omega)) ?_
  rw [ga_div ha hb hb0]
  exact K p e R s m args below meth c cells slots Q C hr hI H locs ls hP hS hL
theorem gw_irem {a b : Int} (hd : decode mt.2.1 pc = .ok (.irem, 1)) (ha : ga_rg a) (hb : ga_rg b) (hb0 : 0 < b) (K : ga_W G d mt (pc + 1) lst (.inl (a.tmod b) :: st) I E) : ga_W G d mt pc lst (.inl b :: .inl a :: st) I E := by
  intro p e R s m args below meth c cells slots Q C hr hI H locs ls hP hS hL
  refine lv_irem C.1 C.2.1 hd (ga_ne0 hb (by omega)) ?_
  rw [ga_rem ha hb hb0]
  exact K p e R s m args below meth c cells slots Q C hr hI H locs ls hP hS hL
theorem gw_i2c {a : Int} (hd : decode mt.2.1 pc = .ok (.i2c, 1)) (h0 : 0 ≤ a) (h1 : a < 65536) (K : ga_W G d mt (pc + 1) lst (.inl a :: st) I E) : ga_W G d mt pc lst (.inl a :: st) I E := by
  intro p e R s m args below meth c cells slots Q C hr hI H locs ls hP hS hL
  obtain ⟨n, rfl⟩ := Int.eq_ofNat_of_zero_le h0
  have e1 : Int32.ofInt ((n : Nat) : Int) = nI n := rfl
  refine lv_i2c C.1 C.2.1 hd (v := Int32.ofInt ((n : Nat) : Int)) ?_ (K p e R s m args below meth c cells slots Q C hr hI H locs ls hP hS hL)
  rw [e1, pk_char, pk_tn (by omega), Nat.mod_eq_of_lt (by omega)]
-- the stack
theorem gw_dup {v : ga_V} (hd : decode mt.2.1 pc = .ok (.dup, 1)) (K : ga_W G d mt (pc + 1) lst (v :: v :: st) I E) : ga_W G d mt pc lst (v :: st) I E := by
  intro p e R s m args below meth c cells slots Q C hr hI H locs ls hP hS hL
  exact lv_dup C.1 C.2.1 hd (ga_cat G v) (K p e R s m args below meth c cells slots Q C hr hI H locs ls hP hS hL)
theorem gw_dup2 {v w : ga_V} (hd : decode mt.2.1 pc = .ok (.dup2, 1)) (K : ga_W G d mt (pc + 1) lst (v :: w :: v :: w :: st) I E) : ga_W G d mt pc lst (v :: w :: st) I E := by
  intro p e R s m args below meth c cells slots Q C hr hI H locs ls hP hS hL
  exact lv_dup2_11 C.1 C.2.1 hd (ga_cat G v) (ga_cat G w) (K p e R s m args below meth c cells slots Q C hr hI H locs ls hP hS hL)
theorem gw_pop {v : ga_V} (hd : decode mt.2.1 pc = .ok (.pop, 1)) (K : ga_W G d mt (pc + 1) lst st I E) : ga_W G d mt pc lst (v :: st) I E := by
  intro p e R s m args below meth c cells slots Q C hr hI H locs ls hP hS hL
  exact lv_pop C.1 C.2.1 hd (ga_cat G v) (K p e R s m args below meth c cells slots Q C hr hI H locs ls hP hS hL)
-- branches
theorem gw_goto {off : Int} (tgt : Nat) (hd : decode mt.2.1 pc = .ok (.goto off, 3)) (ht : (pc : Int) + off = (tgt : Int)) (K : ga_W G d mt tgt lst st I E) : ga_W G d mt pc lst st I E := by
  intro p e R s m args below meth c cells slots Q C hr hI H locs ls hP hS hL
  exact lv_goto C.1 C.2.1 hd ht (K p e R s m args below meth c cells slots Q C hr hI H locs ls hP hS hL)
theorem gw_ifnull {k : Nat} {off : Int} (hd : decode mt.2.1 pc = .ok (.ifnull off, 3)) (K : ga_W G d mt (pc + 3) lst st I E) : ga_W G d mt pc lst (.inr k :: st) I E := by
  intro p e R s m args below meth c cells slots Q C hr hI H locs ls hP hS hL
  exact lv_ifnull C.1 C.2.1 hd (K p e R s m args below meth c cells slots Q C hr hI H locs ls hP hS hL)
end GW
theorem ga_z0 : (Int32.ofInt 0) = 0 := rfl
section GX
variable {G : ga_G} {d : Nat} {mt : ga_M} {pc : Nat} {lst : List (Option ga_V)} {st : List ga_V} {I : ga_I} {E : Option ga_V → ga_I → Prop}
theorem gw_icmp_eq {a b : Int} {off : Int} (tgt : Nat) (hd : decode mt.2.1 pc = .ok (.if_icmp .eq off, 3)) (ht : (pc : Int) + off = (tgt : Int)) (ha : ga_rg a) (hb : ga_rg b) (K1 : a = b → ga_W G d mt tgt lst st I E) (K2 : ¬ (a = b) → ga_W G d mt (pc + 3) lst st I E) : ga_W G d mt pc lst (.inl b :: .inl a :: st) I E := by
  intro p e R s m args below meth c cells slots Q C hr hI H locs ls hP hS hL
  refine lv_icmp_eq C.1 C.2.1 hd ht (fun h => K1 ((ga_eq ha hb).mp h) p e R s m args below meth c cells slots Q C hr hI H locs ls hP hS hL) (fun h => K2 (fun q => h ((ga_eq ha hb).mpr q)) p e R s m args below meth c cells slots Q C hr hI H locs ls hP hS hL)
theorem gw_if_eq {a : Int} {off : Int} (tgt : Nat) (hd : decode mt.2.1 pc = .ok (.ifCond .eq off, 3)) (ht : (pc : Int) + off = (tgt : Int)) (ha : ga_rg a) (K1 : a = 0 → ga_W G d mt tgt lst st I E) (K2 : ¬ (a = 0) → ga_W G d mt (pc + 3) lst st I E) : ga_W G d mt pc lst (.inl a :: st) I E := by
  intro p e R s m args below meth c cells slots Q C hr hI H locs ls hP hS hL
  have hz : ga_rg 0 := ⟨by omega, by omega⟩
  refine lv_if_eq C.1 C.2.1 hd ht (fun h => K1 ((ga_eq ha hz).mp h) p e R s m args below meth c cells slots Q C hr hI H locs ls hP hS hL) (fun h => K2 (fun q => h ((ga_eq ha hz).mpr q)) p e R s m args below meth c cells slots Q C hr hI H locs ls hP hS hL)
theorem gw_icmp_ne {a b : Int} {off : Int} (tgt : Nat) (hd : decode mt.2.1 pc = .ok (.if_icmp .ne off, 3)) (ht : (pc : Int) + off = (tgt : Int)) (ha : ga_rg a) (hb : ga_rg b) (K1 : a ≠ b → ga_W G d mt tgt lst st I E) (K2 : a = b → ga_W G d mt (pc + 3) lst st I E) : ga_W G d mt pc lst (.inl b :: .inl a :: st) I E := by
  intro p e R s m args below meth c cells slots Q C hr hI H locs ls hP hS hL
  refine lv_icmp_ne C.1 C.2.1 hd ht (fun h => K1 ((not_congr (ga_eq ha hb)).mp h) p e R s m args below meth c cells slots Q C hr hI H locs ls hP hS hL) (fun h => K2 ((ga_eq ha hb).mp h) p e R s m args below meth c cells slots Q C hr hI H locs ls hP hS hL)
theorem gw_if_ne {a : Int} {off : Int} (tgt : Nat) (hd : decode mt.2.1 pc = .ok (.ifCond .ne off, 3)) (ht : (pc : Int) + off = (tgt : Int)) (ha : ga_rg a) (K1 : a ≠ 0 → ga_W G d mt tgt lst st I E) (K2 : a = 0 → ga_W G d mt (pc + 3) lst st I E) : ga_W G d mt pc lst (.inl a :: st) I E := by
  intro p e R s m args below meth c cells slots Q C hr hI H locs ls hP hS hL
  have hz : ga_rg 0 := ⟨by omega, by omega⟩
  refine lv_if_ne C.1 C.2.1 hd ht (fun h => K1 ((not_congr (ga_eq ha hz)).mp h) p e R s m args below meth c cells slots Q C hr hI H locs ls hP hS hL) (fun h => K2 ((ga_eq ha hz).mp h) p e R s m args below meth c cells slots Q C hr hI H locs ls hP hS hL)
theorem gw_icmp_lt {a b : Int} {off : Int} (tgt : Nat) (hd : decode mt.2.1 pc = .ok (.if_icmp .lt off, 3)) (ht : (pc : Int) + off = (tgt : Int)) (ha : ga_rg a) (hb : ga_rg b) (K1 : a < b → ga_W G d mt tgt lst st I E) (K2 : ¬ (a < b) → ga_W G d mt (pc + 3) lst st I E) : ga_W G d mt pc lst (.inl b :: .inl a :: st) I E := by
  intro p e R s m args below meth c cells slots Q C hr hI H locs ls hP hS hL
  refine lv_icmp_lt C.1 C.2.1 hd ht (fun h => K1 ((ga_lt ha hb).mp h) p e R s m args below meth c cells slots Q C hr hI H locs ls hP hS hL) (fun h => K2 (fun q => h ((ga_lt ha hb).mpr q)) p e R s m args below meth c cells slots Q C hr hI H locs ls hP hS hL)
theorem gw_if_lt {a : Int} {off : Int} (tgt : Nat) (hd : decode mt.2.1 pc = .ok (.ifCond .lt off, 3)) (ht : (pc : Int) + off = (tgt : Int)) (ha : ga_rg a) (K1 : a < 0 → ga_W G d mt tgt lst st I E) (K2 : ¬ (a < 0) → ga_W G d mt (pc + 3) lst st I E) : ga_W G d mt pc lst (.inl a :: st) I E := by
  intro p e R s m args below meth c cells slots Q C hr hI H locs ls hP hS hL
  have hz : ga_rg 0 := ⟨by omega, by omega⟩
  refine lv_if_lt C.1 C.2.1 hd ht (fun h => K1 ((ga_lt ha hz).mp h) p e R s m args below meth c cells slots Q C hr hI H locs ls hP hS hL) (fun h => K2 (fun q => h ((ga_lt ha hz).mpr q)) p e R s m args below meth c cells slots Q C hr hI H locs ls hP hS hL)
theorem gw_icmp_ge {a b : Int} {off : Int} (tgt : Nat) (hd : decode mt.2.1 pc = .ok (.if_icmp .ge off, 3)) (ht : (pc : Int) + off = (tgt : Int)) (ha : ga_rg a) (hb : ga_rg b) (K1 : b ≤ a → ga_W G d mt tgt lst st I E) (K2 : ¬ (b ≤ a) → ga_W G d mt (pc + 3) lst st I E) : ga_W G d mt pc lst (.inl b :: .inl a :: st) I E := by
  intro p e R s m args below meth c cells slots Q C hr hI H locs ls hP hS hL
  refine lv_icmp_ge C.1 C.2.1 hd ht (fun h => K1 ((ga_le hb ha).mp h) p e R s m args below meth c cells slots Q C hr hI H locs ls hP hS hL) (fun h => K2 (fun q => h ((ga_le hb ha).mpr q)) p e R s m args below meth c cells slots Q C hr hI H locs ls hP hS hL)
theorem gw_if_ge {a : Int} {off : Int} (tgt : Nat) (hd : decode mt.2.1 pc = .ok (.ifCond .ge off, 3)) (ht : (pc : Int) + off = (tgt : Int)) (ha : ga_rg a) (K1 : 0 ≤ a → ga_W G d mt tgt lst st I E) (K2 : ¬ (0 ≤ a) → ga_W G d mt (pc + 3) lst st I E) : ga_W G d mt pc lst (.inl a :: st) I E := by
  intro p e R s m args below meth c cells slots Q C hr hI H locs ls hP hS hL
  have hz : ga_rg 0 := ⟨by omega, by omega⟩
  refine lv_if_ge C.1 C.2.1 hd ht (fun h => K1 ((ga_le hz ha).mp h) p e R s m args below meth c cells slots Q C hr hI H locs ls hP hS hL) (fun h => K2 (fun q => h ((ga_le hz ha).mpr q)) p e R s m args below meth c cells slots Q C hr hI H locs ls hP hS hL)
theorem gw_icmp_gt {a b : Int} {off : Int} (tgt : Nat) (hd : decode mt.2.1 pc = .ok (.if_icmp .gt off, 3)) (ht : (pc : Int) + off = (tgt : Int)) (ha : ga_rg a) (hb : ga_rg b) (K1 : b < a → ga_W G d mt tgt lst st I E) (K2 : ¬ (b < a) → ga_W G d mt (pc + 3) lst st I E) : ga_W G d mt pc lst (.inl b :: .inl a :: st) I E := by
  intro p e R s m args below meth c cells slots Q C hr hI H locs ls hP hS hL
  refine lv_icmp_gt C.1 C.2.1 hd ht (fun h => K1 ((ga_lt hb ha).mp h) p e R s m args below meth c cells slots Q C hr hI H locs ls hP hS hL) (fun h => K2 (fun q => h ((ga_lt hb ha).mpr q)) p e R s m args below meth c cells slots Q C hr hI H locs ls hP hS hL)
theorem gw_if_gt {a : Int} {off : Int} (tgt : Nat) (hd : decode mt.2.1 pc = .ok (.ifCond .gt off, 3)) (ht : (pc : Int) + off = (tgt : Int)) (ha : ga_rg a) (K1 : 0 < a → ga_W G d mt tgt lst st I E) (K2 : ¬ (0 < a) → ga_W G d mt (pc + 3) lst st I E) : ga_W G d mt pc lst (.inl a :: st) I E := by
  intro p e R s m args below meth c cells slots Q C hr hI H locs ls hP hS hL
  have hz : ga_rg 0 := ⟨by omega, by omega⟩
  refine lv_if_gt C.1 C.2.1 hd ht (fun h => K1 ((ga_lt hz ha).mp h) p e R s m args below meth c cells slots Q C hr hI H locs ls hP hS hL) (fun h => K2 (fun q => h ((ga_lt hz ha).mpr q)) p e R s m args below meth c cells slots Q C hr hI H locs ls hP hS hL)
theorem gw_icmp_le {a b : Int} {off : Int} (tgt : Nat) (hd : decode mt.2.1 pc = .ok (.if_icmp .le off, 3)) (ht : (pc : Int) + off = (tgt : Int)) (ha : ga_rg a) (hb : ga_rg b) (K1 : a ≤ b → ga_W G d mt tgt lst st I E) (K2 : ¬ (a ≤ b) → ga_W G d mt (pc + 3) lst st I E) : ga_W G d mt pc lst (.inl b :: .inl a :: st) I E := by
  intro p e R s m args below meth c cells slots Q C hr hI H locs ls hP hS hL
  refine lv_icmp_le C.1 C.2.1 hd ht (fun h => K1 ((ga_le ha hb).mp h) p e R s m args below meth c cells slots Q C hr hI H locs ls hP hS hL) (fun h => K2 (fun q => h ((ga_le ha hb).mpr q)) p e R s m args below meth c cells slots Q C hr hI H locs ls hP hS hL)
theorem gw_if_le {a : Int} {off : Int} (tgt : Nat) (hd : decode mt.2.1 pc = .ok (.ifCond .le off, 3)) (ht : (pc : Int) + off = (tgt : Int)) (ha : ga_rg a) (K1 : a ≤ 0 → ga_W G d mt tgt lst st I E) (K2 : ¬ (a ≤ 0) → ga_W G d mt (pc + 3) lst st I E) : ga_W G d mt pc lst (.inl a :: st) I E := by
  intro p e R s m args below meth c cells slots Q C hr hI H locs ls hP hS hL
  have hz : ga_rg 0 := ⟨by omega, by omega⟩
  refine lv_if_le C.1 C.2.1 hd ht (fun h => K1 ((ga_le ha hz).mp h) p e R s m args below meth c cells slots Q C hr hI H locs ls hP hS hL) (fun h => K2 (fun q => h ((ga_le ha hz).mpr q)) p e R s m args below meth c cells slots Q C hr hI H locs ls hP hS hL)
/-- the answer of a test as a number -/
def ga_bb (b : Bool) : Int := cond b 1 0
theorem ga_bb_01 (b : Bool) : ga_bb b = 0 ∨ ga_bb b = 1 := by cases b <;> simp [ga_bb]
theorem ga_bb_rg (b : Bool) : ga_rg (ga_bb b) := by cases b <;> simp [ga_bb, ga_rg]
theorem ga_bb_0 {b : Bool} : ga_bb b = 0 ↔ b = false := by cases b <;> simp [ga_bb]
theorem gw_ifb_eq {b : Bool} {off : Int} (tgt : Nat) (hd : decode mt.2.1 pc = .ok (.ifCond .eq off, 3)) (ht : (pc : Int) + off = (tgt : Int)) (K1 : b = false → ga_W G d mt tgt lst st I E) (K2 : b = true → ga_W G d mt (pc + 3) lst st I E) : ga_W G d mt pc lst (.inl (ga_bb b) :: st) I E := by
  refine gw_if_eq tgt hd ht (ga_bb_rg b) (fun h => K1 (ga_bb_0.mp h)) (fun h => K2 ?_)
  cases b
  · exact absurd (ga_bb_0.mpr rfl) h
  · rfl
theorem gw_ifb_ne {b : Bool} {off : Int} (tgt : Nat) (hd : decode mt.2.1 pc = .ok (.ifCond .ne off, 3)) (ht : (pc : Int) + off = (tgt : Int)) (K1 : b = true → ga_W G d mt tgt lst st I E) (K2 : b = false → ga_W G d mt (pc + 3) lst st I E) : ga_W G d mt pc lst (.inl (ga_bb b) :: st) I E := by
  refine gw_if_ne tgt hd ht (ga_bb_rg b) (fun h => K1 ?_) (fun h => K2 (ga_bb_0.mp h))
  cases b
  · exact absurd (ga_bb_0.mpr rfl) h
  · rfl
/-- what a place of the method has left of the locals' knowledge -/
def ga_lk : List (Option ga_V) → List (Option ga_V) → Prop
  | [], [] => True
  | none :: a, _ :: b => ga_lk a b
  | some v :: a, w :: b => w = some v ∧ ga_lk a b
  | _, _ => False
theorem ga_lk_ok : ∀ {a b : List (Option ga_V)}, ga_lk a b → a.length = b.length ∧ ∀ (i : Nat) (v : ga_V), a[i]? = some (some v) → b[i]? = some (some v)
  | [], [], _ => ⟨rfl, fun i v h => by simp at h⟩
  | none :: a, w :: b, h => by
    obtain ⟨h1, h2⟩ := ga_lk_ok (a := a) (b := b) h
    refine ⟨by simp [h1], fun i v hv => ?_⟩
    cases i with
    | zero => simp at hv
    | succ i => simpa using h2 i v (by simpa using hv)
  | some x :: a, w :: b, h => by
    obtain ⟨h1, h2⟩ := ga_lk_ok (a := a) (b := b) h.2
    refine ⟨by simp [h1], fun i v hv => ?_⟩
    cases i with
    | zero =>
      have e : x = v := by simpa using hv
      rw [h.1, e]; rfl
    | succ i => simpa using h2 i v (by simpa using hv)
  | [], _ :: _, h => h.elim
  | none :: _, [], h => h.elim
  | some _ :: _, [], h => h.elim
theorem gw_le {lst' : List (Option ga_V)} (K : ga_W G d mt pc lst' st I E) (h : ga_lk lst' lst) : ga_W G d mt pc lst st I E := gw_less K (ga_lk_ok h).1 (ga_lk_ok h).2
end GX
end
section
/-! the calculus: fields, arrays, calls -/
def ga_up (I : ga_I) (k j : Nat) (z : Int) : ga_I := fun a b => if a = k ∧ b = j then z else I a b
def ga_cp (I : ga_I) (ks kd sp dp n : Nat) : ga_I := fun a j => if a = kd ∧ dp ≤ j ∧ j < dp + n then I ks (sp + (j - dp)) else I a j
theorem ga_RG_up {I : ga_I} (h : ga_RG I) (k j : Nat) {z : Int} (hz : ga_rg z) : ga_RG (ga_up I k j z) := by
  intro a b
  unfold ga_up
  by_cases e : a = k ∧ b = j
  · rw [if_pos e]; exact hz
  · rw [if_neg e]; exact h a b
theorem ga_RG_cp {I : ga_I} (h : ga_RG I) (ks kd sp dp n : Nat) : ga_RG (ga_cp I ks kd sp dp n) := by
  intro a b
  unfold ga_cp
  by_cases e : a = kd ∧ dp ≤ b ∧ b < dp + n
  · rw [if_pos e]; exact h _ _
  · rw [if_neg e]; exact h a b
abbrev ga_obj (k ci : Nat) (fs : List (Option Nat)) : Prop := k < 358 ∧ ga_sh k = .inl (ci, fs)
abbrev ga_arr (k t n : Nat) : Prop := k < 358 ∧ ga_sh k = .inr (.inl (t, n))
def ga_shn : ga_Sh → Bool
  | .inr (.inl (_, n)) => decide (n < 100000)
  | .inr (.inr ts) => decide (ts.length < 100000)
  | .inl _ => true
theorem ga_shn_all : ga_shl.all ga_shn = true := by decide +kernel
theorem ga_shn_ok (s : ga_Sh) (h : s ∈ ga_shl) : ga_shn s = true := List.all_eq_true.mp ga_shn_all s h
theorem ga_sh_mem {k : Nat} (hk : k < 358) : ga_sh k ∈ ga_shl := by
  have hl : ga_shl.length = 358 := by decide +kernel
  unfold ga_sh
  rw [List.getD_eq_getElem?_getD, List.getElem?_eq_getElem (by omega)]
  exact List.getElem_mem _
theorem ga_arr_n {k t n : Nat} (h : ga_arr k t n) : n < 100000 := by
  have h1 := ga_shn_ok _ (ga_sh_mem h.1)
  rw [h.2] at h1
  exact of_decide_eq_true h1
/-- a field's link: the constant of a class, the field's class and place -/
def ga_FL (own : String) (idx ci j : Nat) : Prop := ∃ (C : String) (T : u_T) (N : Nat), ga_cl[ci]? = some (C, T, N) ∧ j < N ∧ (∀ w ∈ u_ws C T N, w ∈ ga_T) ∧ Cond.fieldLink own idx C (T j).2.1 (T j).2.2.1 ∈ ga_T ∧ (T j).1 = C
/-- a field of ints that may be written -/
def ga_FP (own : String) (idx ci j : Nat) : Prop := ∃ (C : String) (T : u_T) (N : Nat) (ty : Nat → FieldType), ga_cl[ci]? = some (C, T, N) ∧ j < N ∧ (∀ w ∈ u_ws C T N, w ∈ ga_T) ∧ Cond.fieldLink own idx C (T j).2.1 (T j).2.2.1 ∈ ga_T ∧ (T j).1 = C ∧ (∀ k, k < N → parseFieldDescriptor (T k).2.2.1 = some (ty k)) ∧ (∀ a, a < N → ∀ b, b < N → a ≠ b → (T a).2.1 ≠ (T b).2.1) ∧ (T j).2.2.2 = false ∧ parseFieldDescriptor (T j).2.2.1 = some .int
theorem ga_fv_at {G : ga_G} {I : ga_I} {k j : Nat} {fs : List (Option Nat)} {o : Option Nat} (h : fs[j]? = some o) : (ga_fv G I k fs)[j]? = some (ga_f1 G I k j o) := by
  unfold ga_fv
  rw [List.getElem?_mapIdx, h]
  rfl
theorem ga_fv_up {G : ga_G} {I : ga_I} {k j : Nat} {fs : List (Option Nat)} {z : Int} (h : fs[j]? = some none) : ga_fv G (ga_up I k j (ga_wr z)) k fs = (ga_fv G I k fs).set j (.int (Int32.ofInt z)) := by
  apply List.ext_getElem?
  intro q
  unfold ga_fv
  rw [List.getElem?_mapIdx]
  by_cases e : j = q
  · subst e
    have hj := (List.getElem?_eq_some_iff.mp h).1
    rw [List.getElem?_set_self (by rw [List.length_mapIdx]; exact hj), h]
    simp [ga_f1, ga_up, ga_of_wr]
  · rw [List.getElem?_set_ne e, List.getElem?_mapIdx]
    have e2 : ¬ q = j := fun x => e x.symm
    congr 1
    funext o
    cases o with
    | none => simp [ga_f1, ga_up, e2]
    | some r => rfl
theorem ga_ce_other {G : ga_G} {I I' : ga_I} {q : Nat} (s : ga_Sh) (h : ∀ j, I' q j = I q j) : ga_ce G I' q s = ga_ce G I q s := by
  unfold ga_ce
  have h2 : I' q = I q := funext h
  rcases s with ⟨ci, fs⟩ | ⟨t, n⟩ | ts
  · show Sum.inr (ci, ga_fv G I' q fs) = Sum.inr (ci, ga_fv G I q fs)
    have h3 : (fun j o => ga_f1 G I' q j o) = (fun j o => ga_f1 G I q j o) := by
      funext j o
      cases o <;> simp [ga_f1, h]
    unfold ga_fv
    rw [h3]
  · show Sum.inl (ga_cy G t, (n, Sum.inl (fun j => Int32.ofInt (I' q j)))) = Sum.inl (ga_cy G t, (n, Sum.inl (fun j => Int32.ofInt (I q j))))
    rw [h2]
  · rfl
section GH
variable {G : ga_G} {d : Nat} {mt : ga_M} {pc : Nat} {lst : List (Option ga_V)} {st : List ga_V} {I : ga_I} {E : Option ga_V → ga_I → Prop}
theorem gw_getI {idx ci j k : Nat} {fs : List (Option Nat)} (hd : decode mt.2.1 pc = .ok (.getfield idx, 3)) (hf : ga_FL mt.1.cls idx ci j) (ho : ga_obj k ci fs) (hj : fs[j]? = some none) (K : ga_W G d mt (pc + 3) lst (.inl (I k j) :: st) I E) : ga_W G d mt pc lst (.inr k :: st) I E := by
  intro p e R s m args below meth c cells slots Q C hr hI H locs ls hP hS hL
  obtain ⟨Cn, T, N, hc, hjN, hin, hl, hown⟩ := hf
  have he := ga_ws_at G I ho.1
  rw [ho.2] at he
  exact va_get C.1 C.2.1 (ref := Cn) C.2.2.2.2.1 hin C.2.2.2.1 C.2.2.2.2.2.1 hP k he hc j hjN (C.2.2.2.2.1 _ hl) (fun x hx => by rw [hown] at hx; exact hx) (ga_fv_at hj) hd (K p e R s m args below meth c cells slots Q C hr hI H locs ls hP hS hL)
theorem gw_getR {idx ci j k r : Nat} {fs : List (Option Nat)} (hd : decode mt.2.1 pc = .ok (.getfield idx, 3)) (hf : ga_FL mt.1.cls idx ci j) (ho : ga_obj k ci fs) (hj : fs[j]? = some (some r)) (K : ga_W G d mt (pc + 3) lst (.inr r :: st) I E) : ga_W G d mt pc lst (.inr k :: st) I E := by
  intro p e R s m args below meth c cells slots Q C hr hI H locs ls hP hS hL
  obtain ⟨Cn, T, N, hc, hjN, hin, hl, hown⟩ := hf
  have he := ga_ws_at G I ho.1
  rw [ho.2] at he
  exact va_get C.1 C.2.1 (ref := Cn) C.2.2.2.2.1 hin C.2.2.2.1 C.2.2.2.2.2.1 hP k he hc j hjN (C.2.2.2.2.1 _ hl) (fun x hx => by rw [hown] at hx; exact hx) (ga_fv_at hj) hd (K p e R s m args below meth c cells slots Q C hr hI H locs ls hP hS hL)
theorem gw_putI {idx ci j k : Nat} {fs : List (Option Nat)} {z : Int} (hd : decode mt.2.1 pc = .ok (.putfield idx, 3)) (hf : ga_FP mt.1.cls idx ci j) (ho : ga_obj k ci fs) (hj : fs[j]? = some none) (K : ga_W G d mt (pc + 3) lst st (ga_up I k j (ga_wr z)) E) : ga_W G d mt pc lst (.inl z :: .inr k :: st) I E := by
  intro p e R s m args below meth c cells slots Q C hr hI H locs ls hP hS hL
  obtain ⟨Cn, T, N, ty, hc, hjN, hin, hl, hown, hty, hnm, hfin, hpar⟩ := hf
  have he := ga_ws_at G I ho.1
  rw [ho.2] at he
  refine va_put C.1 C.2.1 (ref := Cn) C.2.2.2.2.1 hin ty hty hnm C.2.2.2.1 C.2.2.2.2.2.1 hP (ga_apart C.2.2.2.2.2.2.2.2.1 I) hS k he hc j hjN (C.2.2.2.2.1 _ hl) (fun x hx => by rw [hown] at hx; exact hx) hfin hpar (v := .int (Int32.ofInt z)) rfl rfl (by unfold ga_fv; rw [List.length_mapIdx]; exact (List.getElem?_eq_some_iff.mp hj).1) hd (fun H1 locs1 hP1 hD1 hS1 => ?_)
  rw [ga_ws_set (I' := ga_up I k j (ga_wr z)) ho.1 (by rw [ho.2]; show Sum.inr (ci, ga_fv G (ga_up I k j (ga_wr z)) k fs) = _; rw [ga_fv_up hj]) (fun q hq => ga_ce_other _ (fun b => by simp [ga_up, hq]))] at hP1
  exact K p e R s m args below meth c cells slots Q C hr (ga_RG_up hI k j (ga_rg_wr z)) H1 locs1 ls hP1 hS1 hL
theorem gw_iald {k n : Nat} {i : Int} (hd : decode mt.2.1 pc = .ok (.iaload, 1)) (ha : ga_arr k 0 n) (h0 : 0 ≤ i) (h1 : i < n) (K : ga_W G d mt (pc + 1) lst (.inl (I k i.toNat) :: st) I E) : ga_W G d mt pc lst (.inl i :: .inr k :: st) I E := by
  intro p e R s m args below meth c cells slots Q C hr hI H locs ls hP hS hL
  have he := ga_ws_at G I ha.1
  rw [ha.2] at he
  have hn := ga_arr_n ha
  refine va_iald C.1 C.2.1 C.2.2.2.2.2.1 hP k 0 he rfl (ga_in h0 h1 (by omega)) hd ?_
  rw [ga_nat ⟨by omega, by omega⟩]
  exact K p e R s m args below meth c cells slots Q C hr hI H locs ls hP hS hL
theorem gw_zald {k n : Nat} {i : Int} (hd : decode mt.2.1 pc = .ok (.baload, 1)) (ha : ga_arr k 1 n) (h0 : 0 ≤ i) (h1 : i < n) (K : ga_W G d mt (pc + 1) lst (.inl (I k i.toNat) :: st) I E) : ga_W G d mt pc lst (.inl i :: .inr k :: st) I E := by
  intro p e R s m args below meth c cells slots Q C hr hI H locs ls hP hS hL
  have he := ga_ws_at G I ha.1
  rw [ha.2] at he
  have hn := ga_arr_n ha
  refine va_zald C.1 C.2.1 C.2.2.2.2.2.1 hP k 1 he rfl (ga_in h0 h1 (by omega)) hd ?_
  rw [ga_nat ⟨by omega, by omega⟩]
  exact K p e R s m args below meth c cells slots Q C hr hI H locs ls hP hS hL
theorem gw_cald {k n : Nat} {i : Int} (hd : decode mt.2.1 pc = .ok (.caload, 1)) (ha : ga_arr k 2 n) (h0 : 0 ≤ i) (h1 : i < n) (K : ga_W G d mt (pc + 1) lst (.inl (I k i.toNat) :: st) I E) : ga_W G d mt pc lst (.inl i :: .inr k :: st) I E := by
  intro p e R s m args below meth c cells slots Q C hr hI H locs ls hP hS hL
  have he := ga_ws_at G I ha.1
  rw [ha.2] at he
  have hn := ga_arr_n ha
  refine va_cald C.1 C.2.1 C.2.2.2.2.2.1 hP k 2 he rfl (ga_in h0 h1 (by omega)) hd ?_
  rw [ga_nat ⟨by omega, by omega⟩]
  exact K p e R s m args below meth c cells slots Q C hr hI H locs ls hP hS hL
theorem gw_aald {k r : Nat} {ts : List Nat} {i : Int} (hd : decode mt.2.1 pc = .ok (.aaload, 1)) (hk : k < 358 ∧ ga_sh k = .inr (.inr ts)) (h0 : 0 ≤ i) (hr0 : ts[i.toNat]? = some r) (K : ga_W G d mt (pc + 1) lst (.inr r :: st) I E) : ga_W G d mt pc lst (.inl i :: .inr k :: st) I E := by
  intro p e R s m args below meth c cells slots Q C hr hI H locs ls hP hS hL
  have he := ga_ws_at G I hk.1
  rw [hk.2] at he
  have hn := ga_shn_ok _ (ga_sh_mem hk.1)
  rw [hk.2] at hn
  have hn : ts.length < 100000 := of_decide_eq_true hn
  have hi := (List.getElem?_eq_some_iff.mp hr0).1
  refine va_aldq C.1 C.2.1 C.2.2.2.2.2.1 hP k 3 he rfl (ga_in h0 (by omega) (by omega)) hd ?_
  rw [ga_nat ⟨by omega, by omega⟩]
  rw [List.getD_eq_getElem?_getD, hr0]
  exact K p e R s m args below meth c cells slots Q C hr hI H locs ls hP hS hL
theorem gw_alen {k t n : Nat} (hd : decode mt.2.1 pc = .ok (.arraylength, 1)) (ha : ga_arr k t n) (ht : t < 3) (K : ga_W G d mt (pc + 1) lst (.inl (n : Int) :: st) I E) : ga_W G d mt pc lst (.inr k :: st) I E := by
  intro p e R s m args below meth c cells slots Q C hr hI H locs ls hP hS hL
  have he := ga_ws_at G I ha.1
  rw [ha.2] at he
  have ht2 : ∃ ty, (ga_ty G)[t]? = some (ga_cy G t, ty) := by
    rcases (show t = 0 ∨ t = 1 ∨ t = 2 by omega) with rfl | rfl | rfl <;> exact ⟨_, rfl⟩
  obtain ⟨ty, hty⟩ := ht2
  exact va_alen C.1 C.2.1 C.2.2.2.2.2.1 hP k t he hty rfl hd (K p e R s m args below meth c cells slots Q C hr hI H locs ls hP hS hL)
theorem ga_arr_up {G : ga_G} {I : ga_I} {k n t : Nat} {i z : Int} {x : Int32} (ha : ga_arr k t n) (h0 : 0 ≤ i) (h1 : i < n) (hx : x = Int32.ofInt z) : (ga_ws G I).set k (ga_ad G k, .inl (ga_cy G t, n, .inl (upd (fun j => Int32.ofInt (I k j)) (Int32.ofInt i).toNatClampNeg x))) = ga_ws G (ga_up I k i.toNat (ga_wr z)) := by
  have hn := ga_arr_n ha
  refine ga_ws_set ha.1 ?_ (fun q hq => ga_ce_other _ (fun b => by simp [ga_up, hq]))
  rw [ha.2, ga_nat ⟨by omega, by omega⟩, hx]
  show Sum.inl (ga_cy G t, (n, Sum.inl (fun j => Int32.ofInt (ga_up I k i.toNat (ga_wr z) k j)))) = _
  congr 4
  funext j
  unfold upd ga_up
  by_cases e : j = i.toNat
  · rw [if_pos ⟨rfl, e⟩, if_pos e, ga_of_wr]
  · rw [if_neg (fun h => e h.2), if_neg e]
theorem gw_iast {k n : Nat} {i z : Int} (hd : decode mt.2.1 pc = .ok (.iastore, 1)) (ha : ga_arr k 0 n) (h0 : 0 ≤ i) (h1 : i < n) (K : ga_W G d mt (pc + 1) lst st (ga_up I k i.toNat (ga_wr z)) E) : ga_W G d mt pc lst (.inl z :: .inl i :: .inr k :: st) I E := by
  intro p e R s m args below meth c cells slots Q C hr hI H locs ls hP hS hL
  have he := ga_ws_at G I ha.1
  rw [ha.2] at he
  have hn := ga_arr_n ha
  refine va_iast C.1 C.2.1 C.2.2.2.2.2.1 hP (ga_apart C.2.2.2.2.2.2.2.2.1 I) hS k 0 he rfl (ga_in h0 h1 (by omega)) hd (fun H1 locs1 hP1 hD1 hS1 => ?_)
  rw [ga_arr_up ha h0 h1 rfl] at hP1
  exact K p e R s m args below meth c cells slots Q C hr (ga_RG_up hI k _ (ga_rg_wr z)) H1 locs1 ls hP1 hS1 hL
theorem gw_zast {k n : Nat} {i z : Int} (hd : decode mt.2.1 pc = .ok (.bastore, 1)) (ha : ga_arr k 1 n) (h0 : 0 ≤ i) (h1 : i < n) (hz : z = 0 ∨ z = 1) (K : ga_W G d mt (pc + 1) lst st (ga_up I k i.toNat (ga_wr z)) E) : ga_W G d mt pc lst (.inl z :: .inl i :: .inr k :: st) I E := by
  intro p e R s m args below meth c cells slots Q C hr hI H locs ls hP hS hL
  have he := ga_ws_at G I ha.1
  rw [ha.2] at he
  have hn := ga_arr_n ha
  refine va_zast C.1 C.2.1 C.2.2.2.2.2.1 hP (ga_apart C.2.2.2.2.2.2.2.2.1 I) hS k 1 he rfl (ga_in h0 h1 (by omega)) hd (fun H1 locs1 hP1 hD1 hS1 => ?_)
  rw [ga_arr_up (z := z) ha h0 h1 (by rcases hz with rfl | rfl <;> decide +kernel)] at hP1
  exact K p e R s m args below meth c cells slots Q C hr (ga_RG_up hI k _ (ga_rg_wr z)) H1 locs1 ls hP1 hS1 hL
theorem gw_cast {k n : Nat} {i z : Int} (hd : decode mt.2.1 pc = .ok (.castore, 1)) (ha : ga_arr k 2 n) (h0 : 0 ≤ i) (h1 : i < n) (hz0 : 0 ≤ z) (hz1 : z < 65536) (K : ga_W G d mt (pc + 1) lst st (ga_up I k i.toNat (ga_wr z)) E) : ga_W G d mt pc lst (.inl z :: .inl i :: .inr k :: st) I E := by
  intro p e R s m args below meth c cells slots Q C hr hI H locs ls hP hS hL
  have he := ga_ws_at G I ha.1
  rw [ha.2] at he
  have hn := ga_arr_n ha
  refine va_cast C.1 C.2.1 C.2.2.2.2.2.1 hP (ga_apart C.2.2.2.2.2.2.2.2.1 I) hS k 2 he rfl (ga_in h0 h1 (by omega)) hd (fun H1 locs1 hP1 hD1 hS1 => ?_)
  obtain ⟨q, rfl⟩ := Int.eq_ofNat_of_zero_le hz0
  have e1 : Int32.ofInt ((q : Nat) : Int) = nI q := rfl
  rw [ga_arr_up (z := ((q : Nat) : Int)) ha h0 h1 (by rw [e1, vp_nar_char]; have := pk_char (nI q); rw [pk_tn (by omega), Nat.mod_eq_of_lt (by omega)] at this; first | exact this | (rw [← this]; rfl))] at hP1
  exact K p e R s m args below meth c cells slots Q C hr (ga_RG_up hI k _ (ga_rg_wr _)) H1 locs1 ls hP1 hS1 hL
end GH
end
section
/-! the calculus: calls -/
def ga_rm (d : Nat) : Room := { frames := d, cells := 0, slots := 0, locals := 43 * d }
def ga_wm (mt : ga_M) : List Cond := .code mt.1 mt.2.1 mt.2.2.1 mt.2.2.2 :: ga_T
def ga_In (mt : ga_M) : Prop := Cond.code mt.1 mt.2.1 mt.2.2.1 mt.2.2.2 ∈ ga_T ∧ plainFor mt.1 = true ∧ mt.2.2.1 ≤ 24 ∧ Cond.initialized mt.1.cls ∈ ga_T ∧ (mt.1.cls ≠ "java/lang/invoke/MethodHandle" ∧ mt.1.cls ≠ "java/lang/invoke/VarHandle")
theorem ga_goodT : GoodIn ga_T ga_T := fun w hw => ⟨hw, good_of_word (List.mem_filter.mp hw).2⟩
theorem ga_goodM {mt : ga_M} (h : ga_In mt) : GoodIn ga_T (ga_wm mt) := fun w hw => by
  rcases List.mem_cons.mp hw with rfl | hw
  · exact ga_goodT _ h.1
  · exact ga_goodT _ hw
/-- what a call finds: the world, the classes, the script -/
def ga_pre (G : ga_G) (I : ga_I) (U : State) : Prop := ga_Wd G I U.heap ∧ va_K (ga_D G) ga_cl (ga_ty G) U ∧ va_X (ga_b G) (ga_L G) (ga_xs G) U U.heap ∧ ga_b G < U.heap.size ∧ ga_Nx U
def ga_Qc (G : ga_G) (E : Option ga_V → ga_I → Prop) : Array Value → State → Outcome → State → Prop := fun _ st oc t => (∃ (v : Option ga_V) (I' : ga_I), oc = .returned (v.map (ga_cz G)) ∧ E v I' ∧ ga_RG I' ∧ ga_Wd G I' t.heap) ∧ va_F (ga_A G) st t
def ga_en (n : Nat) (as : List ga_V) : List (Option ga_V) := as.map some ++ List.replicate (n - as.length) none
theorem ga_args_mem (G : ga_G) : ∀ (as : List ga_V) (k i : Nat) (v : ga_V), as[i]? = some v → (k + i, ga_cz G v) ∈ lv_args k (as.map (ga_cz G))
  | [], _, _, _, h => by simp at h
  | a :: as, k, 0, v, h => by
    have e : a = v := by simpa using h
    subst e
    simp [lv_args]
  | a :: as, k, i + 1, v, h => by
    have h2 := ga_args_mem G as (k + 1) i v (by simpa using h)
    have e : k + 1 + i = k + (i + 1) := by omega
    rw [e] at h2
    rw [List.map_cons, lv_args, if_neg (by rw [ga_cat]; decide)]
    exact List.mem_cons_of_mem _ h2
theorem ga_sl_len (G : ga_G) : ∀ as : List ga_V, (lg_sl (as.map (ga_cz G))).length = as.length
  | [] => by simp [lg_sl]
  | a :: as => by
    have h := ga_sl_len G as
    have hc : ¬ (ga_cz G a).category = 2 := by rw [ga_cat]; decide
    show (lg_sl (ga_cz G a :: as.map (ga_cz G))).length = _
    unfold lg_sl at h ⊢
    rw [List.flatMap_cons, List.length_append, h, if_neg hc]
    simp; omega
theorem ga_has_en {G : ga_G} {n : Nat} {as : List ga_V} (h : as.length ≤ n) : ga_has G n ((lg_sl (as.map (ga_cz G)) ++ List.replicate (n - (lg_sl (as.map (ga_cz G))).length) Slot.unset).toArray) (ga_en n as) := by
  have h1 := lv_entry (as.map (ga_cz G)) (n := n) (by rw [ga_sl_len]; exact h)
  refine ⟨h1.1, by simp [ga_en]; omega, h1.2.1, fun i v hv => ?_⟩
  unfold ga_en at hv
  by_cases hi : i < as.length
  · rw [List.getElem?_append_left (by simpa using hi), List.getElem?_map] at hv
    have hv2 : as[i]? = some v := by
      cases e : as[i]? with
      | none => rw [e] at hv; cases hv
      | some w => rw [e] at hv; exact Option.some.inj hv
    have h3 := ga_args_mem G as 0 i v hv2
    rw [Nat.zero_add] at h3
    exact h1.2.2 _ h3
  · rw [List.getElem?_append_right (by simpa using hi)] at hv
    have h4 := (List.mem_of_getElem? hv)
    have h5 := List.eq_of_mem_replicate h4
    cases h5
theorem ga_blind (G : ga_G) (I : ga_I) (av : List Value) : FrameBlind (va_Pc av (ga_pre G I)) := fun a U g mk q => by
  obtain ⟨q0, qP, qK, qX, qb, qn⟩ := q
  exact ⟨q0, qP, va_K.moved (u := U) (U := U.calling g mk a) (Vm.Alike.refl U.vm) qK, va_X.moved (u := U) (U := U.calling g mk a) (Vm.Alike.refl U.vm) qX, qb, ⟨va_Nw.same rfl (u := U) rfl qn.1, va_Nw.same rfl (u := U) rfl qn.2⟩⟩
theorem ga_X_kept {G : ga_G} (hok : ga_ok G) {s : State} {H : Heap} {locs : List Loc} (hX : va_X (ga_b G) (ga_L G) (ga_xs G) s s.heap) (hb : ga_b G < s.heap.size) (hS : va_S (ga_A G) s.heap H locs) : va_X (ga_b G) (ga_L G) (ga_xs G) s H :=
  hX.kept (hS.2.1 _ hb (fun h => by have := hok.2.1; unfold ga_A at h; omega))
/-- a contract out of a walk, also of a method of the JDK that is plain -/
theorem ga_ofW {l : Launch} {y : MethodName} {ws ws' : List Cond} {rm : Room} {Pc : Array Value → State → Prop} {Qc : Array Value → State → Outcome → State → Prop} {mc ms : Nat} {free : Addr → Prop} {cc : ByteArray} {maxL : Nat} {ret : Option FieldType}
    (hy : plainFor y = true) (hw : ws = Cond.code y cc maxL ret :: ws')
    (body : ∀ p e s m args below meth c s₁, BodyLoose p l y (headSpec ws rm) cc maxL ret e s m args below meth c s₁ → c.maxLocals = maxL → Pc args s →
      W p l e (headSpec ws rm).room s m args below meth c s.heap [] 0 0 (MQ below Qc args s mc ms free) (entryFrame m args maxL)) : Met l y ws rm Pc Qc mc ms free := by
  refine MetFree.of_bodySF (code := cc) (maxLocals := maxL) (ret := ret) hy ?_ ?_
  · intro args s m h hn
    obtain ⟨meth, c, h1, h2, h3, h4, h5, h6, -, -⟩ := Cond.code_spec hn (atoms_spec (ws := ws) h _ (by rw [hw]; exact List.mem_cons_self))
    exact ⟨meth, c, h1, h2, h3, h4, h5, h6⟩
  · intro p e s m args below meth c s₁ B hml hP _
    have hh0 : s₁.heap = s.heap := by rw [B.state]; rfl
    obtain ⟨t, a1, o, b1, b2, b3⟩ := body p e s m args below meth c s₁ B hml hP s₁ hh0 (Stand.of_body B)
    exact ⟨t, o, a1, b1, b2, ⟨b3.1, b3.2⟩⟩
/-- the contract of a method, out of its walk -/
theorem ga_met {G : ga_G} {d : Nat} {mt : ga_M} {as : List ga_V} {I : ga_I} {E : Option ga_V → ga_I → Prop} (hin : ga_In mt) (hok : ga_ok G) (hI : ga_RG I) (hn : as.length ≤ mt.2.2.1) (K : ga_W G d mt 0 (ga_en mt.2.2.1 as) [] I E) : Met (ga_l G) mt.1 (ga_wm mt) (ga_rm d) (va_Pc (as.map (ga_cz G)) (ga_pre G I)) (ga_Qc G E) 0 0 (ga_A G) := by
  refine ga_ofW (cc := mt.2.1) (maxL := mt.2.2.1) (ret := mt.2.2.2) hin.2.1 rfl ?_
  intro p e s m args below meth c s₁ B hml hv
  obtain ⟨rfl, hP, hK, hX, hbl, hNx⟩ := hv
  have hts := atoms_spec (ws := ga_wm mt) B.pre
  have hown : s.vm.findClass mt.1.cls = some m.cls := findClass_of_methodNamed B.named
  have hlocks := B.notSynchronized
  have hr := B.returns
  have C : ga_Ctx G d mt p (headSpec (ga_wm mt) (ga_rm d)).room s m (as.map (ga_cz G)).toArray c 0 0 := ⟨B.exec, B.bytes, hml, hown, fun w hw => hts w (List.mem_cons_of_mem _ hw), hK, hX, hbl, hok, ⟨Nat.le_refl _, Nat.le_refl _⟩, Nat.zero_le _, Nat.zero_le _, hNx⟩
  rw [lg_entry_eq]
  refine K p e _ s m _ below meth c 0 0 _ C ?_ hI s.heap [] _ hP va_S.rf (ga_has_en hn)
  intro pc ls H locs I' v ins hd hfit hE hI' hP' hS'
  have hq : ∀ t : State, t.heap = H → s.WarmedH t.vm → ga_Qc G E (as.map (ga_cz G)).toArray s (.returned (v.map (ga_cz G))) t := fun t ht hW => ⟨⟨v, I', rfl, hE, hI', by rw [ht]; exact hP'⟩, hS'.F ht⟩
  rcases hfit with ⟨h1, rfl, rfl⟩ | ⟨h1, rfl, z, rfl⟩ | ⟨h1, rfl, hz⟩ | ⟨Cn, h1, rfl, k, rfl⟩
  · exact W.vret B.exec B.bytes (hr.trans h1) hq hS'.2.2 hd
  · exact W.iret B.exec B.bytes (hr.trans h1) hq hS'.2.2 hd
  · rcases hz with rfl | rfl
    · exact W.zret B.exec B.bytes (hr.trans h1) (v := Int32.ofInt 0) (by decide +kernel) hq hS'.2.2 hd
    · exact W.zret B.exec B.bytes (hr.trans h1) (v := Int32.ofInt 1) (by decide +kernel) hq hS'.2.2 hd
  · exact W.aret B.exec B.bytes (hr.trans h1) (Or.inl ⟨_, rfl⟩) (Or.inr ⟨_, rfl⟩) hq hS'.2.2 hd
theorem ga_wNat : Cond.native arraycopyName ∈ ga_T := ga_mem 369 (by decide +kernel)
theorem ga_wStat : Cond.static arraycopyName ∈ ga_T := ga_mem 368 (by decide +kernel)
theorem ga_wIni : Cond.initialized "java/lang/System" ∈ ga_T := ga_mem 74 (by decide +kernel)
section GC
variable {G : ga_G} {d : Nat} {mt : ga_M} {pc : Nat} {lst : List (Option ga_V)} {st : List ga_V} {I : ga_I} {E : Option ga_V → ga_I → Prop}
/-- returns -/
theorem gw_return (hd : decode mt.2.1 pc = .ok (.return_, 1)) (hr : mt.2.2.2 = none) (h : E none I) : ga_W G d mt pc lst [] I E := by
  intro p e R s m args below meth c cells slots Q C hR hI H locs ls hP hS hL
  exact hR pc ls H locs I none _ hd (Or.inl ⟨hr, rfl, rfl⟩) h hI hP hS
theorem gw_ireturn {z : Int} (hd : decode mt.2.1 pc = .ok (.ireturn, 1)) (hr : mt.2.2.2 = some .int) (h : E (some (.inl z)) I) : ga_W G d mt pc lst [.inl z] I E := by
  intro p e R s m args below meth c cells slots Q C hR hI H locs ls hP hS hL
  exact hR pc ls H locs I (some (.inl z)) _ hd (Or.inr (Or.inl ⟨hr, rfl, z, rfl⟩)) h hI hP hS
theorem gw_zreturn {z : Int} (hd : decode mt.2.1 pc = .ok (.ireturn, 1)) (hr : mt.2.2.2 = some .boolean) (hz : z = 0 ∨ z = 1) (h : E (some (.inl z)) I) : ga_W G d mt pc lst [.inl z] I E := by
  intro p e R s m args below meth c cells slots Q C hR hI H locs ls hP hS hL
  exact hR pc ls H locs I (some (.inl z)) _ hd (Or.inr (Or.inr (Or.inl ⟨hr, rfl, by rcases hz with rfl | rfl; exact Or.inl rfl; exact Or.inr rfl⟩))) h hI hP hS
theorem gw_areturn {k : Nat} {Cn : String} (hd : decode mt.2.1 pc = .ok (.areturn, 1)) (hr : mt.2.2.2 = some (.object Cn)) (h : E (some (.inr k)) I) : ga_W G d mt pc lst [.inr k] I E := by
  intro p e R s m args below meth c cells slots Q C hR hI H locs ls hP hS hL
  exact hR pc ls H locs I (some (.inr k)) _ hd (Or.inr (Or.inr (Or.inr ⟨Cn, hr, rfl, k, rfl⟩))) h hI hP hS
/-- behind any call -/
theorem ga_back {p : Program} {e : Env} {R : Room} {s : State} {m : MethodId} {args : Array Value} {below : List Frame} {meth : Method} {c : Code} {cells slots : Nat} {Q : State → Prop} {H : Heap} {locs : List Loc} {ls : Array Slot} {st0 : List Value} {rest : List ga_V} {E' : Option ga_V → ga_I → Prop} {a : Array Value}
    (C : ga_Ctx G d mt p R s m args c cells slots) (hR : ga_Ret G mt E p e R s m args below meth c cells slots Q) (hS : va_S (ga_A G) s.heap H locs) (hL : ga_has G mt.2.2.1 ls lst)
    (hr : va_Run p (ga_l G) e R s m args below meth c H locs cells slots 0 0 (F0 m pc ls st0) (rest.map (ga_cz G)) (ga_Qc G E' a) (ga_A G)) (K : ∀ v I', E' v I' → ga_W G d mt (pc + 3) lst (v.toList ++ rest) I' E) : W p (ga_l G) e R s m args below meth c H locs cells slots Q (F0 m pc ls st0) := by
  intro T hT X
  obtain ⟨v, st₀, t, T', L, h0, X', hL', e1, e2, ⟨⟨r, I', hv, hE, hI', hP'⟩, hz, hk⟩, stp⟩ := hr T hT X
  cases hv
  rw [h0] at hz hk
  have hS1 : va_S (ga_A G) s.heap T'.heap (locs ++ L) := ⟨Nat.le_trans hS.1 (by rw [e1]; exact hz), fun q h1 h2 => by rw [e1, hk q (Nat.lt_of_lt_of_le h1 hS.1) h2]; exact hS.2.1 q h1 h2, fun q hq => by
      rcases List.mem_append.mp hq with h | h
      · exact hS.2.2 q h
      · exact hL' q h⟩
  obtain ⟨t2, a1, b1⟩ := K r I' hE p e R s m args below meth c cells slots Q C hR hI' T'.heap (locs ++ L) ls (by rw [e1]; exact hP') hS1 hL T' rfl X'
  refine ⟨t2, stp t2 ?_, b1⟩
  have e5 : (r.map (ga_cz G)).toList ++ rest.map (ga_cz G) = (r.toList ++ rest).map (ga_cz G) := by
    cases r <;> rfl
  rw [e5]
  exact a1
theorem ga_cats (G : ga_G) (l : List ga_V) : ((l.map (ga_cz G)).map fun v => v.category).sum = l.length := by
  induction l with
  | nil => rfl
  | cons a l ih => simp [ga_cat] at ih ⊢; omega
def ga_LV (own : String) (idx : Nat) (mt : ga_M) (n : Nat) : Prop := ga_In mt ∧ Cond.methodLink own idx mt.1 ∈ ga_T ∧ Cond.instanceMethod mt.1 ∈ ga_T ∧ Cond.selects mt.1.cls mt.1 mt.1 ∈ ga_T ∧ (parseMethodDescriptor mt.1.desc).map (fun d => d.parameters.length) = some n
def ga_LS (own : String) (idx : Nat) (mt : ga_M) (n : Nat) : Prop := ga_In mt ∧ Cond.methodLink own idx mt.1 ∈ ga_T ∧ Cond.static mt.1 ∈ ga_T ∧ (parseMethodDescriptor mt.1.desc).map (fun d => d.parameters.length) = some n
def ga_LN (own : String) (idx : Nat) (mt : ga_M) (n : Nat) : Prop := ga_In mt ∧ (∀ U, ga_Nx U → va_Nw (.methodLinkNest own idx mt.1 "GainTables") U) ∧ Cond.static mt.1 ∈ ga_T ∧ (parseMethodDescriptor mt.1.desc).map (fun d => d.parameters.length) = some n
theorem gw_invV {d' idx n k : Nat} {mt' : ga_M} {as rest : List ga_V} (hd : decode mt.2.1 pc = .ok (.invokevirtual idx, 3)) (hl : ga_LV mt.1.cls idx mt' n) (hk : k < 358 ∧ ∃ ci fs q, ga_sh k = .inl (ci, fs) ∧ ga_cl[ci]? = some q ∧ q.1 = mt'.1.cls) (hn : as.length = n) (hn2 : as.length + 1 ≤ mt'.2.2.1) (hrs : rest.length ≤ 8) (hdd : d' + 1 = d) (hst : as.reverse ++ .inr k :: rest = st)
    (K : ga_W G d' mt' 0 (ga_en mt'.2.2.1 (.inr k :: as)) [] I (fun v I' => ga_W G d mt (pc + 3) lst (v.toList ++ rest) I' E)) : ga_W G d mt pc lst st I E := by
  intro p e R s m args below meth c cells slots Q C hR hI H locs ls hP hS hL
  subst hdd; subst hst
  obtain ⟨hin, hml, him, hse, hpar⟩ := hl
  obtain ⟨hk1, ci, fs, q, hsh, hcl, hq⟩ := hk
  have he := ga_ws_at G I hk1
  rw [hsh] at he
  obtain ⟨hx, hb, hm, hown, hts, hK, hX, hbl, hok, hroom, hce, hsl, hNx⟩ := id C
  have hM := ga_met (d := d') hin hok hI (as := .inr k :: as) (by simpa using hn2) K
  have cw : CallW R s args mt.1.cls mt'.1.cls idx mt'.1 mt'.2.1 mt'.2.2.1 mt'.2.2.2 (ga_wm mt') (ga_rm d') 0 0 n := by
    refine ⟨callB_of n hts (ga_goodM hin) rfl rfl rfl (hts _ hin.2.2.2.1) (hts _ hml) ⟨hin.2.2.2.2.1, hin.2.2.2.2.2, hpar⟩ ⟨hroom.1, ?_⟩, hts _ him, hts _ hse⟩
    have h1 := hroom.2
    have h2 := hin.2.2.1
    show 8 + (mt'.2.2.1 + 11) + 43 * d' ≤ R.locals
    omega
  have hrecv : ∃ cellB : Cell, H[ga_ad G k]? = some cellB ∧ cellB.vm.isStatics = false ∧ s.vm.findClass mt'.1.cls = some cellB.cls := by
    have h := va_recv hK hP hcl he
    rw [hq] at h
    exact h
  have hst0 : ((as.reverse ++ .inr k :: rest).map (ga_cz G)) = (as.map (ga_cz G)).reverse ++ .ref (ga_ad G k) :: rest.map (ga_cz G) := by simp [ga_cz]
  rw [hst0]
  refine ga_back C hR hS hL (va_runV (As := as.map (ga_cz G)) ⟨hx, hb, hm, hown, hts⟩ hM cw ⟨ga_blind G I _, hrecv, fun U hU hW => ⟨rfl, by rw [hU]; exact hP, va_K.moved hW.alike hK, by rw [hU]; exact va_X.moved hW.alike (ga_X_kept hok hX hbl hS), by rw [hU]; exact Nat.lt_of_lt_of_le hbl hS.1, ⟨va_Nw.warmM hW hNx.1, va_Nw.warmM hW hNx.2⟩⟩⟩ rfl (by simpa using hn) hL.1 rfl (lv_room (by rw [ga_cats]; exact hrs)) hd ⟨hce, hsl⟩) (fun v I' h => h)
theorem gw_invS {d' idx n : Nat} {mt' : ga_M} {as rest : List ga_V} (hd : decode mt.2.1 pc = .ok (.invokestatic idx, 3)) (hl : ga_LS mt.1.cls idx mt' n) (hn : as.length = n) (hn2 : as.length ≤ mt'.2.2.1) (hrs : rest.length ≤ 8) (hdd : d' + 1 = d) (hst : as.reverse ++ rest = st)
    (K : ga_W G d' mt' 0 (ga_en mt'.2.2.1 as) [] I (fun v I' => ga_W G d mt (pc + 3) lst (v.toList ++ rest) I' E)) : ga_W G d mt pc lst st I E := by
  intro p e R s m args below meth c cells slots Q C hR hI H locs ls hP hS hL
  subst hdd; subst hst
  obtain ⟨hin, hml, hstt, hpar⟩ := hl
  obtain ⟨hx, hb, hm, hown, hts, hK, hX, hbl, hok, hroom, hce, hsl, hNx⟩ := id C
  have hM := ga_met (d := d') hin hok hI (as := as) hn2 K
  have cw : CallB R s args mt.1.cls idx mt'.1 mt'.2.1 mt'.2.2.1 mt'.2.2.2 (ga_wm mt') (ga_rm d') 0 0 n ∧ (Cond.static mt'.1).before args s = true := by
    refine ⟨callB_of n hts (ga_goodM hin) rfl rfl rfl (hts _ hin.2.2.2.1) (hts _ hml) ⟨hin.2.2.2.2.1, hin.2.2.2.2.2, hpar⟩ ⟨hroom.1, ?_⟩, hts _ hstt⟩
    have h1 := hroom.2
    have h2 := hin.2.2.1
    show 8 + (mt'.2.2.1 + 11) + 43 * d' ≤ R.locals
    omega
  have hst0 : ((as.reverse ++ rest).map (ga_cz G)) = (as.map (ga_cz G)).reverse ++ rest.map (ga_cz G) := by simp
  rw [hst0]
  refine ga_back C hR hS hL (va_runS (As := as.map (ga_cz G)) ⟨hx, hb, hm, hown, hts⟩ hM cw ⟨ga_blind G I _, fun U hU hW => ⟨rfl, by rw [hU]; exact hP, va_K.moved hW.alike hK, by rw [hU]; exact va_X.moved hW.alike (ga_X_kept hok hX hbl hS), by rw [hU]; exact Nat.lt_of_lt_of_le hbl hS.1, ⟨va_Nw.warmM hW hNx.1, va_Nw.warmM hW hNx.2⟩⟩⟩ rfl (by simpa using hn) hL.1 rfl (lv_room (by rw [ga_cats]; exact hrs)) hd ⟨hce, hsl⟩) (fun v I' h => h)
theorem gw_invN {d' idx n : Nat} {mt' : ga_M} {as rest : List ga_V} (hd : decode mt.2.1 pc = .ok (.invokestatic idx, 3)) (hl : ga_LN mt.1.cls idx mt' n) (hn : as.length = n) (hn2 : as.length ≤ mt'.2.2.1) (hrs : rest.length ≤ 8) (hdd : d' + 1 = d) (hst : as.reverse ++ rest = st)
    (K : ga_W G d' mt' 0 (ga_en mt'.2.2.1 as) [] I (fun v I' => ga_W G d mt (pc + 3) lst (v.toList ++ rest) I' E)) : ga_W G d mt pc lst st I E := by
  intro p e R s m args below meth c cells slots Q C hR hI H locs ls hP hS hL
  subst hdd; subst hst
  obtain ⟨hin, hml, hstt, hpar⟩ := hl
  obtain ⟨hx, hb, hm, hown, hts, hK, hX, hbl, hok, hroom, hce, hsl, hNx⟩ := id C
  have hM := ga_met (d := d') hin hok hI (as := as) hn2 K
  have cw : va_CN R s args mt.1.cls idx mt'.1 "GainTables" mt'.2.1 mt'.2.2.1 mt'.2.2.2 (ga_wm mt') (ga_rm d') 0 0 n ∧ (Cond.static mt'.1).before args s = true ∧ True := by
    refine ⟨va_cnB n hts (ga_goodM hin) rfl rfl rfl (hml s hNx) (hts _ hin.2.2.2.1) ⟨hin.2.2.2.2.1, hin.2.2.2.2.2, hpar⟩ ⟨hroom.1, ?_⟩, hts _ hstt, trivial⟩
    have h1 := hroom.2
    have h2 := hin.2.2.1
    show 8 + (mt'.2.2.1 + 11) + 43 * d' ≤ R.locals
    omega
  have hst0 : ((as.reverse ++ rest).map (ga_cz G)) = (as.map (ga_cz G)).reverse ++ rest.map (ga_cz G) := by simp
  rw [hst0]
  refine ga_back C hR hS hL (va_runSN (As := as.map (ga_cz G)) ⟨hx, hb, hm, hown, hts⟩ hM cw ⟨ga_blind G I _, fun U hU hW => ⟨rfl, by rw [hU]; exact hP, va_K.moved hW.alike hK, by rw [hU]; exact va_X.moved hW.alike (ga_X_kept hok hX hbl hS), by rw [hU]; exact Nat.lt_of_lt_of_le hbl hS.1, ⟨va_Nw.warmM hW hNx.1, va_Nw.warmM hW hNx.2⟩⟩⟩ rfl (by simpa using hn) hL.1 rfl (lv_room (by rw [ga_cats]; exact hrs)) hd ⟨hce, hsl⟩) (fun v I' h => h)
theorem gw_copy {idx ks kd ns nd : Nat} {sp dp n : Int} (hd : decode mt.2.1 pc = .ok (.invokestatic idx, 3)) (hl : Cond.methodLink mt.1.cls idx arraycopyName ∈ ga_T) (hs : ga_arr ks 0 ns) (ht : ga_arr kd 0 nd) (h1 : 0 ≤ sp) (h2 : 0 ≤ dp) (h3 : 0 ≤ n) (h4 : sp + n ≤ ns) (h5 : dp + n ≤ nd) (hdd : 1 ≤ d) (hrs : st.length ≤ 8)
    (K : ga_W G d mt (pc + 3) lst st (ga_cp I ks kd sp.toNat dp.toNat n.toNat) E) : ga_W G d mt pc lst (.inl n :: .inl dp :: .inr kd :: .inl sp :: .inr ks :: st) I E := by
  intro p e R s m args below meth c cells slots Q C hR hI H locs ls hP hS hL
  obtain ⟨hx, hb, hm, hown, hts, hK, hX, hbl, hok, hroom, hce, hsl, hNx⟩ := id C
  have ns' := ga_arr_n hs
  have nd' := ga_arr_n ht
  have e0 := ga_ws_at G I hs.1
  rw [hs.2] at e0
  have e1 := ga_ws_at G I ht.1
  rw [ht.2] at e1
  have nn : ∀ z : Int, 0 ≤ z → z < 2147483648 → ¬ Int32.ofInt z < 0 ∧ (Int32.ofInt z).toNatClampNeg = z.toNat := fun z q1 q2 => by
    refine ⟨fun h => ?_, ga_nat ⟨by omega, by omega⟩⟩
    have := (ga_lt (a := z) (b := 0) ⟨by omega, by omega⟩ ⟨by omega, by omega⟩).mp h
    omega
  obtain ⟨a1, b1⟩ := nn sp h1 (by omega)
  obtain ⟨a2, b2⟩ := nn dp h2 (by omega)
  obtain ⟨a3, b3⟩ := nn n h3 (by omega)
  refine va_copyi hx hb (hm.trans hL.1.symm) hown (hts _ hl) (hts _ ga_wNat) (hts _ ga_wStat) (hts _ ga_wIni) hK hP (ga_apart hok I) hS ks kd 0 0 e0 e1 rfl rfl rfl a1 a2 a3 (by rw [b1, b3]; omega) (by rw [b2, b3]; omega) (fun i hi => rfl) (Nat.le_trans hdd hroom.1) ?_ hd (fun H1 locs1 hP1 hD1 hS1 => ?_)
  · rw [ga_cats]
    have h9 := hroom.2
    have h8 : nativeFrameWords "java/lang/System" "arraycopy" 5 + 11 ≤ 35 := by decide +kernel
    omega
  · rw [b1, b2, b3] at hP1
    rw [ga_ws_set (I' := ga_cp I ks kd sp.toNat dp.toNat n.toNat) ht.1 (by
      rw [ht.2]
      show Sum.inl (ga_cy G 0, (nd, Sum.inl (fun j => Int32.ofInt (ga_cp I ks kd sp.toNat dp.toNat n.toNat kd j)))) = _
      congr 4
      funext j
      unfold va_cpy ga_cp
      by_cases q : dp.toNat ≤ j ∧ j < dp.toNat + n.toNat
      · rw [if_pos ⟨rfl, q⟩, if_pos q]
      · rw [if_neg (fun h => q h.2), if_neg q]) (fun q hq => ga_ce_other _ (fun b => by simp [ga_cp, hq]))] at hP1
    exact K p e R s m args below meth c cells slots Q C hR (ga_RG_cp hI _ _ _ _ _) H1 locs1 ls hP1 hS1 hL
end GC
end
section
-- the links: methods, fields, constants
theorem in_Arr_fill : ga_In mt_Arr_fill := ⟨ga_mem 122 (by decide +kernel), by decide +kernel, by decide, ga_mem 68 (by decide +kernel), by decide +kernel⟩
theorem in_GT_addBorder : ga_In mt_GT_addBorder := ⟨ga_mem 323 (by decide +kernel), by decide +kernel, by decide, ga_mem 64 (by decide +kernel), by decide +kernel⟩
theorem in_GT_isAxis : ga_In mt_GT_isAxis := ⟨ga_mem 326 (by decide +kernel), by decide +kernel, by decide, ga_mem 64 (by decide +kernel), by decide +kernel⟩
theorem in_GT_isIn : ga_In mt_GT_isIn := ⟨ga_mem 329 (by decide +kernel), by decide +kernel, by decide, ga_mem 64 (by decide +kernel), by decide +kernel⟩
theorem in_GT_isReach : ga_In mt_GT_isReach := ⟨ga_mem 332 (by decide +kernel), by decide +kernel, by decide, ga_mem 64 (by decide +kernel), by decide +kernel⟩
theorem in_Borders_isInside : ga_In mt_Borders_isInside := ⟨ga_mem 335 (by decide +kernel), by decide +kernel, by decide, ga_mem 67 (by decide +kernel), by decide +kernel⟩
theorem in_Table_bordersOf : ga_In mt_Table_bordersOf := ⟨ga_mem 340 (by decide +kernel), by decide +kernel, by decide, ga_mem 66 (by decide +kernel), by decide +kernel⟩
theorem in_Borders_isFree : ga_In mt_Borders_isFree := ⟨ga_mem 344 (by decide +kernel), by decide +kernel, by decide, ga_mem 67 (by decide +kernel), by decide +kernel⟩
theorem in_Borders_isFull : ga_In mt_Borders_isFull := ⟨ga_mem 349 (by decide +kernel), by decide +kernel, by decide, ga_mem 67 (by decide +kernel), by decide +kernel⟩
theorem in_History_keep : ga_In mt_History_keep := ⟨ga_mem 354 (by decide +kernel), by decide +kernel, by decide, ga_mem 70 (by decide +kernel), by decide +kernel⟩
theorem in_State_copyFrom : ga_In mt_State_copyFrom := ⟨ga_mem 358 (by decide +kernel), by decide +kernel, by decide, ga_mem 65 (by decide +kernel), by decide +kernel⟩
theorem in_Table_copyFrom : ga_In mt_Table_copyFrom := ⟨ga_mem 362 (by decide +kernel), by decide +kernel, by decide, ga_mem 66 (by decide +kernel), by decide +kernel⟩
theorem in_Borders_copyFrom : ga_In mt_Borders_copyFrom := ⟨ga_mem 366 (by decide +kernel), by decide +kernel, by decide, ga_mem 67 (by decide +kernel), by decide +kernel⟩
theorem in_Path_copyFrom : ga_In mt_Path_copyFrom := ⟨ga_mem 375 (by decide +kernel), by decide +kernel, by decide, ga_mem 69 (by decide +kernel), by decide +kernel⟩
theorem in_Table_sumOfGains : ga_In mt_Table_sumOfGains := ⟨ga_mem 380 (by decide +kernel), by decide +kernel, by decide, ga_mem 66 (by decide +kernel), by decide +kernel⟩
theorem in_Table_regionAt : ga_In mt_Table_regionAt := ⟨ga_mem 383 (by decide +kernel), by decide +kernel, by decide, ga_mem 66 (by decide +kernel), by decide +kernel⟩
theorem in_Table_gainAt : ga_In mt_Table_gainAt := ⟨ga_mem 387 (by decide +kernel), by decide +kernel, by decide, ga_mem 66 (by decide +kernel), by decide +kernel⟩
theorem in_Table_splitAt : ga_In mt_Table_splitAt := ⟨ga_mem 391 (by decide +kernel), by decide +kernel, by decide, ga_mem 66 (by decide +kernel), by decide +kernel⟩
theorem in_Borders_insert : ga_In mt_Borders_insert := ⟨ga_mem 396 (by decide +kernel), by decide +kernel, by decide, ga_mem 67 (by decide +kernel), by decide +kernel⟩
theorem in_Borders_stripOf : ga_In mt_Borders_stripOf := ⟨ga_mem 400 (by decide +kernel), by decide +kernel, by decide, ga_mem 67 (by decide +kernel), by decide +kernel⟩
theorem in_Borders_copyBorder : ga_In mt_Borders_copyBorder := ⟨ga_mem 405 (by decide +kernel), by decide +kernel, by decide, ga_mem 67 (by decide +kernel), by decide +kernel⟩
theorem in_Table_copyStrip : ga_In mt_Table_copyStrip := ⟨ga_mem 409 (by decide +kernel), by decide +kernel, by decide, ga_mem 66 (by decide +kernel), by decide +kernel⟩
theorem in_Table_putGain : ga_In mt_Table_putGain := ⟨ga_mem 413 (by decide +kernel), by decide +kernel, by decide, ga_mem 66 (by decide +kernel), by decide +kernel⟩
theorem in_Table_lockAt : ga_In mt_Table_lockAt := ⟨ga_mem 417 (by decide +kernel), by decide +kernel, by decide, ga_mem 66 (by decide +kernel), by decide +kernel⟩
theorem in_Table_putLock : ga_In mt_Table_putLock := ⟨ga_mem 421 (by decide +kernel), by decide +kernel, by decide, ga_mem 66 (by decide +kernel), by decide +kernel⟩
theorem in_State_settleTable : ga_In mt_State_settleTable := ⟨ga_mem 425 (by decide +kernel), by decide +kernel, by decide, ga_mem 65 (by decide +kernel), by decide +kernel⟩
theorem in_State_findZones : ga_In mt_State_findZones := ⟨ga_mem 430 (by decide +kernel), by decide +kernel, by decide, ga_mem 65 (by decide +kernel), by decide +kernel⟩
theorem in_Borders_zoneOf : ga_In mt_Borders_zoneOf := ⟨ga_mem 434 (by decide +kernel), by decide +kernel, by decide, ga_mem 67 (by decide +kernel), by decide +kernel⟩
theorem in_GT_removeBorder : ga_In mt_GT_removeBorder := ⟨ga_mem 438 (by decide +kernel), by decide +kernel, by decide, ga_mem 64 (by decide +kernel), by decide +kernel⟩
theorem in_GT_isBorder : ga_In mt_GT_isBorder := ⟨ga_mem 442 (by decide +kernel), by decide +kernel, by decide, ga_mem 64 (by decide +kernel), by decide +kernel⟩
theorem in_Borders_has : ga_In mt_Borders_has := ⟨ga_mem 446 (by decide +kernel), by decide +kernel, by decide, ga_mem 67 (by decide +kernel), by decide +kernel⟩
theorem in_Table_mergeAt : ga_In mt_Table_mergeAt := ⟨ga_mem 450 (by decide +kernel), by decide +kernel, by decide, ga_mem 66 (by decide +kernel), by decide +kernel⟩
theorem in_Borders_delete : ga_In mt_Borders_delete := ⟨ga_mem 454 (by decide +kernel), by decide +kernel, by decide, ga_mem 67 (by decide +kernel), by decide +kernel⟩
theorem in_GT_setReach : ga_In mt_GT_setReach := ⟨ga_mem 459 (by decide +kernel), by decide +kernel, by decide, ga_mem 64 (by decide +kernel), by decide +kernel⟩
theorem in_Borders_positionOf : ga_In mt_Borders_positionOf := ⟨ga_mem 463 (by decide +kernel), by decide +kernel, by decide, ga_mem 67 (by decide +kernel), by decide +kernel⟩
theorem in_Borders_kindOf : ga_In mt_Borders_kindOf := ⟨ga_mem 467 (by decide +kernel), by decide +kernel, by decide, ga_mem 67 (by decide +kernel), by decide +kernel⟩
theorem in_Borders_reachOf : ga_In mt_Borders_reachOf := ⟨ga_mem 471 (by decide +kernel), by decide +kernel, by decide, ga_mem 67 (by decide +kernel), by decide +kernel⟩
theorem in_Borders_putReach : ga_In mt_Borders_putReach := ⟨ga_mem 475 (by decide +kernel), by decide +kernel, by decide, ga_mem 67 (by decide +kernel), by decide +kernel⟩
theorem in_GT_setOperator : ga_In mt_GT_setOperator := ⟨ga_mem 480 (by decide +kernel), by decide +kernel, by decide, ga_mem 64 (by decide +kernel), by decide +kernel⟩
theorem in_GT_isOperator : ga_In mt_GT_isOperator := ⟨ga_mem 483 (by decide +kernel), by decide +kernel, by decide, ga_mem 64 (by decide +kernel), by decide +kernel⟩
theorem in_GT_edit : ga_In mt_GT_edit := ⟨ga_mem 488 (by decide +kernel), by decide +kernel, by decide, ga_mem 64 (by decide +kernel), by decide +kernel⟩
theorem in_GT_isEdit : ga_In mt_GT_isEdit := ⟨ga_mem 492 (by decide +kernel), by decide +kernel, by decide, ga_mem 64 (by decide +kernel), by decide +kernel⟩
theorem in_GT_isRegion : ga_In mt_GT_isRegion := ⟨ga_mem 496 (by decide +kernel), by decide +kernel, by decide, ga_mem 64 (by decide +kernel), by decide +kernel⟩
theorem in_GT_isGain : ga_In mt_GT_isGain := ⟨ga_mem 499 (by decide +kernel), by decide +kernel, by decide, ga_mem 64 (by decide +kernel), by decide +kernel⟩
theorem in_State_reasonAgainst : ga_In mt_State_reasonAgainst := ⟨ga_mem 504 (by decide +kernel), by decide +kernel, by decide, ga_mem 65 (by decide +kernel), by decide +kernel⟩
theorem in_Math_abs : ga_In mt_Math_abs := ⟨ga_mem 510 (by decide +kernel), by decide +kernel, by decide, ga_mem 75 (by decide +kernel), by decide +kernel⟩
theorem in_State_carryOutEdit : ga_In mt_State_carryOutEdit := ⟨ga_mem 515 (by decide +kernel), by decide +kernel, by decide, ga_mem 65 (by decide +kernel), by decide +kernel⟩
theorem in_GT_scale : ga_In mt_GT_scale := ⟨ga_mem 520 (by decide +kernel), by decide +kernel, by decide, ga_mem 64 (by decide +kernel), by decide +kernel⟩
theorem in_Math_min : ga_In mt_Math_min := ⟨ga_mem 523 (by decide +kernel), by decide +kernel, by decide, ga_mem 75 (by decide +kernel), by decide +kernel⟩
theorem in_GT_lock : ga_In mt_GT_lock := ⟨ga_mem 527 (by decide +kernel), by decide +kernel, by decide, ga_mem 64 (by decide +kernel), by decide +kernel⟩
theorem in_Table_locksOf : ga_In mt_Table_locksOf := ⟨ga_mem 534 (by decide +kernel), by decide +kernel, by decide, ga_mem 66 (by decide +kernel), by decide +kernel⟩
theorem in_GT_setMargin : ga_In mt_GT_setMargin := ⟨ga_mem 538 (by decide +kernel), by decide +kernel, by decide, ga_mem 64 (by decide +kernel), by decide +kernel⟩
theorem in_GT_move : ga_In mt_GT_move := ⟨ga_mem 542 (by decide +kernel), by decide +kernel, by decide, ga_mem 64 (by decide +kernel), by decide +kernel⟩
theorem in_GT_isCoordinate : ga_In mt_GT_isCoordinate := ⟨ga_mem 545 (by decide +kernel), by decide +kernel, by decide, ga_mem 64 (by decide +kernel), by decide +kernel⟩
theorem in_GT_carryOutMove : ga_In mt_GT_carryOutMove := ⟨ga_mem 549 (by decide +kernel), by decide +kernel, by decide, ga_mem 64 (by decide +kernel), by decide +kernel⟩
theorem in_State_ignores : ga_In mt_State_ignores := ⟨ga_mem 553 (by decide +kernel), by decide +kernel, by decide, ga_mem 65 (by decide +kernel), by decide +kernel⟩
theorem in_GT_blendAtPoint : ga_In mt_GT_blendAtPoint := ⟨ga_mem 557 (by decide +kernel), by decide +kernel, by decide, ga_mem 64 (by decide +kernel), by decide +kernel⟩
theorem in_Blend_findIn : ga_In mt_Blend_findIn := ⟨ga_mem 561 (by decide +kernel), by decide +kernel, by decide, ga_mem 72 (by decide +kernel), by decide +kernel⟩
theorem in_Borders_heldIn : ga_In mt_Borders_heldIn := ⟨ga_mem 565 (by decide +kernel), by decide +kernel, by decide, ga_mem 67 (by decide +kernel), by decide +kernel⟩
theorem in_Math_max : ga_In mt_Math_max := ⟨ga_mem 568 (by decide +kernel), by decide +kernel, by decide, ga_mem 75 (by decide +kernel), by decide +kernel⟩
theorem in_Borders_blendingAt : ga_In mt_Borders_blendingAt := ⟨ga_mem 573 (by decide +kernel), by decide +kernel, by decide, ga_mem 67 (by decide +kernel), by decide +kernel⟩
theorem in_GT_noteValues : ga_In mt_GT_noteValues := ⟨ga_mem 580 (by decide +kernel), by decide +kernel, by decide, ga_mem 64 (by decide +kernel), by decide +kernel⟩
theorem in_GT_blendedValue : ga_In mt_GT_blendedValue := ⟨ga_mem 584 (by decide +kernel), by decide +kernel, by decide, ga_mem 64 (by decide +kernel), by decide +kernel⟩
theorem in_Table_numerator : ga_In mt_Table_numerator := ⟨ga_mem 588 (by decide +kernel), by decide +kernel, by decide, ga_mem 66 (by decide +kernel), by decide +kernel⟩
theorem in_State_putPoint : ga_In mt_State_putPoint := ⟨ga_mem 592 (by decide +kernel), by decide +kernel, by decide, ga_mem 65 (by decide +kernel), by decide +kernel⟩
theorem in_Borders_zoneAfter : ga_In mt_Borders_zoneAfter := ⟨ga_mem 596 (by decide +kernel), by decide +kernel, by decide, ga_mem 67 (by decide +kernel), by decide +kernel⟩
theorem in_GT_greatestDifference : ga_In mt_GT_greatestDifference := ⟨ga_mem 600 (by decide +kernel), by decide +kernel, by decide, ga_mem 64 (by decide +kernel), by decide +kernel⟩
theorem in_State_noteEntry : ga_In mt_State_noteEntry := ⟨ga_mem 606 (by decide +kernel), by decide +kernel, by decide, ga_mem 65 (by decide +kernel), by decide +kernel⟩
theorem in_Path_startEntry : ga_In mt_Path_startEntry := ⟨ga_mem 610 (by decide +kernel), by decide +kernel, by decide, ga_mem 69 (by decide +kernel), by decide +kernel⟩
theorem in_Path_putPart : ga_In mt_Path_putPart := ⟨ga_mem 615 (by decide +kernel), by decide +kernel, by decide, ga_mem 69 (by decide +kernel), by decide +kernel⟩
theorem in_GT_sweep : ga_In mt_GT_sweep := ⟨ga_mem 619 (by decide +kernel), by decide +kernel, by decide, ga_mem 64 (by decide +kernel), by decide +kernel⟩
theorem in_GT_placeTowards : ga_In mt_GT_placeTowards := ⟨ga_mem 622 (by decide +kernel), by decide +kernel, by decide, ga_mem 64 (by decide +kernel), by decide +kernel⟩
theorem in_GT_take : ga_In mt_GT_take := ⟨ga_mem 626 (by decide +kernel), by decide +kernel, by decide, ga_mem 64 (by decide +kernel), by decide +kernel⟩
theorem in_GT_isPlace : ga_In mt_GT_isPlace := ⟨ga_mem 629 (by decide +kernel), by decide +kernel, by decide, ga_mem 64 (by decide +kernel), by decide +kernel⟩
theorem in_State_snapshotAt : ga_In mt_State_snapshotAt := ⟨ga_mem 633 (by decide +kernel), by decide +kernel, by decide, ga_mem 65 (by decide +kernel), by decide +kernel⟩
theorem in_Table_regions : ga_In mt_Table_regions := ⟨ga_mem 638 (by decide +kernel), by decide +kernel, by decide, ga_mem 66 (by decide +kernel), by decide +kernel⟩
theorem in_GT_restore : ga_In mt_GT_restore := ⟨ga_mem 642 (by decide +kernel), by decide +kernel, by decide, ga_mem 64 (by decide +kernel), by decide +kernel⟩
theorem in_State_replaceTable : ga_In mt_State_replaceTable := ⟨ga_mem 646 (by decide +kernel), by decide +kernel, by decide, ga_mem 65 (by decide +kernel), by decide +kernel⟩
theorem in_GT_undo : ga_In mt_GT_undo := ⟨ga_mem 651 (by decide +kernel), by decide +kernel, by decide, ga_mem 64 (by decide +kernel), by decide +kernel⟩
theorem in_History_bringBack : ga_In mt_History_bringBack := ⟨ga_mem 655 (by decide +kernel), by decide +kernel, by decide, ga_mem 70 (by decide +kernel), by decide +kernel⟩
theorem in_GT_append : ga_In mt_GT_append := ⟨ga_mem 659 (by decide +kernel), by decide +kernel, by decide, ga_mem 64 (by decide +kernel), by decide +kernel⟩
theorem in_Text_put : ga_In mt_Text_put := ⟨ga_mem 663 (by decide +kernel), by decide +kernel, by decide, ga_mem 71 (by decide +kernel), by decide +kernel⟩
theorem in_GT_clearText : ga_In mt_GT_clearText := ⟨ga_mem 667 (by decide +kernel), by decide +kernel, by decide, ga_mem 64 (by decide +kernel), by decide +kernel⟩
theorem in_GT_load : ga_In mt_GT_load := ⟨ga_mem 671 (by decide +kernel), by decide +kernel, by decide, ga_mem 64 (by decide +kernel), by decide +kernel⟩
theorem in_Text_readInto : ga_In mt_Text_readInto := ⟨ga_mem 675 (by decide +kernel), by decide +kernel, by decide, ga_mem 71 (by decide +kernel), by decide +kernel⟩
theorem in_Table_clear : ga_In mt_Table_clear := ⟨ga_mem 679 (by decide +kernel), by decide +kernel, by decide, ga_mem 66 (by decide +kernel), by decide +kernel⟩
theorem in_Text_peek : ga_In mt_Text_peek := ⟨ga_mem 683 (by decide +kernel), by decide +kernel, by decide, ga_mem 71 (by decide +kernel), by decide +kernel⟩
theorem in_Text_characterAt : ga_In mt_Text_characterAt := ⟨ga_mem 687 (by decide +kernel), by decide +kernel, by decide, ga_mem 71 (by decide +kernel), by decide +kernel⟩
theorem in_Text_readItem : ga_In mt_Text_readItem := ⟨ga_mem 691 (by decide +kernel), by decide +kernel, by decide, ga_mem 71 (by decide +kernel), by decide +kernel⟩
theorem in_Text_readBorder : ga_In mt_Text_readBorder := ⟨ga_mem 695 (by decide +kernel), by decide +kernel, by decide, ga_mem 71 (by decide +kernel), by decide +kernel⟩
theorem in_Text_readNumber : ga_In mt_Text_readNumber := ⟨ga_mem 699 (by decide +kernel), by decide +kernel, by decide, ga_mem 71 (by decide +kernel), by decide +kernel⟩
theorem in_Text_isDigit : ga_In mt_Text_isDigit := ⟨ga_mem 702 (by decide +kernel), by decide +kernel, by decide, ga_mem 71 (by decide +kernel), by decide +kernel⟩
theorem in_Text_readEndOfItem : ga_In mt_Text_readEndOfItem := ⟨ga_mem 709 (by decide +kernel), by decide +kernel, by decide, ga_mem 71 (by decide +kernel), by decide +kernel⟩
theorem in_Text_readGain : ga_In mt_Text_readGain := ⟨ga_mem 719 (by decide +kernel), by decide +kernel, by decide, ga_mem 71 (by decide +kernel), by decide +kernel⟩
theorem in_GT_count : ga_In mt_GT_count := ⟨ga_mem 726 (by decide +kernel), by decide +kernel, by decide, ga_mem 64 (by decide +kernel), by decide +kernel⟩
theorem in_State_placesTaken : ga_In mt_State_placesTaken := ⟨ga_mem 730 (by decide +kernel), by decide +kernel, by decide, ga_mem 65 (by decide +kernel), by decide +kernel⟩
theorem in_GT_axis : ga_In mt_GT_axis := ⟨ga_mem 734 (by decide +kernel), by decide +kernel, by decide, ga_mem 64 (by decide +kernel), by decide +kernel⟩
theorem in_Borders_zones : ga_In mt_Borders_zones := ⟨ga_mem 738 (by decide +kernel), by decide +kernel, by decide, ga_mem 67 (by decide +kernel), by decide +kernel⟩
theorem in_GT_border : ga_In mt_GT_border := ⟨ga_mem 743 (by decide +kernel), by decide +kernel, by decide, ga_mem 64 (by decide +kernel), by decide +kernel⟩
theorem in_GT_region : ga_In mt_GT_region := ⟨ga_mem 747 (by decide +kernel), by decide +kernel, by decide, ga_mem 64 (by decide +kernel), by decide +kernel⟩
theorem in_GT_operator : ga_In mt_GT_operator := ⟨ga_mem 751 (by decide +kernel), by decide +kernel, by decide, ga_mem 64 (by decide +kernel), by decide +kernel⟩
theorem in_GT_account : ga_In mt_GT_account := ⟨ga_mem 755 (by decide +kernel), by decide +kernel, by decide, ga_mem 64 (by decide +kernel), by decide +kernel⟩
theorem in_State_sumOfAccounts : ga_In mt_State_sumOfAccounts := ⟨ga_mem 759 (by decide +kernel), by decide +kernel, by decide, ga_mem 65 (by decide +kernel), by decide +kernel⟩
theorem in_GT_gain : ga_In mt_GT_gain := ⟨ga_mem 763 (by decide +kernel), by decide +kernel, by decide, ga_mem 64 (by decide +kernel), by decide +kernel⟩
theorem in_GT_trail : ga_In mt_GT_trail := ⟨ga_mem 767 (by decide +kernel), by decide +kernel, by decide, ga_mem 64 (by decide +kernel), by decide +kernel⟩
theorem in_Path_partOf : ga_In mt_Path_partOf := ⟨ga_mem 771 (by decide +kernel), by decide +kernel, by decide, ga_mem 69 (by decide +kernel), by decide +kernel⟩
theorem in_Math_floorMod : ga_In mt_Math_floorMod := ⟨ga_mem 774 (by decide +kernel), by decide +kernel, by decide, ga_mem 75 (by decide +kernel), by decide +kernel⟩
theorem in_GT_refusal : ga_In mt_GT_refusal := ⟨ga_mem 779 (by decide +kernel), by decide +kernel, by decide, ga_mem 64 (by decide +kernel), by decide +kernel⟩
theorem in_GT_effect : ga_In mt_GT_effect := ⟨ga_mem 783 (by decide +kernel), by decide +kernel, by decide, ga_mem 64 (by decide +kernel), by decide +kernel⟩
theorem in_GT_valueAt : ga_In mt_GT_valueAt := ⟨ga_mem 788 (by decide +kernel), by decide +kernel, by decide, ga_mem 64 (by decide +kernel), by decide +kernel⟩
theorem in_Blend_findByPosition : ga_In mt_Blend_findByPosition := ⟨ga_mem 792 (by decide +kernel), by decide +kernel, by decide, ga_mem 72 (by decide +kernel), by decide +kernel⟩
theorem in_GT_chatter : ga_In mt_GT_chatter := ⟨ga_mem 798 (by decide +kernel), by decide +kernel, by decide, ga_mem 64 (by decide +kernel), by decide +kernel⟩
theorem in_GT_isSwing : ga_In mt_GT_isSwing := ⟨ga_mem 801 (by decide +kernel), by decide +kernel, by decide, ga_mem 64 (by decide +kernel), by decide +kernel⟩
theorem in_Borders_zoneChanges : ga_In mt_Borders_zoneChanges := ⟨ga_mem 805 (by decide +kernel), by decide +kernel, by decide, ga_mem 67 (by decide +kernel), by decide +kernel⟩
theorem in_GT_calmReach : ga_In mt_GT_calmReach := ⟨ga_mem 810 (by decide +kernel), by decide +kernel, by decide, ga_mem 64 (by decide +kernel), by decide +kernel⟩
theorem in_GT_steepest : ga_In mt_GT_steepest := ⟨ga_mem 816 (by decide +kernel), by decide +kernel, by decide, ga_mem 64 (by decide +kernel), by decide +kernel⟩
theorem in_Mo_clearRegions : ga_In mt_Mo_clearRegions := ⟨ga_mem 826 (by decide +kernel), by decide +kernel, by decide, ga_mem 73 (by decide +kernel), by decide +kernel⟩
theorem in_Mo_addBorder : ga_In mt_Mo_addBorder := ⟨ga_mem 873 (by decide +kernel), by decide +kernel, by decide, ga_mem 73 (by decide +kernel), by decide +kernel⟩
theorem in_Mo_isAxis : ga_In mt_Mo_isAxis := ⟨ga_mem 876 (by decide +kernel), by decide +kernel, by decide, ga_mem 73 (by decide +kernel), by decide +kernel⟩
theorem in_Mo_in : ga_In mt_Mo_in := ⟨ga_mem 879 (by decide +kernel), by decide +kernel, by decide, ga_mem 73 (by decide +kernel), by decide +kernel⟩
theorem in_Mo_isReach : ga_In mt_Mo_isReach := ⟨ga_mem 882 (by decide +kernel), by decide +kernel, by decide, ga_mem 73 (by decide +kernel), by decide +kernel⟩
theorem in_Mo_isInside : ga_In mt_Mo_isInside := ⟨ga_mem 885 (by decide +kernel), by decide +kernel, by decide, ga_mem 73 (by decide +kernel), by decide +kernel⟩
theorem in_Mo_isOccupied : ga_In mt_Mo_isOccupied := ⟨ga_mem 891 (by decide +kernel), by decide +kernel, by decide, ga_mem 73 (by decide +kernel), by decide +kernel⟩
theorem in_Mo_borders : ga_In mt_Mo_borders := ⟨ga_mem 895 (by decide +kernel), by decide +kernel, by decide, ga_mem 73 (by decide +kernel), by decide +kernel⟩
theorem in_Mo_ofBorder : ga_In mt_Mo_ofBorder := ⟨ga_mem 899 (by decide +kernel), by decide +kernel, by decide, ga_mem 73 (by decide +kernel), by decide +kernel⟩
theorem in_Mo_apart : ga_In mt_Mo_apart := ⟨ga_mem 902 (by decide +kernel), by decide +kernel, by decide, ga_mem 73 (by decide +kernel), by decide +kernel⟩
theorem in_Mo_act : ga_In mt_Mo_act := ⟨ga_mem 908 (by decide +kernel), by decide +kernel, by decide, ga_mem 73 (by decide +kernel), by decide +kernel⟩
theorem in_Mo_allGains : ga_In mt_Mo_allGains := ⟨ga_mem 912 (by decide +kernel), by decide +kernel, by decide, ga_mem 73 (by decide +kernel), by decide +kernel⟩
theorem in_Mo_at : ga_In mt_Mo_at := ⟨ga_mem 915 (by decide +kernel), by decide +kernel, by decide, ga_mem 73 (by decide +kernel), by decide +kernel⟩
theorem in_Mo_insert : ga_In mt_Mo_insert := ⟨ga_mem 919 (by decide +kernel), by decide +kernel, by decide, ga_mem 73 (by decide +kernel), by decide +kernel⟩
theorem in_Mo_setBorder : ga_In mt_Mo_setBorder := ⟨ga_mem 923 (by decide +kernel), by decide +kernel, by decide, ga_mem 73 (by decide +kernel), by decide +kernel⟩
theorem in_Mo_copyStrip : ga_In mt_Mo_copyStrip := ⟨ga_mem 927 (by decide +kernel), by decide +kernel, by decide, ga_mem 73 (by decide +kernel), by decide +kernel⟩
theorem in_Mo_copyRegion : ga_In mt_Mo_copyRegion := ⟨ga_mem 931 (by decide +kernel), by decide +kernel, by decide, ga_mem 73 (by decide +kernel), by decide +kernel⟩
theorem in_Mo_settle : ga_In mt_Mo_settle := ⟨ga_mem 935 (by decide +kernel), by decide +kernel, by decide, ga_mem 73 (by decide +kernel), by decide +kernel⟩
theorem in_Mo_findZones : ga_In mt_Mo_findZones := ⟨ga_mem 939 (by decide +kernel), by decide +kernel, by decide, ga_mem 73 (by decide +kernel), by decide +kernel⟩
theorem in_Mo_zoneOf : ga_In mt_Mo_zoneOf := ⟨ga_mem 943 (by decide +kernel), by decide +kernel, by decide, ga_mem 73 (by decide +kernel), by decide +kernel⟩
theorem in_Mo_removeBorder : ga_In mt_Mo_removeBorder := ⟨ga_mem 947 (by decide +kernel), by decide +kernel, by decide, ga_mem 73 (by decide +kernel), by decide +kernel⟩
theorem in_Mo_isBorder : ga_In mt_Mo_isBorder := ⟨ga_mem 951 (by decide +kernel), by decide +kernel, by decide, ga_mem 73 (by decide +kernel), by decide +kernel⟩
theorem in_Mo_setReach : ga_In mt_Mo_setReach := ⟨ga_mem 955 (by decide +kernel), by decide +kernel, by decide, ga_mem 73 (by decide +kernel), by decide +kernel⟩
theorem in_Mo_setOperator : ga_In mt_Mo_setOperator := ⟨ga_mem 959 (by decide +kernel), by decide +kernel, by decide, ga_mem 73 (by decide +kernel), by decide +kernel⟩
theorem in_Mo_isOperator : ga_In mt_Mo_isOperator := ⟨ga_mem 963 (by decide +kernel), by decide +kernel, by decide, ga_mem 73 (by decide +kernel), by decide +kernel⟩
theorem in_Mo_edit : ga_In mt_Mo_edit := ⟨ga_mem 967 (by decide +kernel), by decide +kernel, by decide, ga_mem 73 (by decide +kernel), by decide +kernel⟩
theorem in_Mo_isEdit : ga_In mt_Mo_isEdit := ⟨ga_mem 971 (by decide +kernel), by decide +kernel, by decide, ga_mem 73 (by decide +kernel), by decide +kernel⟩
theorem in_Mo_isRegion : ga_In mt_Mo_isRegion := ⟨ga_mem 975 (by decide +kernel), by decide +kernel, by decide, ga_mem 73 (by decide +kernel), by decide +kernel⟩
theorem in_Mo_refusalOf : ga_In mt_Mo_refusalOf := ⟨ga_mem 979 (by decide +kernel), by decide +kernel, by decide, ga_mem 73 (by decide +kernel), by decide +kernel⟩
theorem in_Mo_change : ga_In mt_Mo_change := ⟨ga_mem 983 (by decide +kernel), by decide +kernel, by decide, ga_mem 73 (by decide +kernel), by decide +kernel⟩
theorem in_Mo_scale : ga_In mt_Mo_scale := ⟨ga_mem 987 (by decide +kernel), by decide +kernel, by decide, ga_mem 73 (by decide +kernel), by decide +kernel⟩
theorem in_Mo_lock : ga_In mt_Mo_lock := ⟨ga_mem 991 (by decide +kernel), by decide +kernel, by decide, ga_mem 73 (by decide +kernel), by decide +kernel⟩
theorem in_Mo_locksOf : ga_In mt_Mo_locksOf := ⟨ga_mem 995 (by decide +kernel), by decide +kernel, by decide, ga_mem 73 (by decide +kernel), by decide +kernel⟩
theorem in_Mo_setMargin : ga_In mt_Mo_setMargin := ⟨ga_mem 999 (by decide +kernel), by decide +kernel, by decide, ga_mem 73 (by decide +kernel), by decide +kernel⟩
theorem in_Mo_move : ga_In mt_Mo_move := ⟨ga_mem 1003 (by decide +kernel), by decide +kernel, by decide, ga_mem 73 (by decide +kernel), by decide +kernel⟩
theorem in_Mo_isCoordinate : ga_In mt_Mo_isCoordinate := ⟨ga_mem 1006 (by decide +kernel), by decide +kernel, by decide, ga_mem 73 (by decide +kernel), by decide +kernel⟩
theorem in_Mo_moves : ga_In mt_Mo_moves := ⟨ga_mem 1010 (by decide +kernel), by decide +kernel, by decide, ga_mem 73 (by decide +kernel), by decide +kernel⟩
theorem in_Mo_isIgnored : ga_In mt_Mo_isIgnored := ⟨ga_mem 1014 (by decide +kernel), by decide +kernel, by decide, ga_mem 73 (by decide +kernel), by decide +kernel⟩
theorem in_Mo_noteValues : ga_In mt_Mo_noteValues := ⟨ga_mem 1018 (by decide +kernel), by decide +kernel, by decide, ga_mem 73 (by decide +kernel), by decide +kernel⟩
theorem in_Mo_locatePoint : ga_In mt_Mo_locatePoint := ⟨ga_mem 1022 (by decide +kernel), by decide +kernel, by decide, ga_mem 73 (by decide +kernel), by decide +kernel⟩
theorem in_Mo_locate : ga_In mt_Mo_locate := ⟨ga_mem 1026 (by decide +kernel), by decide +kernel, by decide, ga_mem 73 (by decide +kernel), by decide +kernel⟩
theorem in_Mo_sticky : ga_In mt_Mo_sticky := ⟨ga_mem 1030 (by decide +kernel), by decide +kernel, by decide, ga_mem 73 (by decide +kernel), by decide +kernel⟩
theorem in_Mo_value : ga_In mt_Mo_value := ⟨ga_mem 1034 (by decide +kernel), by decide +kernel, by decide, ga_mem 73 (by decide +kernel), by decide +kernel⟩
theorem in_Mo_numerator : ga_In mt_Mo_numerator := ⟨ga_mem 1038 (by decide +kernel), by decide +kernel, by decide, ga_mem 73 (by decide +kernel), by decide +kernel⟩
theorem in_Mo_denominator : ga_In mt_Mo_denominator := ⟨ga_mem 1042 (by decide +kernel), by decide +kernel, by decide, ga_mem 73 (by decide +kernel), by decide +kernel⟩
theorem in_Mo_goTo : ga_In mt_Mo_goTo := ⟨ga_mem 1046 (by decide +kernel), by decide +kernel, by decide, ga_mem 73 (by decide +kernel), by decide +kernel⟩
theorem in_Mo_zoneBehind : ga_In mt_Mo_zoneBehind := ⟨ga_mem 1050 (by decide +kernel), by decide +kernel, by decide, ga_mem 73 (by decide +kernel), by decide +kernel⟩
theorem in_Mo_jump : ga_In mt_Mo_jump := ⟨ga_mem 1054 (by decide +kernel), by decide +kernel, by decide, ga_mem 73 (by decide +kernel), by decide +kernel⟩
theorem in_Mo_newEntry : ga_In mt_Mo_newEntry := ⟨ga_mem 1058 (by decide +kernel), by decide +kernel, by decide, ga_mem 73 (by decide +kernel), by decide +kernel⟩
theorem in_Mo_sweep : ga_In mt_Mo_sweep := ⟨ga_mem 1062 (by decide +kernel), by decide +kernel, by decide, ga_mem 73 (by decide +kernel), by decide +kernel⟩
theorem in_Mo_take : ga_In mt_Mo_take := ⟨ga_mem 1066 (by decide +kernel), by decide +kernel, by decide, ga_mem 73 (by decide +kernel), by decide +kernel⟩
theorem in_Mo_isPlace : ga_In mt_Mo_isPlace := ⟨ga_mem 1069 (by decide +kernel), by decide +kernel, by decide, ga_mem 73 (by decide +kernel), by decide +kernel⟩
theorem in_Mo_regions : ga_In mt_Mo_regions := ⟨ga_mem 1073 (by decide +kernel), by decide +kernel, by decide, ga_mem 73 (by decide +kernel), by decide +kernel⟩
theorem in_Mo_restore : ga_In mt_Mo_restore := ⟨ga_mem 1077 (by decide +kernel), by decide +kernel, by decide, ga_mem 73 (by decide +kernel), by decide +kernel⟩
theorem in_Mo_undo : ga_In mt_Mo_undo := ⟨ga_mem 1081 (by decide +kernel), by decide +kernel, by decide, ga_mem 73 (by decide +kernel), by decide +kernel⟩
theorem in_Mo_append : ga_In mt_Mo_append := ⟨ga_mem 1085 (by decide +kernel), by decide +kernel, by decide, ga_mem 73 (by decide +kernel), by decide +kernel⟩
theorem in_Mo_clearText : ga_In mt_Mo_clearText := ⟨ga_mem 1089 (by decide +kernel), by decide +kernel, by decide, ga_mem 73 (by decide +kernel), by decide +kernel⟩
theorem in_Mo_load : ga_In mt_Mo_load := ⟨ga_mem 1093 (by decide +kernel), by decide +kernel, by decide, ga_mem 73 (by decide +kernel), by decide +kernel⟩
theorem in_Mo_hold : ga_In mt_Mo_hold := ⟨ga_mem 1097 (by decide +kernel), by decide +kernel, by decide, ga_mem 73 (by decide +kernel), by decide +kernel⟩
theorem in_Mo_here : ga_In mt_Mo_here := ⟨ga_mem 1101 (by decide +kernel), by decide +kernel, by decide, ga_mem 73 (by decide +kernel), by decide +kernel⟩
theorem in_Mo_readsItem : ga_In mt_Mo_readsItem := ⟨ga_mem 1105 (by decide +kernel), by decide +kernel, by decide, ga_mem 73 (by decide +kernel), by decide +kernel⟩
theorem in_Mo_readsGain : ga_In mt_Mo_readsGain := ⟨ga_mem 1109 (by decide +kernel), by decide +kernel, by decide, ga_mem 73 (by decide +kernel), by decide +kernel⟩
theorem in_Mo_reads : ga_In mt_Mo_reads := ⟨ga_mem 1113 (by decide +kernel), by decide +kernel, by decide, ga_mem 73 (by decide +kernel), by decide +kernel⟩
theorem in_Mo_takes : ga_In mt_Mo_takes := ⟨ga_mem 1118 (by decide +kernel), by decide +kernel, by decide, ga_mem 73 (by decide +kernel), by decide +kernel⟩
theorem in_Mo_readsBorder : ga_In mt_Mo_readsBorder := ⟨ga_mem 1122 (by decide +kernel), by decide +kernel, by decide, ga_mem 73 (by decide +kernel), by decide +kernel⟩
theorem in_Mo_release : ga_In mt_Mo_release := ⟨ga_mem 1126 (by decide +kernel), by decide +kernel, by decide, ga_mem 73 (by decide +kernel), by decide +kernel⟩
theorem in_Mo_exchange : ga_In mt_Mo_exchange := ⟨ga_mem 1131 (by decide +kernel), by decide +kernel, by decide, ga_mem 73 (by decide +kernel), by decide +kernel⟩
theorem in_Mo_count : ga_In mt_Mo_count := ⟨ga_mem 1135 (by decide +kernel), by decide +kernel, by decide, ga_mem 73 (by decide +kernel), by decide +kernel⟩
theorem in_Mo_snapshots : ga_In mt_Mo_snapshots := ⟨ga_mem 1139 (by decide +kernel), by decide +kernel, by decide, ga_mem 73 (by decide +kernel), by decide +kernel⟩
theorem in_Mo_axis : ga_In mt_Mo_axis := ⟨ga_mem 1143 (by decide +kernel), by decide +kernel, by decide, ga_mem 73 (by decide +kernel), by decide +kernel⟩
theorem in_Mo_stickyMany : ga_In mt_Mo_stickyMany := ⟨ga_mem 1147 (by decide +kernel), by decide +kernel, by decide, ga_mem 73 (by decide +kernel), by decide +kernel⟩
theorem in_Mo_border : ga_In mt_Mo_border := ⟨ga_mem 1151 (by decide +kernel), by decide +kernel, by decide, ga_mem 73 (by decide +kernel), by decide +kernel⟩
theorem in_Mo_region : ga_In mt_Mo_region := ⟨ga_mem 1155 (by decide +kernel), by decide +kernel, by decide, ga_mem 73 (by decide +kernel), by decide +kernel⟩
theorem in_Mo_operator : ga_In mt_Mo_operator := ⟨ga_mem 1159 (by decide +kernel), by decide +kernel, by decide, ga_mem 73 (by decide +kernel), by decide +kernel⟩
theorem in_Mo_account : ga_In mt_Mo_account := ⟨ga_mem 1163 (by decide +kernel), by decide +kernel, by decide, ga_mem 73 (by decide +kernel), by decide +kernel⟩
theorem in_Mo_gain : ga_In mt_Mo_gain := ⟨ga_mem 1167 (by decide +kernel), by decide +kernel, by decide, ga_mem 73 (by decide +kernel), by decide +kernel⟩
theorem in_Mo_trail : ga_In mt_Mo_trail := ⟨ga_mem 1171 (by decide +kernel), by decide +kernel, by decide, ga_mem 73 (by decide +kernel), by decide +kernel⟩
theorem in_Mo_refusal : ga_In mt_Mo_refusal := ⟨ga_mem 1175 (by decide +kernel), by decide +kernel, by decide, ga_mem 73 (by decide +kernel), by decide +kernel⟩
theorem in_Mo_effect : ga_In mt_Mo_effect := ⟨ga_mem 1179 (by decide +kernel), by decide +kernel, by decide, ga_mem 73 (by decide +kernel), by decide +kernel⟩
theorem in_Mo_valueAt : ga_In mt_Mo_valueAt := ⟨ga_mem 1183 (by decide +kernel), by decide +kernel, by decide, ga_mem 73 (by decide +kernel), by decide +kernel⟩
theorem in_Mo_valueThere : ga_In mt_Mo_valueThere := ⟨ga_mem 1187 (by decide +kernel), by decide +kernel, by decide, ga_mem 73 (by decide +kernel), by decide +kernel⟩
theorem in_Mo_chatter : ga_In mt_Mo_chatter := ⟨ga_mem 1191 (by decide +kernel), by decide +kernel, by decide, ga_mem 73 (by decide +kernel), by decide +kernel⟩
theorem in_Mo_chatters : ga_In mt_Mo_chatters := ⟨ga_mem 1195 (by decide +kernel), by decide +kernel, by decide, ga_mem 73 (by decide +kernel), by decide +kernel⟩
theorem in_Mo_calmReach : ga_In mt_Mo_calmReach := ⟨ga_mem 1199 (by decide +kernel), by decide +kernel, by decide, ga_mem 73 (by decide +kernel), by decide +kernel⟩
theorem in_Mo_steepest : ga_In mt_Mo_steepest := ⟨ga_mem 1203 (by decide +kernel), by decide +kernel, by decide, ga_mem 73 (by decide +kernel), by decide +kernel⟩
theorem lk_GT_61 : ga_LS "GainTables" 61 mt_GT_isAxis 1 := ⟨in_GT_isAxis, ga_mem 324 (by decide +kernel), ga_mem 325 (by decide +kernel), by decide +kernel⟩
theorem lk_GT_65 : ga_LS "GainTables" 65 mt_GT_isIn 3 := ⟨in_GT_isIn, ga_mem 327 (by decide +kernel), ga_mem 328 (by decide +kernel), by decide +kernel⟩
theorem lk_GT_69 : ga_LS "GainTables" 69 mt_GT_isReach 2 := ⟨in_GT_isReach, ga_mem 330 (by decide +kernel), ga_mem 331 (by decide +kernel), by decide +kernel⟩
theorem lk_GT_73 : ga_LS "GainTables" 73 mt_Borders_isInside 2 := ⟨in_Borders_isInside, ga_mem 333 (by decide +kernel), ga_mem 334 (by decide +kernel), by decide +kernel⟩
theorem kw_GT_76 : Cond.constant "GainTables" 76 (-2000000001 : Int32) ∈ ga_T := ga_mem 336 (by decide +kernel)
theorem fl_GT_12 : ga_FL "GainTables" 12 7 0 := ⟨_, _, _, rfl, by decide, in_GT, ga_mem 292 (by decide +kernel), rfl⟩
theorem fl_GT_77 : ga_FL "GainTables" 77 4 0 := ⟨_, _, _, rfl, by decide, in_State, ga_mem 162 (by decide +kernel), rfl⟩
theorem lk_GT_80 : ga_LV "GainTables" 80 mt_Table_bordersOf 1 := ⟨in_Table_bordersOf, ga_mem 337 (by decide +kernel), ga_mem 338 (by decide +kernel), ga_mem 339 (by decide +kernel), by decide +kernel⟩
theorem lk_GT_84 : ga_LV "GainTables" 84 mt_Borders_isFree 3 := ⟨in_Borders_isFree, ga_mem 341 (by decide +kernel), ga_mem 342 (by decide +kernel), ga_mem 343 (by decide +kernel), by decide +kernel⟩
theorem kw_GT_87 : Cond.constant "GainTables" 87 (-2000000002 : Int32) ∈ ga_T := ga_mem 345 (by decide +kernel)
theorem lk_GT_88 : ga_LV "GainTables" 88 mt_Borders_isFull 0 := ⟨in_Borders_isFull, ga_mem 346 (by decide +kernel), ga_mem 347 (by decide +kernel), ga_mem 348 (by decide +kernel), by decide +kernel⟩
theorem kw_GT_92 : Cond.constant "GainTables" 92 (-2000000003 : Int32) ∈ ga_T := ga_mem 350 (by decide +kernel)
theorem fl_GT_19 : ga_FL "GainTables" 19 7 1 := ⟨_, _, _, rfl, by decide, in_GT, ga_mem 293 (by decide +kernel), rfl⟩
theorem lk_GT_93 : ga_LV "GainTables" 93 mt_History_keep 1 := ⟨in_History_keep, ga_mem 351 (by decide +kernel), ga_mem 352 (by decide +kernel), ga_mem 353 (by decide +kernel), by decide +kernel⟩
theorem lk_GT_97 : ga_LV "GainTables" 97 mt_Table_sumOfGains 0 := ⟨in_Table_sumOfGains, ga_mem 377 (by decide +kernel), ga_mem 378 (by decide +kernel), ga_mem 379 (by decide +kernel), by decide +kernel⟩
theorem lk_GT_101 : ga_LV "GainTables" 101 mt_Table_splitAt 4 := ⟨in_Table_splitAt, ga_mem 388 (by decide +kernel), ga_mem 389 (by decide +kernel), ga_mem 390 (by decide +kernel), by decide +kernel⟩
theorem lk_GT_105 : ga_LV "GainTables" 105 mt_State_settleTable 1 := ⟨in_State_settleTable, ga_mem 422 (by decide +kernel), ga_mem 423 (by decide +kernel), ga_mem 424 (by decide +kernel), by decide +kernel⟩
theorem fl_Table_12 : ga_FL "GainTables$Table" 12 5 0 := ⟨_, _, _, rfl, by decide, in_Table, ga_mem 123 (by decide +kernel), rfl⟩
theorem fl_Table_18 : ga_FL "GainTables$Table" 18 5 1 := ⟨_, _, _, rfl, by decide, in_Table, ga_mem 127 (by decide +kernel), rfl⟩
theorem fl_Borders_21 : ga_FL "GainTables$Borders" 21 1 0 := ⟨_, _, _, rfl, by decide, in_Borders, ga_mem 102 (by decide +kernel), rfl⟩
theorem fl_Borders_9 : ga_FL "GainTables$Borders" 9 1 1 := ⟨_, _, _, rfl, by decide, in_Borders, ga_mem 106 (by decide +kernel), rfl⟩
theorem fl_Borders_18 : ga_FL "GainTables$Borders" 18 1 3 := ⟨_, _, _, rfl, by decide, in_Borders, ga_mem 108 (by decide +kernel), rfl⟩
theorem fl_History_18 : ga_FL "GainTables$History" 18 2 0 := ⟨_, _, _, rfl, by decide, in_History, ga_mem 228 (by decide +kernel), rfl⟩
theorem fl_History_22 : ga_FL "GainTables$History" 22 2 1 := ⟨_, _, _, rfl, by decide, in_History, ga_mem 230 (by decide +kernel), rfl⟩
theorem fp_History_22 : ga_FP "GainTables$History" 22 2 1 := ⟨_, _, _, y_History, rfl, by decide, in_History, ga_mem 230 (by decide +kernel), rfl, ty_History, nm_History, rfl, by decide +kernel⟩
theorem fp_History_18 : ga_FP "GainTables$History" 18 2 0 := ⟨_, _, _, y_History, rfl, by decide, in_History, ga_mem 228 (by decide +kernel), rfl, ty_History, nm_History, rfl, by decide +kernel⟩
theorem fl_History_11 : ga_FL "GainTables$History" 11 2 2 := ⟨_, _, _, rfl, by decide, in_History, ga_mem 231 (by decide +kernel), rfl⟩
theorem lk_History_25 : ga_LV "GainTables$History" 25 mt_State_copyFrom 1 := ⟨in_State_copyFrom, ga_mem 355 (by decide +kernel), ga_mem 356 (by decide +kernel), ga_mem 357 (by decide +kernel), by decide +kernel⟩
theorem fl_State_12 : ga_FL "GainTables$State" 12 4 0 := ⟨_, _, _, rfl, by decide, in_State, ga_mem 161 (by decide +kernel), rfl⟩
theorem lk_State_63 : ga_LV "GainTables$State" 63 mt_Table_copyFrom 1 := ⟨in_Table_copyFrom, ga_mem 359 (by decide +kernel), ga_mem 360 (by decide +kernel), ga_mem 361 (by decide +kernel), by decide +kernel⟩
theorem fl_State_18 : ga_FL "GainTables$State" 18 4 1 := ⟨_, _, _, rfl, by decide, in_State, ga_mem 163 (by decide +kernel), rfl⟩
theorem fl_State_21 : ga_FL "GainTables$State" 21 4 2 := ⟨_, _, _, rfl, by decide, in_State, ga_mem 164 (by decide +kernel), rfl⟩
theorem fl_State_24 : ga_FL "GainTables$State" 24 4 3 := ⟨_, _, _, rfl, by decide, in_State, ga_mem 165 (by decide +kernel), rfl⟩
theorem fl_State_27 : ga_FL "GainTables$State" 27 4 4 := ⟨_, _, _, rfl, by decide, in_State, ga_mem 166 (by decide +kernel), rfl⟩
theorem fl_State_31 : ga_FL "GainTables$State" 31 4 5 := ⟨_, _, _, rfl, by decide, in_State, ga_mem 168 (by decide +kernel), rfl⟩
theorem lk_State_67 : Cond.methodLink "GainTables$State" 67 arraycopyName ∈ ga_T := ga_mem 371 (by decide +kernel)
theorem fl_State_35 : ga_FL "GainTables$State" 35 4 6 := ⟨_, _, _, rfl, by decide, in_State, ga_mem 170 (by decide +kernel), rfl⟩
theorem fl_State_73 : ga_FL "GainTables$State" 73 4 7 := ⟨_, _, _, rfl, by decide, in_State, ga_mem 172 (by decide +kernel), rfl⟩
theorem fp_State_73 : ga_FP "GainTables$State" 73 4 7 := ⟨_, _, _, y_State, rfl, by decide, in_State, ga_mem 172 (by decide +kernel), rfl, ty_State, nm_State, rfl, by decide +kernel⟩
theorem fl_State_41 : ga_FL "GainTables$State" 41 4 8 := ⟨_, _, _, rfl, by decide, in_State, ga_mem 174 (by decide +kernel), rfl⟩
theorem lk_State_77 : ga_LV "GainTables$State" 77 mt_Path_copyFrom 1 := ⟨in_Path_copyFrom, ga_mem 372 (by decide +kernel), ga_mem 373 (by decide +kernel), ga_mem 374 (by decide +kernel), by decide +kernel⟩
theorem fl_State_80 : ga_FL "GainTables$State" 80 4 9 := ⟨_, _, _, rfl, by decide, in_State, ga_mem 176 (by decide +kernel), rfl⟩
theorem fp_State_80 : ga_FP "GainTables$State" 80 4 9 := ⟨_, _, _, y_State, rfl, by decide, in_State, ga_mem 176 (by decide +kernel), rfl, ty_State, nm_State, rfl, by decide +kernel⟩
theorem fl_State_83 : ga_FL "GainTables$State" 83 4 10 := ⟨_, _, _, rfl, by decide, in_State, ga_mem 178 (by decide +kernel), rfl⟩
theorem fp_State_83 : ga_FP "GainTables$State" 83 4 10 := ⟨_, _, _, y_State, rfl, by decide, in_State, ga_mem 178 (by decide +kernel), rfl, ty_State, nm_State, rfl, by decide +kernel⟩
theorem fl_State_45 : ga_FL "GainTables$State" 45 4 11 := ⟨_, _, _, rfl, by decide, in_State, ga_mem 180 (by decide +kernel), rfl⟩
theorem fl_State_48 : ga_FL "GainTables$State" 48 4 12 := ⟨_, _, _, rfl, by decide, in_State, ga_mem 182 (by decide +kernel), rfl⟩
theorem fl_State_51 : ga_FL "GainTables$State" 51 4 13 := ⟨_, _, _, rfl, by decide, in_State, ga_mem 184 (by decide +kernel), rfl⟩
theorem fl_State_54 : ga_FL "GainTables$State" 54 4 14 := ⟨_, _, _, rfl, by decide, in_State, ga_mem 186 (by decide +kernel), rfl⟩
theorem lk_Table_39 : ga_LV "GainTables$Table" 39 mt_Borders_copyFrom 1 := ⟨in_Borders_copyFrom, ga_mem 363 (by decide +kernel), ga_mem 364 (by decide +kernel), ga_mem 365 (by decide +kernel), by decide +kernel⟩
theorem fl_Table_21 : ga_FL "GainTables$Table" 21 5 2 := ⟨_, _, _, rfl, by decide, in_Table, ga_mem 131 (by decide +kernel), rfl⟩
theorem lk_Table_43 : Cond.methodLink "GainTables$Table" 43 arraycopyName ∈ ga_T := ga_mem 370 (by decide +kernel)
theorem fl_Table_25 : ga_FL "GainTables$Table" 25 5 3 := ⟨_, _, _, rfl, by decide, in_Table, ga_mem 132 (by decide +kernel), rfl⟩
theorem fp_Borders_21 : ga_FP "GainTables$Borders" 21 1 0 := ⟨_, _, _, y_Borders, rfl, by decide, in_Borders, ga_mem 102 (by decide +kernel), rfl, ty_Borders, nm_Borders, rfl, by decide +kernel⟩
theorem lk_Borders_25 : Cond.methodLink "GainTables$Borders" 25 arraycopyName ∈ ga_T := ga_mem 367 (by decide +kernel)
theorem fl_Borders_15 : ga_FL "GainTables$Borders" 15 1 2 := ⟨_, _, _, rfl, by decide, in_Borders, ga_mem 107 (by decide +kernel), rfl⟩
theorem fl_Path_15 : ga_FL "GainTables$Path" 15 3 0 := ⟨_, _, _, rfl, by decide, in_Path, ga_mem 148 (by decide +kernel), rfl⟩
theorem fp_Path_15 : ga_FP "GainTables$Path" 15 3 0 := ⟨_, _, _, y_Path, rfl, by decide, in_Path, ga_mem 148 (by decide +kernel), rfl, ty_Path, nm_Path, rfl, by decide +kernel⟩
theorem fl_Path_19 : ga_FL "GainTables$Path" 19 3 1 := ⟨_, _, _, rfl, by decide, in_Path, ga_mem 150 (by decide +kernel), rfl⟩
theorem fp_Path_19 : ga_FP "GainTables$Path" 19 3 1 := ⟨_, _, _, y_Path, rfl, by decide, in_Path, ga_mem 150 (by decide +kernel), rfl, ty_Path, nm_Path, rfl, by decide +kernel⟩
theorem fl_Path_9 : ga_FL "GainTables$Path" 9 3 2 := ⟨_, _, _, rfl, by decide, in_Path, ga_mem 151 (by decide +kernel), rfl⟩
theorem lk_Path_22 : Cond.methodLink "GainTables$Path" 22 arraycopyName ∈ ga_T := ga_mem 376 (by decide +kernel)
theorem fl_Table_35 : ga_FL "GainTables$Table" 35 1 0 := ⟨_, _, _, rfl, by decide, in_Borders, ga_mem 103 (by decide +kernel), rfl⟩
theorem lk_Table_49 : ga_LS "GainTables$Table" 49 mt_Table_regionAt 2 := ⟨in_Table_regionAt, ga_mem 381 (by decide +kernel), ga_mem 382 (by decide +kernel), by decide +kernel⟩
theorem lk_Table_57 : ga_LV "GainTables$Table" 57 mt_Table_gainAt 2 := ⟨in_Table_gainAt, ga_mem 384 (by decide +kernel), ga_mem 385 (by decide +kernel), ga_mem 386 (by decide +kernel), by decide +kernel⟩
theorem lk_Table_74 : ga_LV "GainTables$Table" 74 mt_Table_bordersOf 1 := ⟨in_Table_bordersOf, ga_mem 392 (by decide +kernel), ga_mem 338 (by decide +kernel), ga_mem 339 (by decide +kernel), by decide +kernel⟩
theorem lk_Table_78 : ga_LV "GainTables$Table" 78 mt_Borders_insert 3 := ⟨in_Borders_insert, ga_mem 393 (by decide +kernel), ga_mem 394 (by decide +kernel), ga_mem 395 (by decide +kernel), by decide +kernel⟩
theorem lk_Table_82 : ga_LV "GainTables$Table" 82 mt_Table_copyStrip 3 := ⟨in_Table_copyStrip, ga_mem 406 (by decide +kernel), ga_mem 408 (by decide +kernel), ga_mem 1 (by decide +kernel), by decide +kernel⟩
theorem lk_Borders_51 : ga_LV "GainTables$Borders" 51 mt_Borders_stripOf 1 := ⟨in_Borders_stripOf, ga_mem 397 (by decide +kernel), ga_mem 398 (by decide +kernel), ga_mem 399 (by decide +kernel), by decide +kernel⟩
theorem lk_Borders_54 : ga_LV "GainTables$Borders" 54 mt_Borders_isFull 0 := ⟨in_Borders_isFull, ga_mem 401 (by decide +kernel), ga_mem 347 (by decide +kernel), ga_mem 348 (by decide +kernel), by decide +kernel⟩
theorem lk_Borders_58 : ga_LV "GainTables$Borders" 58 mt_Borders_copyBorder 2 := ⟨in_Borders_copyBorder, ga_mem 402 (by decide +kernel), ga_mem 404 (by decide +kernel), ga_mem 0 (by decide +kernel), by decide +kernel⟩
theorem lk_Table_90 : ga_LV "GainTables$Table" 90 mt_Table_putGain 3 := ⟨in_Table_putGain, ga_mem 410 (by decide +kernel), ga_mem 411 (by decide +kernel), ga_mem 412 (by decide +kernel), by decide +kernel⟩
theorem lk_Table_53 : ga_LV "GainTables$Table" 53 mt_Table_lockAt 1 := ⟨in_Table_lockAt, ga_mem 414 (by decide +kernel), ga_mem 415 (by decide +kernel), ga_mem 416 (by decide +kernel), by decide +kernel⟩
theorem lk_Table_93 : ga_LV "GainTables$Table" 93 mt_Table_putLock 2 := ⟨in_Table_putLock, ga_mem 418 (by decide +kernel), ga_mem 419 (by decide +kernel), ga_mem 420 (by decide +kernel), by decide +kernel⟩
theorem kw_Table_28 : Cond.constant "GainTables$Table" 28 (-2000000009 : Int32) ∈ ga_T := ga_mem 119 (by decide +kernel)
theorem lk_State_99 : ga_LV "GainTables$State" 99 mt_Table_sumOfGains 0 := ⟨in_Table_sumOfGains, ga_mem 426 (by decide +kernel), ga_mem 378 (by decide +kernel), ga_mem 379 (by decide +kernel), by decide +kernel⟩
theorem lk_State_103 : ga_LV "GainTables$State" 103 mt_State_findZones 0 := ⟨in_State_findZones, ga_mem 427 (by decide +kernel), ga_mem 428 (by decide +kernel), ga_mem 429 (by decide +kernel), by decide +kernel⟩
theorem fl_State_86 : ga_FL "GainTables$State" 86 5 0 := ⟨_, _, _, rfl, by decide, in_Table, ga_mem 124 (by decide +kernel), rfl⟩
theorem lk_State_90 : ga_LV "GainTables$State" 90 mt_Borders_zoneOf 1 := ⟨in_Borders_zoneOf, ga_mem 431 (by decide +kernel), ga_mem 432 (by decide +kernel), ga_mem 433 (by decide +kernel), by decide +kernel⟩
theorem fl_State_96 : ga_FL "GainTables$State" 96 5 1 := ⟨_, _, _, rfl, by decide, in_Table, ga_mem 129 (by decide +kernel), rfl⟩
theorem lk_GT_109 : ga_LV "GainTables" 109 mt_GT_isBorder 2 := ⟨in_GT_isBorder, ga_mem 439 (by decide +kernel), ga_mem 441 (by decide +kernel), ga_mem 2 (by decide +kernel), by decide +kernel⟩
theorem lk_GT_112 : ga_LV "GainTables" 112 mt_Table_mergeAt 2 := ⟨in_Table_mergeAt, ga_mem 447 (by decide +kernel), ga_mem 448 (by decide +kernel), ga_mem 449 (by decide +kernel), by decide +kernel⟩
theorem fl_GT_116 : ga_FL "GainTables" 116 1 0 := ⟨_, _, _, rfl, by decide, in_Borders, ga_mem 104 (by decide +kernel), rfl⟩
theorem lk_GT_283 : ga_LV "GainTables" 283 mt_Borders_has 1 := ⟨in_Borders_has, ga_mem 443 (by decide +kernel), ga_mem 444 (by decide +kernel), ga_mem 445 (by decide +kernel), by decide +kernel⟩
theorem lk_Table_86 : ga_LV "GainTables$Table" 86 mt_Borders_delete 1 := ⟨in_Borders_delete, ga_mem 451 (by decide +kernel), ga_mem 452 (by decide +kernel), ga_mem 453 (by decide +kernel), by decide +kernel⟩
theorem lk_Borders_31 : ga_LV "GainTables$Borders" 31 mt_Borders_has 1 := ⟨in_Borders_has, ga_mem 455 (by decide +kernel), ga_mem 444 (by decide +kernel), ga_mem 445 (by decide +kernel), by decide +kernel⟩
theorem lk_GT_120 : ga_LV "GainTables" 120 mt_Borders_positionOf 1 := ⟨in_Borders_positionOf, ga_mem 460 (by decide +kernel), ga_mem 461 (by decide +kernel), ga_mem 462 (by decide +kernel), by decide +kernel⟩
theorem lk_GT_124 : ga_LV "GainTables" 124 mt_Borders_kindOf 1 := ⟨in_Borders_kindOf, ga_mem 464 (by decide +kernel), ga_mem 465 (by decide +kernel), ga_mem 466 (by decide +kernel), by decide +kernel⟩
theorem lk_GT_127 : ga_LV "GainTables" 127 mt_Borders_reachOf 1 := ⟨in_Borders_reachOf, ga_mem 468 (by decide +kernel), ga_mem 469 (by decide +kernel), ga_mem 470 (by decide +kernel), by decide +kernel⟩
theorem lk_GT_130 : ga_LV "GainTables" 130 mt_Borders_putReach 2 := ⟨in_Borders_putReach, ga_mem 472 (by decide +kernel), ga_mem 473 (by decide +kernel), ga_mem 474 (by decide +kernel), by decide +kernel⟩
theorem lk_GT_133 : ga_LV "GainTables" 133 mt_State_findZones 0 := ⟨in_State_findZones, ga_mem 476 (by decide +kernel), ga_mem 428 (by decide +kernel), ga_mem 429 (by decide +kernel), by decide +kernel⟩
theorem lk_GT_136 : ga_LS "GainTables" 136 mt_GT_isOperator 1 := ⟨in_GT_isOperator, ga_mem 481 (by decide +kernel), ga_mem 482 (by decide +kernel), by decide +kernel⟩
theorem kw_GT_139 : Cond.constant "GainTables" 139 (99999 : Int32) ∈ ga_T := ga_mem 484 (by decide +kernel)
theorem fl_GT_140 : ga_FL "GainTables" 140 4 11 := ⟨_, _, _, rfl, by decide, in_State, ga_mem 181 (by decide +kernel), rfl⟩
theorem fl_GT_143 : ga_FL "GainTables" 143 4 12 := ⟨_, _, _, rfl, by decide, in_State, ga_mem 183 (by decide +kernel), rfl⟩
theorem lk_GT_146 : ga_LV "GainTables" 146 mt_GT_isEdit 5 := ⟨in_GT_isEdit, ga_mem 489 (by decide +kernel), ga_mem 491 (by decide +kernel), ga_mem 3 (by decide +kernel), by decide +kernel⟩
theorem lk_GT_150 : ga_LS "GainTables" 150 mt_Table_regionAt 2 := ⟨in_Table_regionAt, ga_mem 500 (by decide +kernel), ga_mem 382 (by decide +kernel), by decide +kernel⟩
theorem lk_GT_154 : ga_LV "GainTables" 154 mt_State_reasonAgainst 4 := ⟨in_State_reasonAgainst, ga_mem 501 (by decide +kernel), ga_mem 502 (by decide +kernel), ga_mem 503 (by decide +kernel), by decide +kernel⟩
theorem lk_GT_157 : ga_LV "GainTables" 157 mt_Table_gainAt 2 := ⟨in_Table_gainAt, ga_mem 511 (by decide +kernel), ga_mem 385 (by decide +kernel), ga_mem 386 (by decide +kernel), by decide +kernel⟩
theorem lk_GT_160 : ga_LV "GainTables" 160 mt_State_carryOutEdit 4 := ⟨in_State_carryOutEdit, ga_mem 512 (by decide +kernel), ga_mem 513 (by decide +kernel), ga_mem 514 (by decide +kernel), by decide +kernel⟩
theorem lk_GT_178 : ga_LV "GainTables" 178 mt_GT_isRegion 2 := ⟨in_GT_isRegion, ga_mem 493 (by decide +kernel), ga_mem 495 (by decide +kernel), ga_mem 4 (by decide +kernel), by decide +kernel⟩
theorem lk_GT_164 : ga_LS "GainTables" 164 mt_GT_isGain 1 := ⟨in_GT_isGain, ga_mem 497 (by decide +kernel), ga_mem 498 (by decide +kernel), by decide +kernel⟩
theorem fl_GT_167 : ga_FL "GainTables" 167 5 0 := ⟨_, _, _, rfl, by decide, in_Table, ga_mem 126 (by decide +kernel), rfl⟩
theorem fl_GT_170 : ga_FL "GainTables" 170 5 1 := ⟨_, _, _, rfl, by decide, in_Table, ga_mem 130 (by decide +kernel), rfl⟩
theorem lk_State_126 : ga_LV "GainTables$State" 126 mt_Table_lockAt 1 := ⟨in_Table_lockAt, ga_mem 505 (by decide +kernel), ga_mem 415 (by decide +kernel), ga_mem 416 (by decide +kernel), by decide +kernel⟩
theorem kw_State_129 : Cond.constant "GainTables$State" 129 (-2000000009 : Int32) ∈ ga_T := ga_mem 506 (by decide +kernel)
theorem lk_State_130 : ga_LV "GainTables$State" 130 mt_Table_gainAt 2 := ⟨in_Table_gainAt, ga_mem 507 (by decide +kernel), ga_mem 385 (by decide +kernel), ga_mem 386 (by decide +kernel), by decide +kernel⟩
theorem lk_State_110 : ga_LS "GainTables$State" 110 mt_Math_abs 1 := ⟨in_Math_abs, ga_mem 508 (by decide +kernel), ga_mem 509 (by decide +kernel), by decide +kernel⟩
theorem lk_State_133 : ga_LV "GainTables$State" 133 mt_Table_putGain 3 := ⟨in_Table_putGain, ga_mem 516 (by decide +kernel), ga_mem 411 (by decide +kernel), ga_mem 412 (by decide +kernel), by decide +kernel⟩
theorem lk_GT_173 : ga_LS "GainTables" 173 mt_Math_min 2 := ⟨in_Math_min, ga_mem 521 (by decide +kernel), ga_mem 522 (by decide +kernel), by decide +kernel⟩
theorem kw_GT_181 : Cond.constant "GainTables" 181 (-2000000009 : Int32) ∈ ga_T := ga_mem 528 (by decide +kernel)
theorem lk_GT_182 : ga_LV "GainTables" 182 mt_Table_lockAt 1 := ⟨in_Table_lockAt, ga_mem 529 (by decide +kernel), ga_mem 415 (by decide +kernel), ga_mem 416 (by decide +kernel), by decide +kernel⟩
theorem lk_GT_185 : ga_LV "GainTables" 185 mt_Table_putLock 2 := ⟨in_Table_putLock, ga_mem 530 (by decide +kernel), ga_mem 419 (by decide +kernel), ga_mem 420 (by decide +kernel), by decide +kernel⟩
theorem lk_GT_188 : ga_LV "GainTables" 188 mt_Table_locksOf 1 := ⟨in_Table_locksOf, ga_mem 531 (by decide +kernel), ga_mem 532 (by decide +kernel), ga_mem 533 (by decide +kernel), by decide +kernel⟩
theorem fl_GT_191 : ga_FL "GainTables" 191 4 7 := ⟨_, _, _, rfl, by decide, in_State, ga_mem 173 (by decide +kernel), rfl⟩
theorem fp_GT_191 : ga_FP "GainTables" 191 4 7 := ⟨_, _, _, y_State, rfl, by decide, in_State, ga_mem 173 (by decide +kernel), rfl, ty_State, nm_State, rfl, by decide +kernel⟩
theorem lk_GT_194 : ga_LS "GainTables" 194 mt_GT_isCoordinate 1 := ⟨in_GT_isCoordinate, ga_mem 543 (by decide +kernel), ga_mem 544 (by decide +kernel), by decide +kernel⟩
theorem lk_GT_197 : ga_LV "GainTables" 197 mt_GT_carryOutMove 2 := ⟨in_GT_carryOutMove, ga_mem 546 (by decide +kernel), ga_mem 548 (by decide +kernel), ga_mem 5 (by decide +kernel), by decide +kernel⟩
theorem lk_GT_304 : ga_LV "GainTables" 304 mt_State_ignores 2 := ⟨in_State_ignores, ga_mem 550 (by decide +kernel), ga_mem 551 (by decide +kernel), ga_mem 552 (by decide +kernel), by decide +kernel⟩
theorem fl_GT_257 : ga_FL "GainTables" 257 4 9 := ⟨_, _, _, rfl, by decide, in_State, ga_mem 177 (by decide +kernel), rfl⟩
theorem fp_GT_257 : ga_FP "GainTables" 257 4 9 := ⟨_, _, _, y_State, rfl, by decide, in_State, ga_mem 177 (by decide +kernel), rfl, ty_State, nm_State, rfl, by decide +kernel⟩
theorem lk_GT_266 : ga_LV "GainTables" 266 mt_GT_blendAtPoint 0 := ⟨in_GT_blendAtPoint, ga_mem 554 (by decide +kernel), ga_mem 556 (by decide +kernel), ga_mem 6 (by decide +kernel), by decide +kernel⟩
theorem fl_GT_54 : ga_FL "GainTables" 54 7 7 := ⟨_, _, _, rfl, by decide, in_GT, ga_mem 299 (by decide +kernel), rfl⟩
theorem lk_GT_310 : ga_LV "GainTables" 310 mt_GT_noteValues 1 := ⟨in_GT_noteValues, ga_mem 577 (by decide +kernel), ga_mem 579 (by decide +kernel), ga_mem 7 (by decide +kernel), by decide +kernel⟩
theorem lk_GT_343 : ga_LV "GainTables" 343 mt_State_putPoint 2 := ⟨in_State_putPoint, ga_mem 589 (by decide +kernel), ga_mem 590 (by decide +kernel), ga_mem 591 (by decide +kernel), by decide +kernel⟩
theorem fl_GT_58 : ga_FL "GainTables" 58 7 8 := ⟨_, _, _, rfl, by decide, in_GT, ga_mem 300 (by decide +kernel), rfl⟩
theorem lk_GT_318 : ga_LV "GainTables" 318 mt_GT_greatestDifference 0 := ⟨in_GT_greatestDifference, ga_mem 597 (by decide +kernel), ga_mem 599 (by decide +kernel), ga_mem 9 (by decide +kernel), by decide +kernel⟩
theorem lk_GT_346 : ga_LV "GainTables" 346 mt_State_noteEntry 2 := ⟨in_State_noteEntry, ga_mem 603 (by decide +kernel), ga_mem 604 (by decide +kernel), ga_mem 605 (by decide +kernel), by decide +kernel⟩
theorem fl_GT_260 : ga_FL "GainTables" 260 4 10 := ⟨_, _, _, rfl, by decide, in_State, ga_mem 179 (by decide +kernel), rfl⟩
theorem fp_GT_260 : ga_FP "GainTables" 260 4 10 := ⟨_, _, _, y_State, rfl, by decide, in_State, ga_mem 179 (by decide +kernel), rfl, ty_State, nm_State, rfl, by decide +kernel⟩
theorem fl_GT_47 : ga_FL "GainTables" 47 7 5 := ⟨_, _, _, rfl, by decide, in_GT, ga_mem 297 (by decide +kernel), rfl⟩
theorem fl_GT_207 : ga_FL "GainTables" 207 4 6 := ⟨_, _, _, rfl, by decide, in_State, ga_mem 171 (by decide +kernel), rfl⟩
theorem fl_GT_200 : ga_FL "GainTables" 200 4 5 := ⟨_, _, _, rfl, by decide, in_State, ga_mem 169 (by decide +kernel), rfl⟩
theorem lk_GT_314 : ga_LV "GainTables" 314 mt_Blend_findIn 3 := ⟨in_Blend_findIn, ga_mem 558 (by decide +kernel), ga_mem 559 (by decide +kernel), ga_mem 560 (by decide +kernel), by decide +kernel⟩
theorem fl_GT_51 : ga_FL "GainTables" 51 7 6 := ⟨_, _, _, rfl, by decide, in_GT, ga_mem 298 (by decide +kernel), rfl⟩
theorem lk_Blend_15 : ga_LV "GainTables$Blend" 15 mt_Borders_heldIn 2 := ⟨in_Borders_heldIn, ga_mem 562 (by decide +kernel), ga_mem 563 (by decide +kernel), ga_mem 564 (by decide +kernel), by decide +kernel⟩
theorem lk_Blend_21 : ga_LV "GainTables$Blend" 21 mt_Borders_blendingAt 1 := ⟨in_Borders_blendingAt, ga_mem 570 (by decide +kernel), ga_mem 571 (by decide +kernel), ga_mem 572 (by decide +kernel), by decide +kernel⟩
theorem lk_Blend_25 : ga_LV "GainTables$Blend" 25 mt_Borders_stripOf 1 := ⟨in_Borders_stripOf, ga_mem 574 (by decide +kernel), ga_mem 398 (by decide +kernel), ga_mem 399 (by decide +kernel), by decide +kernel⟩
theorem fp_Blend_28 : ga_FP "GainTables$Blend" 28 0 0 := ⟨_, _, _, y_Blend, rfl, by decide, in_Blend, ga_mem 271 (by decide +kernel), rfl, ty_Blend, nm_Blend, rfl, by decide +kernel⟩
theorem fl_Blend_28 : ga_FL "GainTables$Blend" 28 0 0 := ⟨_, _, _, rfl, by decide, in_Blend, ga_mem 271 (by decide +kernel), rfl⟩
theorem fp_Blend_31 : ga_FP "GainTables$Blend" 31 0 1 := ⟨_, _, _, y_Blend, rfl, by decide, in_Blend, ga_mem 274 (by decide +kernel), rfl, ty_Blend, nm_Blend, rfl, by decide +kernel⟩
theorem fp_Blend_34 : ga_FP "GainTables$Blend" 34 0 2 := ⟨_, _, _, y_Blend, rfl, by decide, in_Blend, ga_mem 277 (by decide +kernel), rfl, ty_Blend, nm_Blend, rfl, by decide +kernel⟩
theorem fp_Blend_9 : ga_FP "GainTables$Blend" 9 0 3 := ⟨_, _, _, y_Blend, rfl, by decide, in_Blend, ga_mem 280 (by decide +kernel), rfl, ty_Blend, nm_Blend, rfl, by decide +kernel⟩
theorem lk_Blend_37 : ga_LV "GainTables$Blend" 37 mt_Borders_reachOf 1 := ⟨in_Borders_reachOf, ga_mem 575 (by decide +kernel), ga_mem 469 (by decide +kernel), ga_mem 470 (by decide +kernel), by decide +kernel⟩
theorem lk_Blend_40 : ga_LV "GainTables$Blend" 40 mt_Borders_positionOf 1 := ⟨in_Borders_positionOf, ga_mem 576 (by decide +kernel), ga_mem 461 (by decide +kernel), ga_mem 462 (by decide +kernel), by decide +kernel⟩
theorem lk_Borders_39 : ga_LS "GainTables$Borders" 39 mt_Math_max 2 := ⟨in_Math_max, ga_mem 566 (by decide +kernel), ga_mem 567 (by decide +kernel), by decide +kernel⟩
theorem lk_Borders_45 : ga_LS "GainTables$Borders" 45 mt_Math_min 2 := ⟨in_Math_min, ga_mem 569 (by decide +kernel), ga_mem 522 (by decide +kernel), by decide +kernel⟩
theorem lk_GT_295 : ga_LV "GainTables" 295 mt_GT_blendedValue 1 := ⟨in_GT_blendedValue, ga_mem 581 (by decide +kernel), ga_mem 583 (by decide +kernel), ga_mem 8 (by decide +kernel), by decide +kernel⟩
theorem fl_GT_280 : ga_FL "GainTables" 280 0 3 := ⟨_, _, _, rfl, by decide, in_Blend, ga_mem 282 (by decide +kernel), rfl⟩
theorem lk_GT_298 : ga_LV "GainTables" 298 mt_Table_numerator 3 := ⟨in_Table_numerator, ga_mem 585 (by decide +kernel), ga_mem 586 (by decide +kernel), ga_mem 587 (by decide +kernel), by decide +kernel⟩
theorem fl_Table_60 : ga_FL "GainTables$Table" 60 0 3 := ⟨_, _, _, rfl, by decide, in_Blend, ga_mem 281 (by decide +kernel), rfl⟩
theorem fl_Table_65 : ga_FL "GainTables$Table" 65 0 2 := ⟨_, _, _, rfl, by decide, in_Blend, ga_mem 278 (by decide +kernel), rfl⟩
theorem fl_Table_68 : ga_FL "GainTables$Table" 68 0 0 := ⟨_, _, _, rfl, by decide, in_Blend, ga_mem 272 (by decide +kernel), rfl⟩
theorem fl_Table_71 : ga_FL "GainTables$Table" 71 0 1 := ⟨_, _, _, rfl, by decide, in_Blend, ga_mem 275 (by decide +kernel), rfl⟩
theorem lk_State_115 : ga_LV "GainTables$State" 115 mt_Borders_zoneAfter 2 := ⟨in_Borders_zoneAfter, ga_mem 593 (by decide +kernel), ga_mem 594 (by decide +kernel), ga_mem 595 (by decide +kernel), by decide +kernel⟩
theorem lk_GT_337 : ga_LS "GainTables" 337 mt_Math_abs 1 := ⟨in_Math_abs, ga_mem 601 (by decide +kernel), ga_mem 509 (by decide +kernel), by decide +kernel⟩
theorem lk_GT_340 : ga_LS "GainTables" 340 mt_Math_max 2 := ⟨in_Math_max, ga_mem 602 (by decide +kernel), ga_mem 567 (by decide +kernel), by decide +kernel⟩
theorem lk_State_119 : ga_LV "GainTables$State" 119 mt_Path_startEntry 0 := ⟨in_Path_startEntry, ga_mem 607 (by decide +kernel), ga_mem 608 (by decide +kernel), ga_mem 609 (by decide +kernel), by decide +kernel⟩
theorem lk_State_122 : ga_LV "GainTables$State" 122 mt_Path_putPart 2 := ⟨in_Path_putPart, ga_mem 612 (by decide +kernel), ga_mem 613 (by decide +kernel), ga_mem 614 (by decide +kernel), by decide +kernel⟩
theorem lk_Path_28 : ga_LS "GainTables$Path" 28 mt_Math_min 2 := ⟨in_Math_min, ga_mem 611 (by decide +kernel), ga_mem 522 (by decide +kernel), by decide +kernel⟩
theorem lk_GT_203 : ga_LS "GainTables" 203 mt_GT_placeTowards 3 := ⟨in_GT_placeTowards, ga_mem 620 (by decide +kernel), ga_mem 621 (by decide +kernel), by decide +kernel⟩
theorem lk_GT_210 : ga_LS "GainTables" 210 mt_GT_isPlace 1 := ⟨in_GT_isPlace, ga_mem 627 (by decide +kernel), ga_mem 628 (by decide +kernel), by decide +kernel⟩
theorem lk_GT_213 : ga_LV "GainTables" 213 mt_State_snapshotAt 1 := ⟨in_State_snapshotAt, ga_mem 630 (by decide +kernel), ga_mem 631 (by decide +kernel), ga_mem 632 (by decide +kernel), by decide +kernel⟩
theorem lk_GT_217 : ga_LV "GainTables" 217 mt_Table_copyFrom 1 := ⟨in_Table_copyFrom, ga_mem 634 (by decide +kernel), ga_mem 360 (by decide +kernel), ga_mem 361 (by decide +kernel), by decide +kernel⟩
theorem fl_GT_221 : ga_FL "GainTables" 221 4 4 := ⟨_, _, _, rfl, by decide, in_State, ga_mem 167 (by decide +kernel), rfl⟩
theorem lk_GT_225 : ga_LV "GainTables" 225 mt_Table_regions 0 := ⟨in_Table_regions, ga_mem 635 (by decide +kernel), ga_mem 636 (by decide +kernel), ga_mem 637 (by decide +kernel), by decide +kernel⟩
theorem lk_GT_228 : ga_LV "GainTables" 228 mt_State_replaceTable 1 := ⟨in_State_replaceTable, ga_mem 643 (by decide +kernel), ga_mem 644 (by decide +kernel), ga_mem 645 (by decide +kernel), by decide +kernel⟩
theorem lk_State_106 : ga_LV "GainTables$State" 106 mt_State_settleTable 1 := ⟨in_State_settleTable, ga_mem 647 (by decide +kernel), ga_mem 423 (by decide +kernel), ga_mem 424 (by decide +kernel), by decide +kernel⟩
theorem fl_GT_231 : ga_FL "GainTables" 231 2 0 := ⟨_, _, _, rfl, by decide, in_History, ga_mem 229 (by decide +kernel), rfl⟩
theorem lk_GT_232 : ga_LV "GainTables" 232 mt_History_bringBack 1 := ⟨in_History_bringBack, ga_mem 652 (by decide +kernel), ga_mem 653 (by decide +kernel), ga_mem 654 (by decide +kernel), by decide +kernel⟩
theorem fl_GT_26 : ga_FL "GainTables" 26 7 2 := ⟨_, _, _, rfl, by decide, in_GT, ga_mem 294 (by decide +kernel), rfl⟩
theorem fl_GT_235 : ga_FL "GainTables" 235 6 0 := ⟨_, _, _, rfl, by decide, in_Text, ga_mem 246 (by decide +kernel), rfl⟩
theorem lk_GT_238 : ga_LV "GainTables" 238 mt_Text_put 1 := ⟨in_Text_put, ga_mem 660 (by decide +kernel), ga_mem 661 (by decide +kernel), ga_mem 662 (by decide +kernel), by decide +kernel⟩
theorem fl_Text_19 : ga_FL "GainTables$Text" 19 6 0 := ⟨_, _, _, rfl, by decide, in_Text, ga_mem 245 (by decide +kernel), rfl⟩
theorem fl_Text_15 : ga_FL "GainTables$Text" 15 6 3 := ⟨_, _, _, rfl, by decide, in_Text, ga_mem 250 (by decide +kernel), rfl⟩
theorem fp_Text_19 : ga_FP "GainTables$Text" 19 6 0 := ⟨_, _, _, y_Text, rfl, by decide, in_Text, ga_mem 245 (by decide +kernel), rfl, ty_Text, nm_Text, rfl, by decide +kernel⟩
theorem fp_GT_235 : ga_FP "GainTables" 235 6 0 := ⟨_, _, _, y_Text, rfl, by decide, in_Text, ga_mem 246 (by decide +kernel), rfl, ty_Text, nm_Text, rfl, by decide +kernel⟩
theorem fl_GT_33 : ga_FL "GainTables" 33 7 3 := ⟨_, _, _, rfl, by decide, in_GT, ga_mem 295 (by decide +kernel), rfl⟩
theorem lk_GT_242 : ga_LV "GainTables" 242 mt_Text_readInto 1 := ⟨in_Text_readInto, ga_mem 672 (by decide +kernel), ga_mem 673 (by decide +kernel), ga_mem 674 (by decide +kernel), by decide +kernel⟩
theorem fl_GT_246 : ga_FL "GainTables" 246 6 1 := ⟨_, _, _, rfl, by decide, in_Text, ga_mem 248 (by decide +kernel), rfl⟩
theorem kw_GT_249 : Cond.constant "GainTables" 249 (-2000001000 : Int32) ∈ ga_T := ga_mem 722 (by decide +kernel)
theorem lk_Text_22 : ga_LV "GainTables$Text" 22 mt_Table_clear 0 := ⟨in_Table_clear, ga_mem 676 (by decide +kernel), ga_mem 677 (by decide +kernel), ga_mem 678 (by decide +kernel), by decide +kernel⟩
theorem fp_Text_27 : ga_FP "GainTables$Text" 27 6 2 := ⟨_, _, _, y_Text, rfl, by decide, in_Text, ga_mem 249 (by decide +kernel), rfl, ty_Text, nm_Text, rfl, by decide +kernel⟩
theorem fp_Text_11 : ga_FP "GainTables$Text" 11 6 1 := ⟨_, _, _, y_Text, rfl, by decide, in_Text, ga_mem 247 (by decide +kernel), rfl, ty_Text, nm_Text, rfl, by decide +kernel⟩
theorem fl_Text_11 : ga_FL "GainTables$Text" 11 6 1 := ⟨_, _, _, rfl, by decide, in_Text, ga_mem 247 (by decide +kernel), rfl⟩
theorem lk_Text_30 : ga_LV "GainTables$Text" 30 mt_Text_peek 0 := ⟨in_Text_peek, ga_mem 680 (by decide +kernel), ga_mem 682 (by decide +kernel), ga_mem 10 (by decide +kernel), by decide +kernel⟩
theorem lk_Text_34 : ga_LV "GainTables$Text" 34 mt_Text_readItem 1 := ⟨in_Text_readItem, ga_mem 688 (by decide +kernel), ga_mem 690 (by decide +kernel), ga_mem 12 (by decide +kernel), by decide +kernel⟩
theorem fp_Table_35 : ga_FP "GainTables$Table" 35 1 0 := ⟨_, _, _, y_Borders, rfl, by decide, in_Borders, ga_mem 103 (by decide +kernel), rfl, ty_Borders, nm_Borders, rfl, by decide +kernel⟩
theorem lk_Table_29 : ga_LS "GainTables$Table" 29 mt_Arr_fill 2 := ⟨in_Arr_fill, ga_mem 120 (by decide +kernel), ga_mem 121 (by decide +kernel), by decide +kernel⟩
theorem fl_Text_27 : ga_FL "GainTables$Text" 27 6 2 := ⟨_, _, _, rfl, by decide, in_Text, ga_mem 249 (by decide +kernel), rfl⟩
theorem lk_Text_94 : ga_LV "GainTables$Text" 94 mt_Text_characterAt 1 := ⟨in_Text_characterAt, ga_mem 684 (by decide +kernel), ga_mem 686 (by decide +kernel), ga_mem 11 (by decide +kernel), by decide +kernel⟩
theorem lk_Text_38 : ga_LV "GainTables$Text" 38 mt_Text_readBorder 2 := ⟨in_Text_readBorder, ga_mem 692 (by decide +kernel), ga_mem 694 (by decide +kernel), ga_mem 13 (by decide +kernel), by decide +kernel⟩
theorem lk_Text_42 : ga_LV "GainTables$Text" 42 mt_Text_readGain 1 := ⟨in_Text_readGain, ga_mem 716 (by decide +kernel), ga_mem 718 (by decide +kernel), ga_mem 16 (by decide +kernel), by decide +kernel⟩
theorem lk_Text_45 : ga_LV "GainTables$Text" 45 mt_Text_readNumber 2 := ⟨in_Text_readNumber, ga_mem 696 (by decide +kernel), ga_mem 698 (by decide +kernel), ga_mem 14 (by decide +kernel), by decide +kernel⟩
theorem lk_Text_49 : ga_LV "GainTables$Text" 49 mt_Text_readEndOfItem 0 := ⟨in_Text_readEndOfItem, ga_mem 706 (by decide +kernel), ga_mem 708 (by decide +kernel), ga_mem 15 (by decide +kernel), by decide +kernel⟩
theorem lk_Text_52 : ga_LV "GainTables$Text" 52 mt_Table_bordersOf 1 := ⟨in_Table_bordersOf, ga_mem 710 (by decide +kernel), ga_mem 338 (by decide +kernel), ga_mem 339 (by decide +kernel), by decide +kernel⟩
theorem lk_Text_56 : ga_LN "GainTables$Text" 56 mt_GT_isReach 2 := ⟨in_GT_isReach, fun U h => h.2, ga_mem 331 (by decide +kernel), by decide +kernel⟩
theorem lk_Text_60 : ga_LS "GainTables$Text" 60 mt_Borders_isInside 2 := ⟨in_Borders_isInside, ga_mem 712 (by decide +kernel), ga_mem 334 (by decide +kernel), by decide +kernel⟩
theorem lk_Text_65 : ga_LV "GainTables$Text" 65 mt_Borders_isFree 3 := ⟨in_Borders_isFree, ga_mem 713 (by decide +kernel), ga_mem 342 (by decide +kernel), ga_mem 343 (by decide +kernel), by decide +kernel⟩
theorem lk_Text_69 : ga_LV "GainTables$Text" 69 mt_Borders_isFull 0 := ⟨in_Borders_isFull, ga_mem 714 (by decide +kernel), ga_mem 347 (by decide +kernel), ga_mem 348 (by decide +kernel), by decide +kernel⟩
theorem lk_Text_73 : ga_LV "GainTables$Text" 73 mt_Table_splitAt 4 := ⟨in_Table_splitAt, ga_mem 715 (by decide +kernel), ga_mem 389 (by decide +kernel), ga_mem 390 (by decide +kernel), by decide +kernel⟩
theorem lk_Text_98 : ga_LS "GainTables$Text" 98 mt_Text_isDigit 1 := ⟨in_Text_isDigit, ga_mem 700 (by decide +kernel), ga_mem 701 (by decide +kernel), by decide +kernel⟩
theorem kw_Text_102 : Cond.constant "GainTables$Text" 102 (1000000 : Int32) ∈ ga_T := ga_mem 703 (by decide +kernel)
theorem lk_Text_103 : ga_LS "GainTables$Text" 103 mt_Math_min 2 := ⟨in_Math_min, ga_mem 704 (by decide +kernel), ga_mem 522 (by decide +kernel), by decide +kernel⟩
theorem lk_Text_108 : ga_LN "GainTables$Text" 108 mt_GT_isIn 3 := ⟨in_GT_isIn, fun U h => h.1, ga_mem 328 (by decide +kernel), by decide +kernel⟩
theorem fl_Text_77 : ga_FL "GainTables$Text" 77 5 0 := ⟨_, _, _, rfl, by decide, in_Table, ga_mem 125 (by decide +kernel), rfl⟩
theorem fl_Text_81 : ga_FL "GainTables$Text" 81 1 0 := ⟨_, _, _, rfl, by decide, in_Borders, ga_mem 105 (by decide +kernel), rfl⟩
theorem fl_Text_84 : ga_FL "GainTables$Text" 84 5 1 := ⟨_, _, _, rfl, by decide, in_Table, ga_mem 128 (by decide +kernel), rfl⟩
theorem lk_Text_87 : ga_LS "GainTables$Text" 87 mt_Table_regionAt 2 := ⟨in_Table_regionAt, ga_mem 720 (by decide +kernel), ga_mem 382 (by decide +kernel), by decide +kernel⟩
theorem lk_Text_90 : ga_LV "GainTables$Text" 90 mt_Table_putGain 3 := ⟨in_Table_putGain, ga_mem 721 (by decide +kernel), ga_mem 411 (by decide +kernel), ga_mem 412 (by decide +kernel), by decide +kernel⟩
theorem fl_GT_250 : ga_FL "GainTables" 250 4 8 := ⟨_, _, _, rfl, by decide, in_State, ga_mem 175 (by decide +kernel), rfl⟩
theorem fl_GT_254 : ga_FL "GainTables" 254 3 0 := ⟨_, _, _, rfl, by decide, in_Path, ga_mem 149 (by decide +kernel), rfl⟩
theorem lk_GT_263 : ga_LV "GainTables" 263 mt_State_placesTaken 0 := ⟨in_State_placesTaken, ga_mem 727 (by decide +kernel), ga_mem 728 (by decide +kernel), ga_mem 729 (by decide +kernel), by decide +kernel⟩
theorem lk_GT_269 : ga_LV "GainTables" 269 mt_Borders_zones 0 := ⟨in_Borders_zones, ga_mem 735 (by decide +kernel), ga_mem 736 (by decide +kernel), ga_mem 737 (by decide +kernel), by decide +kernel⟩
theorem fl_GT_271 : ga_FL "GainTables" 271 0 0 := ⟨_, _, _, rfl, by decide, in_Blend, ga_mem 273 (by decide +kernel), rfl⟩
theorem fl_GT_274 : ga_FL "GainTables" 274 0 1 := ⟨_, _, _, rfl, by decide, in_Blend, ga_mem 276 (by decide +kernel), rfl⟩
theorem fl_GT_277 : ga_FL "GainTables" 277 0 2 := ⟨_, _, _, rfl, by decide, in_Blend, ga_mem 279 (by decide +kernel), rfl⟩
theorem lk_Borders_35 : ga_LV "GainTables$Borders" 35 mt_Borders_zoneOf 1 := ⟨in_Borders_zoneOf, ga_mem 739 (by decide +kernel), ga_mem 432 (by decide +kernel), ga_mem 433 (by decide +kernel), by decide +kernel⟩
theorem fl_GT_286 : ga_FL "GainTables" 286 4 13 := ⟨_, _, _, rfl, by decide, in_State, ga_mem 185 (by decide +kernel), rfl⟩
theorem lk_GT_289 : ga_LV "GainTables" 289 mt_State_sumOfAccounts 0 := ⟨in_State_sumOfAccounts, ga_mem 756 (by decide +kernel), ga_mem 757 (by decide +kernel), ga_mem 758 (by decide +kernel), by decide +kernel⟩
theorem fl_GT_292 : ga_FL "GainTables" 292 4 14 := ⟨_, _, _, rfl, by decide, in_State, ga_mem 187 (by decide +kernel), rfl⟩
theorem lk_GT_301 : ga_LV "GainTables" 301 mt_Path_partOf 2 := ⟨in_Path_partOf, ga_mem 768 (by decide +kernel), ga_mem 769 (by decide +kernel), ga_mem 770 (by decide +kernel), by decide +kernel⟩
theorem lk_Path_34 : ga_LS "GainTables$Path" 34 mt_Math_floorMod 2 := ⟨in_Math_floorMod, ga_mem 772 (by decide +kernel), ga_mem 773 (by decide +kernel), by decide +kernel⟩
theorem kw_Path_37 : Cond.constant "GainTables$Path" 37 (-2000000009 : Int32) ∈ ga_T := ga_mem 775 (by decide +kernel)
theorem lk_GT_307 : ga_LV "GainTables" 307 mt_Borders_zoneAfter 2 := ⟨in_Borders_zoneAfter, ga_mem 784 (by decide +kernel), ga_mem 594 (by decide +kernel), ga_mem 595 (by decide +kernel), by decide +kernel⟩
theorem lk_GT_321 : ga_LV "GainTables" 321 mt_Blend_findByPosition 2 := ⟨in_Blend_findByPosition, ga_mem 789 (by decide +kernel), ga_mem 790 (by decide +kernel), ga_mem 791 (by decide +kernel), by decide +kernel⟩
theorem lk_Blend_43 : ga_LV "GainTables$Blend" 43 mt_Borders_zoneOf 1 := ⟨in_Borders_zoneOf, ga_mem 793 (by decide +kernel), ga_mem 432 (by decide +kernel), ga_mem 433 (by decide +kernel), by decide +kernel⟩
theorem lk_Blend_46 : ga_LV "GainTables$Blend" 46 mt_Blend_findIn 3 := ⟨in_Blend_findIn, ga_mem 794 (by decide +kernel), ga_mem 559 (by decide +kernel), ga_mem 560 (by decide +kernel), by decide +kernel⟩
theorem lk_GT_325 : ga_LS "GainTables" 325 mt_GT_isSwing 2 := ⟨in_GT_isSwing, ga_mem 799 (by decide +kernel), ga_mem 800 (by decide +kernel), by decide +kernel⟩
theorem lk_GT_328 : ga_LV "GainTables" 328 mt_Borders_zoneChanges 4 := ⟨in_Borders_zoneChanges, ga_mem 802 (by decide +kernel), ga_mem 803 (by decide +kernel), ga_mem 804 (by decide +kernel), by decide +kernel⟩
theorem lk_Borders_48 : ga_LV "GainTables$Borders" 48 mt_Borders_zoneAfter 2 := ⟨in_Borders_zoneAfter, ga_mem 806 (by decide +kernel), ga_mem 594 (by decide +kernel), ga_mem 595 (by decide +kernel), by decide +kernel⟩
theorem fl_GT_40 : ga_FL "GainTables" 40 7 4 := ⟨_, _, _, rfl, by decide, in_GT, ga_mem 296 (by decide +kernel), rfl⟩
theorem lk_GT_331 : ga_LV "GainTables" 331 mt_Borders_copyFrom 1 := ⟨in_Borders_copyFrom, ga_mem 811 (by decide +kernel), ga_mem 364 (by decide +kernel), ga_mem 365 (by decide +kernel), by decide +kernel⟩
theorem lk_GT_334 : ga_LV "GainTables" 334 mt_Borders_zoneOf 1 := ⟨in_Borders_zoneOf, ga_mem 812 (by decide +kernel), ga_mem 432 (by decide +kernel), ga_mem 433 (by decide +kernel), by decide +kernel⟩
theorem fl_Mo_7 : ga_FL "GainTablesModel" 7 8 1 := ⟨_, _, _, rfl, by decide, in_Mo, ga_mem 828 (by decide +kernel), rfl⟩
theorem fp_Mo_37 : ga_FP "GainTablesModel" 37 8 0 := ⟨_, _, _, y_Mo, rfl, by decide, in_Mo, ga_mem 827 (by decide +kernel), rfl, ty_Mo, nm_Mo, rfl, by decide +kernel⟩
theorem lk_Mo_51 : ga_LS "GainTablesModel" 51 mt_Mo_isAxis 1 := ⟨in_Mo_isAxis, ga_mem 874 (by decide +kernel), ga_mem 875 (by decide +kernel), by decide +kernel⟩
theorem lk_Mo_47 : ga_LS "GainTablesModel" 47 mt_Mo_in 3 := ⟨in_Mo_in, ga_mem 877 (by decide +kernel), ga_mem 878 (by decide +kernel), by decide +kernel⟩
theorem lk_Mo_105 : ga_LS "GainTablesModel" 105 mt_Mo_isReach 2 := ⟨in_Mo_isReach, ga_mem 880 (by decide +kernel), ga_mem 881 (by decide +kernel), by decide +kernel⟩
theorem lk_Mo_109 : ga_LS "GainTablesModel" 109 mt_Mo_isInside 2 := ⟨in_Mo_isInside, ga_mem 883 (by decide +kernel), ga_mem 884 (by decide +kernel), by decide +kernel⟩
theorem kw_Mo_112 : Cond.constant "GainTablesModel" 112 (-2000000001 : Int32) ∈ ga_T := ga_mem 886 (by decide +kernel)
theorem kw_Mo_67 : Cond.constant "GainTablesModel" 67 (-2000000009 : Int32) ∈ ga_T := ga_mem 887 (by decide +kernel)
theorem lk_Mo_113 : ga_LV "GainTablesModel" 113 mt_Mo_isOccupied 4 := ⟨in_Mo_isOccupied, ga_mem 888 (by decide +kernel), ga_mem 890 (by decide +kernel), ga_mem 18 (by decide +kernel), by decide +kernel⟩
theorem kw_Mo_117 : Cond.constant "GainTablesModel" 117 (-2000000002 : Int32) ∈ ga_T := ga_mem 903 (by decide +kernel)
theorem lk_Mo_55 : ga_LV "GainTablesModel" 55 mt_Mo_borders 1 := ⟨in_Mo_borders, ga_mem 892 (by decide +kernel), ga_mem 894 (by decide +kernel), ga_mem 19 (by decide +kernel), by decide +kernel⟩
theorem kw_Mo_118 : Cond.constant "GainTablesModel" 118 (-2000000003 : Int32) ∈ ga_T := ga_mem 904 (by decide +kernel)
theorem lk_Mo_119 : ga_LV "GainTablesModel" 119 mt_Mo_act 0 := ⟨in_Mo_act, ga_mem 905 (by decide +kernel), ga_mem 907 (by decide +kernel), ga_mem 21 (by decide +kernel), by decide +kernel⟩
theorem lk_Mo_99 : ga_LV "GainTablesModel" 99 mt_Mo_allGains 0 := ⟨in_Mo_allGains, ga_mem 909 (by decide +kernel), ga_mem 911 (by decide +kernel), ga_mem 22 (by decide +kernel), by decide +kernel⟩
theorem lk_Mo_122 : ga_LV "GainTablesModel" 122 mt_Mo_insert 4 := ⟨in_Mo_insert, ga_mem 916 (by decide +kernel), ga_mem 918 (by decide +kernel), ga_mem 23 (by decide +kernel), by decide +kernel⟩
theorem lk_Mo_126 : ga_LV "GainTablesModel" 126 mt_Mo_settle 1 := ⟨in_Mo_settle, ga_mem 932 (by decide +kernel), ga_mem 934 (by decide +kernel), ga_mem 27 (by decide +kernel), by decide +kernel⟩
theorem lk_Mo_63 : ga_LV "GainTablesModel" 63 mt_Mo_ofBorder 3 := ⟨in_Mo_ofBorder, ga_mem 896 (by decide +kernel), ga_mem 898 (by decide +kernel), ga_mem 20 (by decide +kernel), by decide +kernel⟩
theorem lk_Mo_85 : ga_LS "GainTablesModel" 85 mt_Mo_apart 2 := ⟨in_Mo_apart, ga_mem 900 (by decide +kernel), ga_mem 901 (by decide +kernel), by decide +kernel⟩
theorem fl_Mo_44 : ga_FL "GainTablesModel" 44 8 4 := ⟨_, _, _, rfl, by decide, in_Mo, ga_mem 831 (by decide +kernel), rfl⟩
theorem fl_Mo_16 : ga_FL "GainTablesModel" 16 8 3 := ⟨_, _, _, rfl, by decide, in_Mo, ga_mem 830 (by decide +kernel), rfl⟩
theorem fp_Mo_44 : ga_FP "GainTablesModel" 44 8 4 := ⟨_, _, _, y_Mo, rfl, by decide, in_Mo, ga_mem 831 (by decide +kernel), rfl, ty_Mo, nm_Mo, rfl, by decide +kernel⟩
theorem lk_Mo_59 : ga_LS "GainTablesModel" 59 mt_Mo_at 2 := ⟨in_Mo_at, ga_mem 913 (by decide +kernel), ga_mem 914 (by decide +kernel), by decide +kernel⟩
theorem lk_Mo_92 : ga_LV "GainTablesModel" 92 mt_Mo_setBorder 5 := ⟨in_Mo_setBorder, ga_mem 920 (by decide +kernel), ga_mem 922 (by decide +kernel), ga_mem 24 (by decide +kernel), by decide +kernel⟩
theorem lk_Mo_96 : ga_LV "GainTablesModel" 96 mt_Mo_copyStrip 3 := ⟨in_Mo_copyStrip, ga_mem 924 (by decide +kernel), ga_mem 926 (by decide +kernel), ga_mem 25 (by decide +kernel), by decide +kernel⟩
theorem lk_Mo_88 : ga_LV "GainTablesModel" 88 mt_Mo_copyRegion 4 := ⟨in_Mo_copyRegion, ga_mem 928 (by decide +kernel), ga_mem 930 (by decide +kernel), ga_mem 26 (by decide +kernel), by decide +kernel⟩
theorem lk_Mo_102 : ga_LV "GainTablesModel" 102 mt_Mo_findZones 0 := ⟨in_Mo_findZones, ga_mem 936 (by decide +kernel), ga_mem 938 (by decide +kernel), ga_mem 28 (by decide +kernel), by decide +kernel⟩
theorem lk_Mo_68 : ga_LV "GainTablesModel" 68 mt_Mo_zoneOf 2 := ⟨in_Mo_zoneOf, ga_mem 940 (by decide +kernel), ga_mem 942 (by decide +kernel), ga_mem 29 (by decide +kernel), by decide +kernel⟩
theorem lk_Mo_130 : ga_LV "GainTablesModel" 130 mt_Mo_isBorder 2 := ⟨in_Mo_isBorder, ga_mem 948 (by decide +kernel), ga_mem 950 (by decide +kernel), ga_mem 30 (by decide +kernel), by decide +kernel⟩
theorem kw_Mo_133 : Cond.constant "GainTablesModel" 133 (99999 : Int32) ∈ ga_T := ga_mem 960 (by decide +kernel)
theorem lk_Mo_134 : ga_LS "GainTablesModel" 134 mt_Mo_isOperator 1 := ⟨in_Mo_isOperator, ga_mem 961 (by decide +kernel), ga_mem 962 (by decide +kernel), by decide +kernel⟩
theorem lk_Mo_140 : ga_LV "GainTablesModel" 140 mt_Mo_isEdit 5 := ⟨in_Mo_isEdit, ga_mem 968 (by decide +kernel), ga_mem 970 (by decide +kernel), ga_mem 31 (by decide +kernel), by decide +kernel⟩
theorem lk_Mo_144 : ga_LV "GainTablesModel" 144 mt_Mo_refusalOf 5 := ⟨in_Mo_refusalOf, ga_mem 976 (by decide +kernel), ga_mem 978 (by decide +kernel), ga_mem 33 (by decide +kernel), by decide +kernel⟩
theorem lk_Mo_148 : ga_LV "GainTablesModel" 148 mt_Mo_change 5 := ⟨in_Mo_change, ga_mem 980 (by decide +kernel), ga_mem 982 (by decide +kernel), ga_mem 34 (by decide +kernel), by decide +kernel⟩
theorem lk_Mo_137 : ga_LV "GainTablesModel" 137 mt_Mo_isRegion 2 := ⟨in_Mo_isRegion, ga_mem 972 (by decide +kernel), ga_mem 974 (by decide +kernel), ga_mem 32 (by decide +kernel), by decide +kernel⟩
theorem lk_Mo_151 : ga_LV "GainTablesModel" 151 mt_Mo_locksOf 1 := ⟨in_Mo_locksOf, ga_mem 992 (by decide +kernel), ga_mem 994 (by decide +kernel), ga_mem 35 (by decide +kernel), by decide +kernel⟩
theorem lk_Mo_179 : ga_LS "GainTablesModel" 179 mt_Mo_isCoordinate 1 := ⟨in_Mo_isCoordinate, ga_mem 1004 (by decide +kernel), ga_mem 1005 (by decide +kernel), by decide +kernel⟩
theorem lk_Mo_182 : ga_LV "GainTablesModel" 182 mt_Mo_moves 2 := ⟨in_Mo_moves, ga_mem 1007 (by decide +kernel), ga_mem 1009 (by decide +kernel), ga_mem 36 (by decide +kernel), by decide +kernel⟩
theorem lk_Mo_163 : ga_LV "GainTablesModel" 163 mt_Mo_isIgnored 2 := ⟨in_Mo_isIgnored, ga_mem 1011 (by decide +kernel), ga_mem 1013 (by decide +kernel), ga_mem 37 (by decide +kernel), by decide +kernel⟩
theorem lk_Mo_166 : ga_LV "GainTablesModel" 166 mt_Mo_noteValues 0 := ⟨in_Mo_noteValues, ga_mem 1015 (by decide +kernel), ga_mem 1017 (by decide +kernel), ga_mem 38 (by decide +kernel), by decide +kernel⟩
theorem lk_Mo_169 : ga_LV "GainTablesModel" 169 mt_Mo_goTo 2 := ⟨in_Mo_goTo, ga_mem 1043 (by decide +kernel), ga_mem 1045 (by decide +kernel), ga_mem 45 (by decide +kernel), by decide +kernel⟩
theorem lk_Mo_173 : ga_LV "GainTablesModel" 173 mt_Mo_jump 0 := ⟨in_Mo_jump, ga_mem 1051 (by decide +kernel), ga_mem 1053 (by decide +kernel), ga_mem 47 (by decide +kernel), by decide +kernel⟩
theorem lk_Mo_176 : ga_LV "GainTablesModel" 176 mt_Mo_newEntry 0 := ⟨in_Mo_newEntry, ga_mem 1055 (by decide +kernel), ga_mem 1057 (by decide +kernel), ga_mem 48 (by decide +kernel), by decide +kernel⟩
theorem lk_Mo_157 : ga_LV "GainTablesModel" 157 mt_Mo_value 1 := ⟨in_Mo_value, ga_mem 1031 (by decide +kernel), ga_mem 1033 (by decide +kernel), ga_mem 42 (by decide +kernel), by decide +kernel⟩
theorem lk_Mo_154 : ga_LV "GainTablesModel" 154 mt_Mo_locatePoint 0 := ⟨in_Mo_locatePoint, ga_mem 1019 (by decide +kernel), ga_mem 1021 (by decide +kernel), ga_mem 39 (by decide +kernel), by decide +kernel⟩
theorem fl_Mo_34 : ga_FL "GainTablesModel" 34 8 11 := ⟨_, _, _, rfl, by decide, in_Mo, ga_mem 838 (by decide +kernel), rfl⟩
theorem lk_Mo_74 : ga_LV "GainTablesModel" 74 mt_Mo_locate 3 := ⟨in_Mo_locate, ga_mem 1023 (by decide +kernel), ga_mem 1025 (by decide +kernel), ga_mem 40 (by decide +kernel), by decide +kernel⟩
theorem lk_Mo_71 : ga_LV "GainTablesModel" 71 mt_Mo_sticky 2 := ⟨in_Mo_sticky, ga_mem 1027 (by decide +kernel), ga_mem 1029 (by decide +kernel), ga_mem 41 (by decide +kernel), by decide +kernel⟩
theorem fl_Mo_22 : ga_FL "GainTablesModel" 22 8 7 := ⟨_, _, _, rfl, by decide, in_Mo, ga_mem 834 (by decide +kernel), rfl⟩
theorem fl_Mo_25 : ga_FL "GainTablesModel" 25 8 8 := ⟨_, _, _, rfl, by decide, in_Mo, ga_mem 835 (by decide +kernel), rfl⟩
theorem fl_Mo_28 : ga_FL "GainTablesModel" 28 8 9 := ⟨_, _, _, rfl, by decide, in_Mo, ga_mem 836 (by decide +kernel), rfl⟩
theorem fl_Mo_31 : ga_FL "GainTablesModel" 31 8 10 := ⟨_, _, _, rfl, by decide, in_Mo, ga_mem 837 (by decide +kernel), rfl⟩
theorem lk_Mo_78 : ga_LV "GainTablesModel" 78 mt_Mo_numerator 1 := ⟨in_Mo_numerator, ga_mem 1035 (by decide +kernel), ga_mem 1037 (by decide +kernel), ga_mem 43 (by decide +kernel), by decide +kernel⟩
theorem lk_Mo_81 : ga_LV "GainTablesModel" 81 mt_Mo_denominator 0 := ⟨in_Mo_denominator, ga_mem 1039 (by decide +kernel), ga_mem 1041 (by decide +kernel), ga_mem 44 (by decide +kernel), by decide +kernel⟩
theorem lk_Mo_160 : ga_LV "GainTablesModel" 160 mt_Mo_zoneBehind 3 := ⟨in_Mo_zoneBehind, ga_mem 1047 (by decide +kernel), ga_mem 1049 (by decide +kernel), ga_mem 46 (by decide +kernel), by decide +kernel⟩
theorem lk_Mo_185 : ga_LS "GainTablesModel" 185 mt_Mo_isPlace 1 := ⟨in_Mo_isPlace, ga_mem 1067 (by decide +kernel), ga_mem 1068 (by decide +kernel), by decide +kernel⟩
theorem lk_Mo_188 : ga_LV "GainTablesModel" 188 mt_Mo_regions 0 := ⟨in_Mo_regions, ga_mem 1070 (by decide +kernel), ga_mem 1072 (by decide +kernel), ga_mem 49 (by decide +kernel), by decide +kernel⟩
theorem fl_Mo_191 : ga_FL "GainTablesModel" 191 8 6 := ⟨_, _, _, rfl, by decide, in_Mo, ga_mem 833 (by decide +kernel), rfl⟩
theorem fl_Mo_19 : ga_FL "GainTablesModel" 19 8 5 := ⟨_, _, _, rfl, by decide, in_Mo, ga_mem 832 (by decide +kernel), rfl⟩
theorem fp_Mo_191 : ga_FP "GainTablesModel" 191 8 6 := ⟨_, _, _, y_Mo, rfl, by decide, in_Mo, ga_mem 833 (by decide +kernel), rfl, ty_Mo, nm_Mo, rfl, by decide +kernel⟩
theorem lk_Mo_217 : ga_LV "GainTablesModel" 217 mt_Mo_hold 0 := ⟨in_Mo_hold, ga_mem 1094 (by decide +kernel), ga_mem 1096 (by decide +kernel), ga_mem 50 (by decide +kernel), by decide +kernel⟩
theorem lk_Mo_41 : ga_LV "GainTablesModel" 41 mt_Mo_clearRegions 0 := ⟨in_Mo_clearRegions, ga_mem 823 (by decide +kernel), ga_mem 825 (by decide +kernel), ga_mem 17 (by decide +kernel), by decide +kernel⟩
theorem fp_Mo_194 : ga_FP "GainTablesModel" 194 8 12 := ⟨_, _, _, y_Mo, rfl, by decide, in_Mo, ga_mem 839 (by decide +kernel), rfl, ty_Mo, nm_Mo, rfl, by decide +kernel⟩
theorem lk_Mo_197 : ga_LV "GainTablesModel" 197 mt_Mo_here 0 := ⟨in_Mo_here, ga_mem 1098 (by decide +kernel), ga_mem 1100 (by decide +kernel), ga_mem 51 (by decide +kernel), by decide +kernel⟩
theorem lk_Mo_220 : ga_LV "GainTablesModel" 220 mt_Mo_readsItem 0 := ⟨in_Mo_readsItem, ga_mem 1102 (by decide +kernel), ga_mem 1104 (by decide +kernel), ga_mem 52 (by decide +kernel), by decide +kernel⟩
theorem lk_Mo_223 : ga_LV "GainTablesModel" 223 mt_Mo_release 0 := ⟨in_Mo_release, ga_mem 1123 (by decide +kernel), ga_mem 1125 (by decide +kernel), ga_mem 57 (by decide +kernel), by decide +kernel⟩
theorem kw_Mo_226 : Cond.constant "GainTablesModel" 226 (-2000001000 : Int32) ∈ ga_T := ga_mem 1127 (by decide +kernel)
theorem fl_Mo_194 : ga_FL "GainTablesModel" 194 8 12 := ⟨_, _, _, rfl, by decide, in_Mo, ga_mem 839 (by decide +kernel), rfl⟩
theorem lk_Mo_227 : ga_LV "GainTablesModel" 227 mt_Mo_exchange 0 := ⟨in_Mo_exchange, ga_mem 1128 (by decide +kernel), ga_mem 1130 (by decide +kernel), ga_mem 58 (by decide +kernel), by decide +kernel⟩
theorem fl_Mo_13 : ga_FL "GainTablesModel" 13 8 2 := ⟨_, _, _, rfl, by decide, in_Mo, ga_mem 829 (by decide +kernel), rfl⟩
theorem lk_Mo_210 : ga_LV "GainTablesModel" 210 mt_Mo_readsGain 0 := ⟨in_Mo_readsGain, ga_mem 1106 (by decide +kernel), ga_mem 1108 (by decide +kernel), ga_mem 53 (by decide +kernel), by decide +kernel⟩
theorem lk_Mo_214 : ga_LV "GainTablesModel" 214 mt_Mo_readsBorder 2 := ⟨in_Mo_readsBorder, ga_mem 1119 (by decide +kernel), ga_mem 1121 (by decide +kernel), ga_mem 56 (by decide +kernel), by decide +kernel⟩
theorem lk_Mo_204 : ga_LV "GainTablesModel" 204 mt_Mo_reads 2 := ⟨in_Mo_reads, ga_mem 1110 (by decide +kernel), ga_mem 1112 (by decide +kernel), ga_mem 54 (by decide +kernel), by decide +kernel⟩
theorem fl_Mo_201 : ga_FL "GainTablesModel" 201 8 13 := ⟨_, _, _, rfl, by decide, in_Mo, ga_mem 840 (by decide +kernel), rfl⟩
theorem lk_Mo_207 : ga_LV "GainTablesModel" 207 mt_Mo_takes 1 := ⟨in_Mo_takes, ga_mem 1115 (by decide +kernel), ga_mem 1117 (by decide +kernel), ga_mem 55 (by decide +kernel), by decide +kernel⟩
theorem kw_Mo_200 : Cond.constant "GainTablesModel" 200 (100000 : Int32) ∈ ga_T := ga_mem 1114 (by decide +kernel)
theorem fp_Mo_201 : ga_FP "GainTablesModel" 201 8 13 := ⟨_, _, _, y_Mo, rfl, by decide, in_Mo, ga_mem 840 (by decide +kernel), rfl, ty_Mo, nm_Mo, rfl, by decide +kernel⟩
theorem lk_Mo_230 : ga_LV "GainTablesModel" 230 mt_Mo_snapshots 0 := ⟨in_Mo_snapshots, ga_mem 1136 (by decide +kernel), ga_mem 1138 (by decide +kernel), ga_mem 59 (by decide +kernel), by decide +kernel⟩
theorem lk_Mo_233 : ga_LV "GainTablesModel" 233 mt_Mo_stickyMany 1 := ⟨in_Mo_stickyMany, ga_mem 1144 (by decide +kernel), ga_mem 1146 (by decide +kernel), ga_mem 60 (by decide +kernel), by decide +kernel⟩
theorem lk_Mo_236 : ga_LV "GainTablesModel" 236 mt_Mo_valueThere 3 := ⟨in_Mo_valueThere, ga_mem 1184 (by decide +kernel), ga_mem 1186 (by decide +kernel), ga_mem 61 (by decide +kernel), by decide +kernel⟩
theorem lk_Mo_239 : ga_LV "GainTablesModel" 239 mt_Mo_chatters 5 := ⟨in_Mo_chatters, ga_mem 1192 (by decide +kernel), ga_mem 1194 (by decide +kernel), ga_mem 62 (by decide +kernel), by decide +kernel⟩
end
section
/-! what stands where in the world; rows of Math; switches -/
def ga_isB (k : Nat) : Prop := ga_obj k 1 [none, some (k + 1), some (k + 2), some (k + 3)] ∧ ga_arr (k + 1) 0 6 ∧ ga_arr (k + 2) 0 6 ∧ ga_arr (k + 3) 0 6
def ga_isT (k : Nat) : Prop := ga_obj k 5 [some (k + 1), some (k + 5), some (k + 9), some (k + 10)] ∧ ga_isB (k + 1) ∧ ga_isB (k + 5) ∧ ga_arr (k + 9) 0 147 ∧ ga_arr (k + 10) 0 49
def ga_isP (k : Nat) : Prop := ga_obj k 3 [none, none, some (k + 1)] ∧ ga_arr (k + 1) 0 160
def ga_isS (k : Nat) : Prop := ga_obj k 4 [some (k + 1), some (k + 12), some (k + 23), some (k + 34), some (k + 45), some (k + 46), some (k + 47), none, some (k + 48), none, none, some (k + 50), some (k + 51), some (k + 52), some (k + 53)] ∧ ga_isT (k + 1) ∧ ga_isT (k + 12) ∧ ga_isT (k + 23) ∧ ga_isT (k + 34) ∧ ga_arr (k + 45) 1 3 ∧ ga_arr (k + 46) 0 2 ∧ ga_arr (k + 47) 0 2 ∧ ga_isP (k + 48) ∧ ga_arr (k + 50) 0 3 ∧ ga_arr (k + 51) 0 3 ∧ ga_arr (k + 52) 0 3 ∧ ga_arr (k + 53) 0 4
def ga_isL (k : Nat) : Prop := ga_obj k 0 [none, none, none, none]
theorem ga_oG : ga_obj 0 7 [some 1, some 55, some 327, some 329, some 340, some 344, some 345, some 346, some 347] := by decide +kernel
theorem ga_oH : ga_obj 55 2 [none, none, some 56] := by decide +kernel
theorem ga_rH : 56 < 358 ∧ ga_sh 56 = .inr (.inr [57, 111, 165, 219, 273]) := by decide +kernel
theorem ga_oX : ga_obj 327 6 [none, none, none, some 328] := by decide +kernel
theorem ga_aX : ga_arr 328 2 160 := by decide +kernel
theorem ga_oM : ga_obj 348 8 [none, some 349, some 350, some 351, none, some 352, none, some 353, some 354, some 355, some 356, some 357, none, none] := by decide +kernel
theorem ga_aM1 : ga_arr 349 0 1120 := by decide +kernel
theorem ga_aM2 : ga_arr 350 0 1120 := by decide +kernel
theorem ga_aM3 : ga_arr 351 0 5600 := by decide +kernel
theorem ga_aM4 : ga_arr 352 0 160 := by decide +kernel
theorem ga_aM5 : ga_arr 353 0 2 := by decide +kernel
theorem ga_aM6 : ga_arr 354 0 2 := by decide +kernel
theorem ga_aM7 : ga_arr 355 0 2 := by decide +kernel
theorem ga_aM8 : ga_arr 356 0 2 := by decide +kernel
theorem ga_aM9 : ga_arr 357 0 3 := by decide +kernel
theorem ga_s1 : ga_isS 1 := ⟨by decide +kernel, ⟨by decide +kernel, ⟨by decide +kernel, by decide +kernel, by decide +kernel, by decide +kernel⟩, ⟨by decide +kernel, by decide +kernel, by decide +kernel, by decide +kernel⟩, by decide +kernel, by decide +kernel⟩, ⟨by decide +kernel, ⟨by decide +kernel, by decide +kernel, by decide +kernel, by decide +kernel⟩, ⟨by decide +kernel, by decide +kernel, by decide +kernel, by decide +kernel⟩, by decide +kernel, by decide +kernel⟩, ⟨by decide +kernel, ⟨by decide +kernel, by decide +kernel, by decide +kernel, by decide +kernel⟩, ⟨by decide +kernel, by decide +kernel, by decide +kernel, by decide +kernel⟩, by decide +kernel, by decide +kernel⟩, ⟨by decide +kernel, ⟨by decide +kernel, by decide +kernel, by decide +kernel, by decide +kernel⟩, ⟨by decide +kernel, by decide +kernel, by decide +kernel, by decide +kernel⟩, by decide +kernel, by decide +kernel⟩, by decide +kernel, by decide +kernel, by decide +kernel, ⟨by decide +kernel, by decide +kernel⟩, by decide +kernel, by decide +kernel, by decide +kernel, by decide +kernel⟩
theorem ga_sH (i : Nat) (h : i < 5) : ga_isS (57 + 54 * i) := by
  rcases (show i = 0 ∨ i = 1 ∨ i = 2 ∨ i = 3 ∨ i = 4 by omega) with rfl | rfl | rfl | rfl | rfl <;> exact ⟨by decide +kernel, ⟨by decide +kernel, ⟨by decide +kernel, by decide +kernel, by decide +kernel, by decide +kernel⟩, ⟨by decide +kernel, by decide +kernel, by decide +kernel, by decide +kernel⟩, by decide +kernel, by decide +kernel⟩, ⟨by decide +kernel, ⟨by decide +kernel, by decide +kernel, by decide +kernel, by decide +kernel⟩, ⟨by decide +kernel, by decide +kernel, by decide +kernel, by decide +kernel⟩, by decide +kernel, by decide +kernel⟩, ⟨by decide +kernel, ⟨by decide +kernel, by decide +kernel, by decide +kernel, by decide +kernel⟩, ⟨by decide +kernel, by decide +kernel, by decide +kernel, by decide +kernel⟩, by decide +kernel, by decide +kernel⟩, ⟨by decide +kernel, ⟨by decide +kernel, by decide +kernel, by decide +kernel, by decide +kernel⟩, ⟨by decide +kernel, by decide +kernel, by decide +kernel, by decide +kernel⟩, by decide +kernel, by decide +kernel⟩, by decide +kernel, by decide +kernel, by decide +kernel, ⟨by decide +kernel, by decide +kernel⟩, by decide +kernel, by decide +kernel, by decide +kernel, by decide +kernel⟩
theorem ga_hat (i : Nat) (h : i < 5) : ([57, 111, 165, 219, 273] : List Nat)[i]? = some (57 + 54 * i) := by
  rcases (show i = 0 ∨ i = 1 ∨ i = 2 ∨ i = 3 ∨ i = 4 by omega) with rfl | rfl | rfl | rfl | rfl <;> rfl
theorem ga_t329 : ga_isT 329 := ⟨by decide +kernel, ⟨by decide +kernel, by decide +kernel, by decide +kernel, by decide +kernel⟩, ⟨by decide +kernel, by decide +kernel, by decide +kernel, by decide +kernel⟩, by decide +kernel, by decide +kernel⟩
theorem ga_b340 : ga_isB 340 := ⟨by decide +kernel, by decide +kernel, by decide +kernel, by decide +kernel⟩
theorem ga_l344 : ga_isL 344 := (by decide +kernel : ga_obj 344 0 [none, none, none, none])
theorem ga_l345 : ga_isL 345 := (by decide +kernel : ga_obj 345 0 [none, none, none, none])
theorem ga_a346 : ga_arr 346 0 3 := by decide +kernel
theorem ga_a347 : ga_arr 347 0 3 := by decide +kernel
/-- the borders of an axis of the table at k -/
def ga_bo (k : Nat) (axis : Int) : Nat := if axis = 0 then k + 1 else k + 5
theorem ga_bo_B {k : Nat} (h : ga_isT k) (axis : Int) : ga_isB (ga_bo k axis) := by
  unfold ga_bo
  by_cases e : axis = 0
  · rw [if_pos e]; exact h.2.1
  · rw [if_neg e]; exact h.2.2.1
/-- the snapshot at a place of the state at k -/
def ga_sn (k : Nat) (place : Int) : Nat := if place = 0 then k + 12 else if place = 1 then k + 23 else k + 34
theorem ga_sn_T {k : Nat} (h : ga_isS k) (place : Int) : ga_isT (ga_sn k place) := by
  unfold ga_sn
  by_cases e : place = 0
  · rw [if_pos e]; exact h.2.2.1
  · rw [if_neg e]
    by_cases e2 : place = 1
    · rw [if_pos e2]; exact h.2.2.2.1
    · rw [if_neg e2]; exact h.2.2.2.2.1
theorem ga_rcv {k ci : Nat} {fs : List (Option Nat)} {q : vw_C} {C : String} (h : ga_obj k ci fs) (hq : ga_cl[ci]? = some q) (hC : q.1 = C) : k < 358 ∧ ∃ ci fs q, ga_sh k = .inl (ci, fs) ∧ ga_cl[ci]? = some q ∧ q.1 = C := ⟨h.1, ci, fs, q, h.2, hq, hC⟩
theorem ga_min_rg {a b : Int} (ha : ga_rg a) (hb : ga_rg b) : ga_rg (min a b) := by constructor <;> omega
theorem ga_max_rg {a b : Int} (ha : ga_rg a) (hb : ga_rg b) : ga_rg (max a b) := by constructor <;> omega
section GM
variable {G : ga_G} {d : Nat} {mt : ga_M} {pc : Nat} {lst : List (Option ga_V)} {st : List ga_V} {I : ga_I} {E : Option ga_V → ga_I → Prop}
theorem gw_alenZ {k t n : Nat} {z : Int} (hd : decode mt.2.1 pc = .ok (.arraylength, 1)) (ha : ga_arr k t n) (ht : t < 3) (hz : (n : Int) = z) (K : ga_W G d mt (pc + 1) lst (.inl z :: st) I E) : ga_W G d mt pc lst (.inr k :: st) I E := by
  subst hz
  exact gw_alen hd ha ht K
theorem gw_mmin {idx : Nat} {a b : Int} (hd : decode mt.2.1 pc = .ok (.invokestatic idx, 3)) (hl : ga_LS mt.1.cls idx mt_Math_min 2) (ha : ga_rg a) (hb : ga_rg b) (hdd : 1 ≤ d) (hrs : st.length ≤ 8) (K : ga_W G d mt (pc + 3) lst (.inl (min a b) :: st) I E) : ga_W G d mt pc lst (.inl b :: .inl a :: st) I E := by
  intro p e R s m args below meth c cells slots Q C hr hI H locs ls hP hS hL
  obtain ⟨hin, hml, hst, -⟩ := hl
  refine va_mmin C.1 C.2.1 (C.2.2.1.trans hL.1.symm) C.2.2.2.1 (C.2.2.2.2.1 _ hml) (C.2.2.2.2.1 _ hst) (C.2.2.2.2.1 _ hin.2.2.2.1) (C.2.2.2.2.1 _ hin.1) (by have := C.2.2.2.2.2.2.2.2.2.1.1; omega) (by rw [ga_cats]; have := C.2.2.2.2.2.2.2.2.2.1.2; omega) C.2.2.2.2.2.2.2.2.2.2.1 C.2.2.2.2.2.2.2.2.2.2.2.1 hd ?_
  have e9 : (if Int32.ofInt b < Int32.ofInt a then Int32.ofInt b else Int32.ofInt a) = Int32.ofInt (min a b) := by
    by_cases q : b < a
    · rw [if_pos ((ga_lt hb ha).mpr q), Int.min_eq_right (by omega)]
    · rw [if_neg (fun h => q ((ga_lt hb ha).mp h)), Int.min_eq_left (by omega)]
  rw [e9]
  exact K p e R s m args below meth c cells slots Q C hr hI H locs ls hP hS hL
theorem gw_mmax {idx : Nat} {a b : Int} (hd : decode mt.2.1 pc = .ok (.invokestatic idx, 3)) (hl : ga_LS mt.1.cls idx mt_Math_max 2) (ha : ga_rg a) (hb : ga_rg b) (hdd : 1 ≤ d) (hrs : st.length ≤ 8) (K : ga_W G d mt (pc + 3) lst (.inl (max a b) :: st) I E) : ga_W G d mt pc lst (.inl b :: .inl a :: st) I E := by
  intro p e R s m args below meth c cells slots Q C hr hI H locs ls hP hS hL
  obtain ⟨hin, hml, hst, -⟩ := hl
  refine va_mmax C.1 C.2.1 (C.2.2.1.trans hL.1.symm) C.2.2.2.1 (C.2.2.2.2.1 _ hml) (C.2.2.2.2.1 _ hst) (C.2.2.2.2.1 _ hin.2.2.2.1) (C.2.2.2.2.1 _ hin.1) (by have := C.2.2.2.2.2.2.2.2.2.1.1; omega) (by rw [ga_cats]; have := C.2.2.2.2.2.2.2.2.2.1.2; omega) C.2.2.2.2.2.2.2.2.2.2.1 C.2.2.2.2.2.2.2.2.2.2.2.1 hd ?_
  have e9 : (if Int32.ofInt a < Int32.ofInt b then Int32.ofInt b else Int32.ofInt a) = Int32.ofInt (max a b) := by
    by_cases q : a < b
    · rw [if_pos ((ga_lt ha hb).mpr q), Int.max_eq_right (by omega)]
    · rw [if_neg (fun h => q ((ga_lt ha hb).mp h)), Int.max_eq_left (by omega)]
  first | rw [e9] | skip
  exact K p e R s m args below meth c cells slots Q C hr hI H locs ls hP hS hL
theorem gw_mabs {idx : Nat} {a : Int} (hd : decode mt.2.1 pc = .ok (.invokestatic idx, 3)) (hl : ga_LS mt.1.cls idx mt_Math_abs 1) (ha : ga_rg a) (hdd : 1 ≤ d) (hrs : st.length ≤ 8) (K : ga_W G d mt (pc + 3) lst (.inl (a.natAbs : Int) :: st) I E) : ga_W G d mt pc lst (.inl a :: st) I E := by
  intro p e R s m args below meth c cells slots Q C hr hI H locs ls hP hS hL
  obtain ⟨hin, hml, hst, -⟩ := hl
  refine va_mabs C.1 C.2.1 (C.2.2.1.trans hL.1.symm) C.2.2.2.1 (C.2.2.2.2.1 _ hml) (C.2.2.2.2.1 _ hst) (C.2.2.2.2.1 _ hin.2.2.2.1) (C.2.2.2.2.1 _ hin.1) (by have := C.2.2.2.2.2.2.2.2.2.1.1; omega) (by rw [ga_cats]; have := C.2.2.2.2.2.2.2.2.2.1.2; omega) C.2.2.2.2.2.2.2.2.2.2.1 C.2.2.2.2.2.2.2.2.2.2.2.1 hd ?_
  have hz : ga_rg 0 := ⟨by omega, by omega⟩
  have e9 : (if 0 ≤ Int32.ofInt a then Int32.ofInt a else 0 - Int32.ofInt a) = Int32.ofInt (a.natAbs : Int) := by
    rw [show (0 : Int32) = Int32.ofInt 0 from rfl]
    by_cases q : 0 ≤ a
    · rw [if_pos ((ga_le hz ha).mpr q), Int.natAbs_of_nonneg q]
    · rw [if_neg (fun h => q ((ga_le hz ha).mp h)), ga_osub, show (0 : Int) - a = (a.natAbs : Int) by omega]
  rw [e9]
  exact K p e R s m args below meth c cells slots Q C hr hI H locs ls hP hS hL
theorem gw_tsw {dflt lo hi : Int} {offs : Array Int} {len : Nat} {x : Int} (hd : decode mt.2.1 pc = .ok (.tableswitch dflt lo hi offs, len)) (hx : ga_rg x) (Kin : lo ≤ x → x ≤ hi → ∃ (tgt : Nat) (off : Int), offs[(x - lo).toNat]? = some off ∧ (pc : Int) + off = (tgt : Int) ∧ ga_W G d mt tgt lst st I E) (Kout : (x < lo ∨ hi < x) → ∃ tgt : Nat, (pc : Int) + dflt = (tgt : Int) ∧ ga_W G d mt tgt lst st I E) : ga_W G d mt pc lst (.inl x :: st) I E := by
  intro p e R s m args below meth c cells slots Q C hr hI H locs ls hP hS hL
  by_cases q : x < lo ∨ hi < x
  · obtain ⟨tgt, ht, K⟩ := Kout q
    exact lv_tableOut C.1 C.2.1 hd (by rw [ga_toI hx]; exact q) ht (K p e R s m args below meth c cells slots Q C hr hI H locs ls hP hS hL)
  · obtain ⟨tgt, off, ho, ht, K⟩ := Kin (by omega) (by omega)
    exact lv_tableIn C.1 C.2.1 hd (by rw [ga_toI hx]; omega) (by rw [ga_toI hx]; omega) (by rw [ga_toI hx]; exact ho) ht (K p e R s m args below meth c cells slots Q C hr hI H locs ls hP hS hL)
theorem gw_lsw {dflt : Int} {ps : Array (Int × Int)} {len : Nat} {x off : Int} {tgt : Nat} (hd : decode mt.2.1 pc = .ok (.lookupswitch dflt ps, len)) (hp : (ps.toList.zip (ps.toList.drop 1)).all (fun (a, next) => a.1 < next.1) = true) (hx : ga_rg x) (ho : Op.lookupswitch.offset ps.toList dflt x = off) (ht : (pc : Int) + off = (tgt : Int)) (K : ga_W G d mt tgt lst st I E) : ga_W G d mt pc lst (.inl x :: st) I E := by
  intro p e R s m args below meth c cells slots Q C hr hI H locs ls hP hS hL
  exact lv_lookup C.1 C.2.1 hd hp (by rw [ga_toI hx]; exact ho) ht (K p e R s m args below meth c cells slots Q C hr hI H locs ls hP hS hL)
end GM
end
section
/-! leaves: tests and small functions -/
theorem ga_bT {b : Bool} {E : Option ga_V → ga_I → Prop} {I : ga_I} (hb : b = true) (h : E (some (.inl (ga_bb b))) I) : E (some (.inl 1)) I := by subst hb; exact h
theorem ga_bF {b : Bool} {E : Option ga_V → ga_I → Prop} {I : ga_I} (hb : b = false) (h : E (some (.inl (ga_bb b))) I) : E (some (.inl 0)) I := by subst hb; exact h
theorem ga_eI {z w : Int} {E : Option ga_V → ga_I → Prop} {I : ga_I} (hz : z = w) (h : E (some (.inl w)) I) : E (some (.inl z)) I := by subst hz; exact h
theorem k_GT_isIn_0 {G : ga_G} {d : Nat} {I : ga_I} {E : Option ga_V → ga_I → Prop} {v0 : Int} {v1 : Int} {v2 : Int} (r0 : ga_rg v0) (r1 : ga_rg v1) (r2 : ga_rg v2)
    (h : ga_RG I → ((v0 < v1) → E (some (.inl 0)) I) ∧ ((¬ (v0 < v1)) → ((v2 < v0) → E (some (.inl 0)) I) ∧ ((¬ (v2 < v0)) → E (some (.inl 1)) I))) :
    ga_W G d mt_GT_isIn 0 (ga_en 3 [.inl v0, .inl v1, .inl v2]) [] I E := by
  show ga_W G d mt_GT_isIn 0 [some (.inl v0), some (.inl v1), some (.inl v2)] [] I E
  refine gw_RG (fun hI1 => ?_)
  have h := h hI1
  refine gw_iload_n 0 d_GT_isIn_0 rfl rfl ?_
  refine gw_iload_n 1 d_GT_isIn_1 rfl rfl ?_
  refine gw_icmp_lt 14 d_GT_isIn_2 (by decide) r0 r1 (fun hc => ?_) (fun hc => ?_)
  · have h := h.1 hc
    refine gw_iconst d_GT_isIn_14 ?_
    exact gw_zreturn d_GT_isIn_15 rfl (by decide) h
  · have h := h.2 hc
    refine gw_iload_n 0 d_GT_isIn_5 rfl rfl ?_
    refine gw_iload_n 2 d_GT_isIn_6 rfl rfl ?_
    refine gw_icmp_gt 14 d_GT_isIn_7 (by decide) r0 r2 (fun hc => ?_) (fun hc => ?_)
    · have h := h.1 hc
      refine gw_iconst d_GT_isIn_14 ?_
      exact gw_zreturn d_GT_isIn_15 rfl (by decide) h
    · have h := h.2 hc
      refine gw_iconst d_GT_isIn_10 ?_
      refine gw_goto 15 d_GT_isIn_11 (by decide) ?_
      exact gw_zreturn d_GT_isIn_15 rfl (by decide) h

section LA
variable {G : ga_G} {d : Nat} {I : ga_I} {E : Option ga_V → ga_I → Prop}
theorem s_GT_isIn {a b c : Int} (ha : ga_rg a) (hb : ga_rg b) (hc : ga_rg c) (h : E (some (.inl (ga_bb (decide (b ≤ a ∧ a ≤ c))))) I) : ga_W G d mt_GT_isIn 0 (ga_en 3 [.inl a, .inl b, .inl c]) [] I E := by
  refine k_GT_isIn_0 ha hb hc (fun hI => ⟨fun h1 => ?_, fun h1 => ⟨fun h2 => ?_, fun h2 => ?_⟩⟩)
  · exact ga_bF (decide_eq_false (by omega)) h
  · exact ga_bF (decide_eq_false (by omega)) h
  · exact ga_bT (decide_eq_true (by omega)) h
end LA
theorem k_GT_isAxis_0 {G : ga_G} {d : Nat} {I : ga_I} {E : Option ga_V → ga_I → Prop} {v0 : Int} (r0 : ga_rg v0)
    (h : ga_RG I → E (some (.inl (ga_bb (decide (0 ≤ v0 ∧ v0 ≤ 1))))) I) :
    ga_W G (d + 1) mt_GT_isAxis 0 (ga_en 1 [.inl v0]) [] I E := by
  show ga_W G (d + 1) mt_GT_isAxis 0 [some (.inl v0)] [] I E
  refine gw_RG (fun hI1 => ?_)
  have h := h hI1
  refine gw_iload_n 0 d_GT_isAxis_0 rfl rfl ?_
  refine gw_iconst d_GT_isAxis_1 ?_
  refine gw_iconst d_GT_isAxis_2 ?_
  refine gw_invS (as := [.inl v0, .inl 0, .inl 1]) (rest := []) (d' := d) d_GT_isAxis_3 lk_GT_65 rfl (Nat.le_of_ble_eq_true rfl) (Nat.le_of_ble_eq_true rfl) rfl rfl (s_GT_isIn r0 ⟨by decide, by decide⟩ ⟨by decide, by decide⟩ ?_)
  show ga_W G (d + 1) mt_GT_isAxis 6 [some (.inl v0)] [.inl (ga_bb (decide (0 ≤ v0 ∧ v0 ≤ 1)))] I E
  exact gw_zreturn d_GT_isAxis_6 rfl (ga_bb_01 _) h

theorem k_GT_isCoordinate_0 {G : ga_G} {d : Nat} {I : ga_I} {E : Option ga_V → ga_I → Prop} {v0 : Int} (r0 : ga_rg v0)
    (h : ga_RG I → E (some (.inl (ga_bb (decide (0 ≤ v0 ∧ v0 ≤ 1000))))) I) :
    ga_W G (d + 1) mt_GT_isCoordinate 0 (ga_en 1 [.inl v0]) [] I E := by
  show ga_W G (d + 1) mt_GT_isCoordinate 0 [some (.inl v0)] [] I E
  refine gw_RG (fun hI1 => ?_)
  have h := h hI1
  refine gw_iload_n 0 d_GT_isCoordinate_0 rfl rfl ?_
  refine gw_iconst d_GT_isCoordinate_1 ?_
  refine gw_sipush d_GT_isCoordinate_2 (by decide +kernel) ?_
  refine gw_invS (as := [.inl v0, .inl 0, .inl 1000]) (rest := []) (d' := d) d_GT_isCoordinate_5 lk_GT_65 rfl (Nat.le_of_ble_eq_true rfl) (Nat.le_of_ble_eq_true rfl) rfl rfl (s_GT_isIn r0 ⟨by decide, by decide⟩ ⟨by decide, by decide⟩ ?_)
  show ga_W G (d + 1) mt_GT_isCoordinate 8 [some (.inl v0)] [.inl (ga_bb (decide (0 ≤ v0 ∧ v0 ≤ 1000)))] I E
  exact gw_zreturn d_GT_isCoordinate_8 rfl (ga_bb_01 _) h

theorem k_GT_isGain_0 {G : ga_G} {d : Nat} {I : ga_I} {E : Option ga_V → ga_I → Prop} {v0 : Int} (r0 : ga_rg v0)
    (h : ga_RG I → E (some (.inl (ga_bb (decide (0 ≤ v0 ∧ v0 ≤ 2))))) I) :
    ga_W G (d + 1) mt_GT_isGain 0 (ga_en 1 [.inl v0]) [] I E := by
  show ga_W G (d + 1) mt_GT_isGain 0 [some (.inl v0)] [] I E
  refine gw_RG (fun hI1 => ?_)
  have h := h hI1
  refine gw_iload_n 0 d_GT_isGain_0 rfl rfl ?_
  refine gw_iconst d_GT_isGain_1 ?_
  refine gw_iconst d_GT_isGain_2 ?_
  refine gw_invS (as := [.inl v0, .inl 0, .inl 2]) (rest := []) (d' := d) d_GT_isGain_3 lk_GT_65 rfl (Nat.le_of_ble_eq_true rfl) (Nat.le_of_ble_eq_true rfl) rfl rfl (s_GT_isIn r0 ⟨by decide, by decide⟩ ⟨by decide, by decide⟩ ?_)
  show ga_W G (d + 1) mt_GT_isGain 6 [some (.inl v0)] [.inl (ga_bb (decide (0 ≤ v0 ∧ v0 ≤ 2)))] I E
  exact gw_zreturn d_GT_isGain_6 rfl (ga_bb_01 _) h

theorem k_GT_isOperator_0 {G : ga_G} {d : Nat} {I : ga_I} {E : Option ga_V → ga_I → Prop} {v0 : Int} (r0 : ga_rg v0)
    (h : ga_RG I → E (some (.inl (ga_bb (decide (0 ≤ v0 ∧ v0 ≤ 2))))) I) :
    ga_W G (d + 1) mt_GT_isOperator 0 (ga_en 1 [.inl v0]) [] I E := by
  show ga_W G (d + 1) mt_GT_isOperator 0 [some (.inl v0)] [] I E
  refine gw_RG (fun hI1 => ?_)
  have h := h hI1
  refine gw_iload_n 0 d_GT_isOperator_0 rfl rfl ?_
  refine gw_iconst d_GT_isOperator_1 ?_
  refine gw_iconst d_GT_isOperator_2 ?_
  refine gw_invS (as := [.inl v0, .inl 0, .inl 2]) (rest := []) (d' := d) d_GT_isOperator_3 lk_GT_65 rfl (Nat.le_of_ble_eq_true rfl) (Nat.le_of_ble_eq_true rfl) rfl rfl (s_GT_isIn r0 ⟨by decide, by decide⟩ ⟨by decide, by decide⟩ ?_)
  show ga_W G (d + 1) mt_GT_isOperator 6 [some (.inl v0)] [.inl (ga_bb (decide (0 ≤ v0 ∧ v0 ≤ 2)))] I E
  exact gw_zreturn d_GT_isOperator_6 rfl (ga_bb_01 _) h

theorem k_GT_isPlace_0 {G : ga_G} {d : Nat} {I : ga_I} {E : Option ga_V → ga_I → Prop} {v0 : Int} (r0 : ga_rg v0)
    (h : ga_RG I → E (some (.inl (ga_bb (decide (0 ≤ v0 ∧ v0 ≤ 2))))) I) :
    ga_W G (d + 1) mt_GT_isPlace 0 (ga_en 1 [.inl v0]) [] I E := by
  show ga_W G (d + 1) mt_GT_isPlace 0 [some (.inl v0)] [] I E
  refine gw_RG (fun hI1 => ?_)
  have h := h hI1
  refine gw_iload_n 0 d_GT_isPlace_0 rfl rfl ?_
  refine gw_iconst d_GT_isPlace_1 ?_
  refine gw_iconst d_GT_isPlace_2 ?_
  refine gw_invS (as := [.inl v0, .inl 0, .inl 2]) (rest := []) (d' := d) d_GT_isPlace_3 lk_GT_65 rfl (Nat.le_of_ble_eq_true rfl) (Nat.le_of_ble_eq_true rfl) rfl rfl (s_GT_isIn r0 ⟨by decide, by decide⟩ ⟨by decide, by decide⟩ ?_)
  show ga_W G (d + 1) mt_GT_isPlace 6 [some (.inl v0)] [.inl (ga_bb (decide (0 ≤ v0 ∧ v0 ≤ 2)))] I E
  exact gw_zreturn d_GT_isPlace_6 rfl (ga_bb_01 _) h

theorem k_GT_isReach_0 {G : ga_G} {d : Nat} {I : ga_I} {E : Option ga_V → ga_I → Prop} {v0 : Int} {v1 : Int} (r0 : ga_rg v0) (r1 : ga_rg v1)
    (h : ga_RG I → ((v0 ≠ 1) → E (some (.inl (ga_bb (decide (0 ≤ v1 ∧ v1 ≤ 100))))) I) ∧ ((v0 = 1) → E (some (.inl (ga_bb (decide (1 ≤ v1 ∧ v1 ≤ 100))))) I)) :
    ga_W G (d + 1) mt_GT_isReach 0 (ga_en 2 [.inl v0, .inl v1]) [] I E := by
  show ga_W G (d + 1) mt_GT_isReach 0 [some (.inl v0), some (.inl v1)] [] I E
  refine gw_RG (fun hI1 => ?_)
  have h := h hI1
  refine gw_iload_n 1 d_GT_isReach_0 rfl rfl ?_
  refine gw_iload_n 0 d_GT_isReach_1 rfl rfl ?_
  refine gw_iconst d_GT_isReach_2 ?_
  refine gw_icmp_ne 10 d_GT_isReach_3 (by decide) r0 ⟨by decide, by decide⟩ (fun hc => ?_) (fun hc => ?_)
  · have h := h.1 hc
    refine gw_iconst d_GT_isReach_10 ?_
    refine gw_bipush d_GT_isReach_11 (by decide +kernel) ?_
    refine gw_invS (as := [.inl v1, .inl 0, .inl 100]) (rest := []) (d' := d) d_GT_isReach_13 lk_GT_65 rfl (Nat.le_of_ble_eq_true rfl) (Nat.le_of_ble_eq_true rfl) rfl rfl (s_GT_isIn r1 ⟨by decide, by decide⟩ ⟨by decide, by decide⟩ ?_)
    show ga_W G (d + 1) mt_GT_isReach 16 [some (.inl v0), some (.inl v1)] [.inl (ga_bb (decide (0 ≤ v1 ∧ v1 ≤ 100)))] I E
    exact gw_zreturn d_GT_isReach_16 rfl (ga_bb_01 _) h
  · have h := h.2 hc
    refine gw_iconst d_GT_isReach_6 ?_
    refine gw_goto 11 d_GT_isReach_7 (by decide) ?_
    refine gw_bipush d_GT_isReach_11 (by decide +kernel) ?_
    refine gw_invS (as := [.inl v1, .inl 1, .inl 100]) (rest := []) (d' := d) d_GT_isReach_13 lk_GT_65 rfl (Nat.le_of_ble_eq_true rfl) (Nat.le_of_ble_eq_true rfl) rfl rfl (s_GT_isIn r1 ⟨by decide, by decide⟩ ⟨by decide, by decide⟩ ?_)
    show ga_W G (d + 1) mt_GT_isReach 16 [some (.inl v0), some (.inl v1)] [.inl (ga_bb (decide (1 ≤ v1 ∧ v1 ≤ 100)))] I E
    exact gw_zreturn d_GT_isReach_16 rfl (ga_bb_01 _) h

section LA
variable {G : ga_G} {d : Nat} {I : ga_I} {E : Option ga_V → ga_I → Prop}
theorem s_GT_isAxis {a : Int} (ha : ga_rg a) (h : E (some (.inl (ga_bb (decide (0 ≤ a ∧ a ≤ 1))))) I) : ga_W G (d + 1) mt_GT_isAxis 0 (ga_en 1 [.inl a]) [] I E := k_GT_isAxis_0 ha (fun _ => h)
theorem s_GT_isCoordinate {a : Int} (ha : ga_rg a) (h : E (some (.inl (ga_bb (decide (0 ≤ a ∧ a ≤ 1000))))) I) : ga_W G (d + 1) mt_GT_isCoordinate 0 (ga_en 1 [.inl a]) [] I E := k_GT_isCoordinate_0 ha (fun _ => h)
theorem s_GT_isGain {a : Int} (ha : ga_rg a) (h : E (some (.inl (ga_bb (decide (0 ≤ a ∧ a ≤ 2))))) I) : ga_W G (d + 1) mt_GT_isGain 0 (ga_en 1 [.inl a]) [] I E := k_GT_isGain_0 ha (fun _ => h)
theorem s_GT_isOperator {a : Int} (ha : ga_rg a) (h : E (some (.inl (ga_bb (decide (0 ≤ a ∧ a ≤ 2))))) I) : ga_W G (d + 1) mt_GT_isOperator 0 (ga_en 1 [.inl a]) [] I E := k_GT_isOperator_0 ha (fun _ => h)
theorem s_GT_isPlace {a : Int} (ha : ga_rg a) (h : E (some (.inl (ga_bb (decide (0 ≤ a ∧ a ≤ 2))))) I) : ga_W G (d + 1) mt_GT_isPlace 0 (ga_en 1 [.inl a]) [] I E := k_GT_isPlace_0 ha (fun _ => h)
theorem s_GT_isReach {a b : Int} (ha : ga_rg a) (hb : ga_rg b) (h : E (some (.inl (ga_bb (decide ((if a = 1 then 1 else 0) ≤ b ∧ b ≤ 100))))) I) : ga_W G (d + 1) mt_GT_isReach 0 (ga_en 2 [.inl a, .inl b]) [] I E := by
  refine k_GT_isReach_0 ha hb (fun _ => ?_)
  by_cases e : a = 1
  · rw [if_pos e] at h
    refine ⟨fun h1 => ?_, fun _ => ?_⟩ <;> first | exact h | (exfalso; omega)
  · rw [if_neg e] at h
    refine ⟨fun h1 => ?_, fun _ => ?_⟩ <;> first | exact h | (exfalso; omega)
end LA
theorem k_Borders_has_0 {G : ga_G} {d : Nat} {I : ga_I} {E : Option ga_V → ga_I → Prop} {k : Nat} {v1 : Int} (hk : ga_isB k) (r1 : ga_rg v1)
    (h : ga_RG I → ((v1 < 0) → E (some (.inl 0)) I) ∧ ((¬ (v1 < 0)) → (((I k 0) ≤ v1) → E (some (.inl 0)) I) ∧ ((¬ ((I k 0) ≤ v1)) → E (some (.inl 1)) I))) :
    ga_W G d mt_Borders_has 0 (ga_en 2 [.inr k, .inl v1]) [] I E := by
  show ga_W G d mt_Borders_has 0 [some (.inr k), some (.inl v1)] [] I E
  refine gw_RG (fun hI1 => ?_)
  have h := h hI1
  refine gw_iload_n 1 d_Borders_has_0 rfl rfl ?_
  refine gw_if_lt 16 d_Borders_has_1 (by decide) r1 (fun hc => ?_) (fun hc => ?_)
  · have h := h.1 hc
    refine gw_iconst d_Borders_has_16 ?_
    exact gw_zreturn d_Borders_has_17 rfl (by decide) h
  · have h := h.2 hc
    refine gw_iload_n 1 d_Borders_has_4 rfl rfl ?_
    refine gw_aload_n 0 d_Borders_has_5 rfl rfl ?_
    refine gw_getI d_Borders_has_6 fl_Borders_21 (hk.1) rfl ?_
    refine gw_icmp_ge 16 d_Borders_has_9 (by decide) r1 (hI1 _ _) (fun hc => ?_) (fun hc => ?_)
    · have h := h.1 hc
      refine gw_iconst d_Borders_has_16 ?_
      exact gw_zreturn d_Borders_has_17 rfl (by decide) h
    · have h := h.2 hc
      refine gw_iconst d_Borders_has_12 ?_
      refine gw_goto 17 d_Borders_has_13 (by decide) ?_
      exact gw_zreturn d_Borders_has_17 rfl (by decide) h

theorem k_Borders_isFull_0 {G : ga_G} {d : Nat} {I : ga_I} {E : Option ga_V → ga_I → Prop} {k : Nat} (hk : ga_isB k)
    (h : ga_RG I → (((I k 0) < 6) → E (some (.inl 0)) I) ∧ ((¬ ((I k 0) < 6)) → E (some (.inl 1)) I)) :
    ga_W G d mt_Borders_isFull 0 (ga_en 1 [.inr k]) [] I E := by
  show ga_W G d mt_Borders_isFull 0 [some (.inr k)] [] I E
  refine gw_RG (fun hI1 => ?_)
  have h := h hI1
  refine gw_aload_n 0 d_Borders_isFull_0 rfl rfl ?_
  refine gw_getI d_Borders_isFull_1 fl_Borders_21 (hk.1) rfl ?_
  refine gw_bipush d_Borders_isFull_4 (by decide +kernel) ?_
  refine gw_icmp_lt 13 d_Borders_isFull_6 (by decide) (hI1 _ _) ⟨by decide, by decide⟩ (fun hc => ?_) (fun hc => ?_)
  · have h := h.1 hc
    refine gw_iconst d_Borders_isFull_13 ?_
    exact gw_zreturn d_Borders_isFull_14 rfl (by decide) h
  · have h := h.2 hc
    refine gw_iconst d_Borders_isFull_9 ?_
    refine gw_goto 14 d_Borders_isFull_10 (by decide) ?_
    exact gw_zreturn d_Borders_isFull_14 rfl (by decide) h

theorem k_Borders_isInside_0 {G : ga_G} {d : Nat} {I : ga_I} {E : Option ga_V → ga_I → Prop} {v0 : Int} {v1 : Int} 
    (h : ga_RG I → (ga_rg (v0 - v1)) ∧ ((((v0 - v1) < 0) → E (some (.inl 0)) I) ∧ ((¬ ((v0 - v1) < 0)) → (ga_rg (v0 + v1)) ∧ (((1000 < (v0 + v1)) → E (some (.inl 0)) I) ∧ ((¬ (1000 < (v0 + v1))) → E (some (.inl 1)) I))))) :
    ga_W G d mt_Borders_isInside 0 (ga_en 2 [.inl v0, .inl v1]) [] I E := by
  show ga_W G d mt_Borders_isInside 0 [some (.inl v0), some (.inl v1)] [] I E
  refine gw_RG (fun hI1 => ?_)
  have h := h hI1
  refine gw_iload_n 0 d_Borders_isInside_0 rfl rfl ?_
  refine gw_iload_n 1 d_Borders_isInside_1 rfl rfl ?_
  refine gw_isub d_Borders_isInside_2 ?_
  obtain ⟨g1, h⟩ := h
  refine gw_if_lt 19 d_Borders_isInside_3 (by decide) g1 (fun hc => ?_) (fun hc => ?_)
  · have h := h.1 hc
    refine gw_iconst d_Borders_isInside_19 ?_
    exact gw_zreturn d_Borders_isInside_20 rfl (by decide) h
  · have h := h.2 hc
    refine gw_iload_n 0 d_Borders_isInside_6 rfl rfl ?_
    refine gw_iload_n 1 d_Borders_isInside_7 rfl rfl ?_
    refine gw_iadd d_Borders_isInside_8 ?_
    refine gw_sipush d_Borders_isInside_9 (by decide +kernel) ?_
    obtain ⟨g2, h⟩ := h
    refine gw_icmp_gt 19 d_Borders_isInside_12 (by decide) g2 ⟨by decide, by decide⟩ (fun hc => ?_) (fun hc => ?_)
    · have h := h.1 hc
      refine gw_iconst d_Borders_isInside_19 ?_
      exact gw_zreturn d_Borders_isInside_20 rfl (by decide) h
    · have h := h.2 hc
      refine gw_iconst d_Borders_isInside_15 ?_
      refine gw_goto 20 d_Borders_isInside_16 (by decide) ?_
      exact gw_zreturn d_Borders_isInside_20 rfl (by decide) h

section LA
variable {G : ga_G} {d : Nat} {I : ga_I} {E : Option ga_V → ga_I → Prop} {k : Nat}
theorem s_Borders_has (hk : ga_isB k) {a : Int} (ha : ga_rg a) (h : E (some (.inl (ga_bb (decide (0 ≤ a ∧ a < I k 0))))) I) : ga_W G d mt_Borders_has 0 (ga_en 2 [.inr k, .inl a]) [] I E := by
  refine k_Borders_has_0 hk ha (fun hI => ⟨fun h1 => ?_, fun h1 => ⟨fun h2 => ?_, fun h2 => ?_⟩⟩)
  · exact ga_bF (decide_eq_false (by omega)) h
  · exact ga_bF (decide_eq_false (by omega)) h
  · exact ga_bT (decide_eq_true (by omega)) h
theorem s_Borders_isFull (hk : ga_isB k) (h : E (some (.inl (ga_bb (decide (6 ≤ I k 0))))) I) : ga_W G d mt_Borders_isFull 0 (ga_en 1 [.inr k]) [] I E := by
  refine k_Borders_isFull_0 hk (fun hI => ⟨fun h1 => ?_, fun h1 => ?_⟩)
  · exact ga_bF (decide_eq_false (by omega)) h
  · exact ga_bT (decide_eq_true (by omega)) h
theorem s_Borders_isInside {p r : Int} (h1 : ga_rg (p - r)) (h2 : ga_rg (p + r)) (h : E (some (.inl (ga_bb (decide (0 ≤ p - r ∧ p + r ≤ 1000))))) I) : ga_W G d mt_Borders_isInside 0 (ga_en 2 [.inl p, .inl r]) [] I E := by
  refine k_Borders_isInside_0 (fun hI => ⟨h1, fun h1 => ?_, fun h1 => ⟨h2, fun h2 => ?_, fun h2 => ?_⟩⟩)
  · exact ga_bF (decide_eq_false (by omega)) h
  · exact ga_bF (decide_eq_false (by omega)) h
  · exact ga_bT (decide_eq_true (by omega)) h
end LA
end
