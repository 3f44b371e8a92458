-- what the bytes say, instruction by instruction
theorem d_GT_addBorder_0 : decode prog_1_method_2_code 0 = .ok (.iload_n 1, 1) := by decide +kernel
theorem d_GT_addBorder_1 : decode prog_1_method_2_code 1 = .ok (.invokestatic 61, 3) := by decide +kernel
theorem d_GT_addBorder_4 : decode prog_1_method_2_code 4 = .ok (.ifCond .eq 41, 3) := by decide +kernel
theorem d_GT_addBorder_7 : decode prog_1_method_2_code 7 = .ok (.iload_n 2, 1) := by decide +kernel
theorem d_GT_addBorder_8 : decode prog_1_method_2_code 8 = .ok (.iconst 1, 1) := by decide +kernel
theorem d_GT_addBorder_9 : decode prog_1_method_2_code 9 = .ok (.sipush 999, 3) := by decide +kernel
theorem d_GT_addBorder_12 : decode prog_1_method_2_code 12 = .ok (.invokestatic 65, 3) := by decide +kernel
theorem d_GT_addBorder_15 : decode prog_1_method_2_code 15 = .ok (.ifCond .eq 30, 3) := by decide +kernel
theorem d_GT_addBorder_18 : decode prog_1_method_2_code 18 = .ok (.iload_n 3, 1) := by decide +kernel
theorem d_GT_addBorder_19 : decode prog_1_method_2_code 19 = .ok (.iconst 0, 1) := by decide +kernel
theorem d_GT_addBorder_20 : decode prog_1_method_2_code 20 = .ok (.iconst 1, 1) := by decide +kernel
theorem d_GT_addBorder_21 : decode prog_1_method_2_code 21 = .ok (.invokestatic 65, 3) := by decide +kernel
theorem d_GT_addBorder_24 : decode prog_1_method_2_code 24 = .ok (.ifCond .eq 21, 3) := by decide +kernel
theorem d_GT_addBorder_27 : decode prog_1_method_2_code 27 = .ok (.iload_n 3, 1) := by decide +kernel
theorem d_GT_addBorder_28 : decode prog_1_method_2_code 28 = .ok (.iload 4, 2) := by decide +kernel
theorem d_GT_addBorder_30 : decode prog_1_method_2_code 30 = .ok (.invokestatic 69, 3) := by decide +kernel
theorem d_GT_addBorder_33 : decode prog_1_method_2_code 33 = .ok (.ifCond .eq 12, 3) := by decide +kernel
theorem d_GT_addBorder_36 : decode prog_1_method_2_code 36 = .ok (.iload_n 2, 1) := by decide +kernel
theorem d_GT_addBorder_37 : decode prog_1_method_2_code 37 = .ok (.iload 4, 2) := by decide +kernel
theorem d_GT_addBorder_39 : decode prog_1_method_2_code 39 = .ok (.invokestatic 73, 3) := by decide +kernel
theorem d_GT_addBorder_42 : decode prog_1_method_2_code 42 = .ok (.ifCond .ne 6, 3) := by decide +kernel
theorem d_GT_addBorder_45 : decode prog_1_method_2_code 45 = .ok (.ldc 76, 2) := by decide +kernel
theorem d_GT_addBorder_47 : decode prog_1_method_2_code 47 = .ok (.ireturn, 1) := by decide +kernel
theorem d_GT_addBorder_48 : decode prog_1_method_2_code 48 = .ok (.aload_n 0, 1) := by decide +kernel
theorem d_GT_addBorder_49 : decode prog_1_method_2_code 49 = .ok (.getfield 12, 3) := by decide +kernel
theorem d_GT_addBorder_52 : decode prog_1_method_2_code 52 = .ok (.getfield 77, 3) := by decide +kernel
theorem d_GT_addBorder_55 : decode prog_1_method_2_code 55 = .ok (.iload_n 1, 1) := by decide +kernel
theorem d_GT_addBorder_56 : decode prog_1_method_2_code 56 = .ok (.invokevirtual 80, 3) := by decide +kernel
theorem d_GT_addBorder_59 : decode prog_1_method_2_code 59 = .ok (.astore 5, 2) := by decide +kernel
theorem d_GT_addBorder_61 : decode prog_1_method_2_code 61 = .ok (.aload 5, 2) := by decide +kernel
theorem d_GT_addBorder_63 : decode prog_1_method_2_code 63 = .ok (.iload_n 2, 1) := by decide +kernel
theorem d_GT_addBorder_64 : decode prog_1_method_2_code 64 = .ok (.iload 4, 2) := by decide +kernel
theorem d_GT_addBorder_66 : decode prog_1_method_2_code 66 = .ok (.iconst (-1), 1) := by decide +kernel
theorem d_GT_addBorder_67 : decode prog_1_method_2_code 67 = .ok (.invokevirtual 84, 3) := by decide +kernel
theorem d_GT_addBorder_70 : decode prog_1_method_2_code 70 = .ok (.ifCond .ne 6, 3) := by decide +kernel
theorem d_GT_addBorder_73 : decode prog_1_method_2_code 73 = .ok (.ldc 87, 2) := by decide +kernel
theorem d_GT_addBorder_75 : decode prog_1_method_2_code 75 = .ok (.ireturn, 1) := by decide +kernel
theorem d_GT_addBorder_76 : decode prog_1_method_2_code 76 = .ok (.aload 5, 2) := by decide +kernel
theorem d_GT_addBorder_78 : decode prog_1_method_2_code 78 = .ok (.invokevirtual 88, 3) := by decide +kernel
theorem d_GT_addBorder_81 : decode prog_1_method_2_code 81 = .ok (.ifCond .eq 6, 3) := by decide +kernel
theorem d_GT_addBorder_84 : decode prog_1_method_2_code 84 = .ok (.ldc 92, 2) := by decide +kernel
theorem d_GT_addBorder_86 : decode prog_1_method_2_code 86 = .ok (.ireturn, 1) := by decide +kernel
theorem d_GT_addBorder_87 : decode prog_1_method_2_code 87 = .ok (.aload_n 0, 1) := by decide +kernel
theorem d_GT_addBorder_88 : decode prog_1_method_2_code 88 = .ok (.getfield 19, 3) := by decide +kernel
theorem d_GT_addBorder_91 : decode prog_1_method_2_code 91 = .ok (.aload_n 0, 1) := by decide +kernel
theorem d_GT_addBorder_92 : decode prog_1_method_2_code 92 = .ok (.getfield 12, 3) := by decide +kernel
theorem d_GT_addBorder_95 : decode prog_1_method_2_code 95 = .ok (.invokevirtual 93, 3) := by decide +kernel
theorem d_GT_addBorder_98 : decode prog_1_method_2_code 98 = .ok (.aload_n 0, 1) := by decide +kernel
theorem d_GT_addBorder_99 : decode prog_1_method_2_code 99 = .ok (.getfield 12, 3) := by decide +kernel
theorem d_GT_addBorder_102 : decode prog_1_method_2_code 102 = .ok (.getfield 77, 3) := by decide +kernel
theorem d_GT_addBorder_105 : decode prog_1_method_2_code 105 = .ok (.invokevirtual 97, 3) := by decide +kernel
theorem d_GT_addBorder_108 : decode prog_1_method_2_code 108 = .ok (.istore 6, 2) := by decide +kernel
theorem d_GT_addBorder_110 : decode prog_1_method_2_code 110 = .ok (.aload_n 0, 1) := by decide +kernel
theorem d_GT_addBorder_111 : decode prog_1_method_2_code 111 = .ok (.getfield 12, 3) := by decide +kernel
theorem d_GT_addBorder_114 : decode prog_1_method_2_code 114 = .ok (.getfield 77, 3) := by decide +kernel
theorem d_GT_addBorder_117 : decode prog_1_method_2_code 117 = .ok (.iload_n 1, 1) := by decide +kernel
theorem d_GT_addBorder_118 : decode prog_1_method_2_code 118 = .ok (.iload_n 2, 1) := by decide +kernel
theorem d_GT_addBorder_119 : decode prog_1_method_2_code 119 = .ok (.iload_n 3, 1) := by decide +kernel
theorem d_GT_addBorder_120 : decode prog_1_method_2_code 120 = .ok (.iload 4, 2) := by decide +kernel
theorem d_GT_addBorder_122 : decode prog_1_method_2_code 122 = .ok (.invokevirtual 101, 3) := by decide +kernel
theorem d_GT_addBorder_125 : decode prog_1_method_2_code 125 = .ok (.istore 7, 2) := by decide +kernel
theorem d_GT_addBorder_127 : decode prog_1_method_2_code 127 = .ok (.aload_n 0, 1) := by decide +kernel
theorem d_GT_addBorder_128 : decode prog_1_method_2_code 128 = .ok (.getfield 12, 3) := by decide +kernel
theorem d_GT_addBorder_131 : decode prog_1_method_2_code 131 = .ok (.iload 6, 2) := by decide +kernel
theorem d_GT_addBorder_133 : decode prog_1_method_2_code 133 = .ok (.invokevirtual 105, 3) := by decide +kernel
theorem d_GT_addBorder_136 : decode prog_1_method_2_code 136 = .ok (.iload 7, 2) := by decide +kernel
theorem d_GT_addBorder_138 : decode prog_1_method_2_code 138 = .ok (.ireturn, 1) := by decide +kernel
theorem d_GT_isAxis_0 : decode prog_1_method_33_code 0 = .ok (.iload_n 0, 1) := by decide +kernel
theorem d_GT_isAxis_1 : decode prog_1_method_33_code 1 = .ok (.iconst 0, 1) := by decide +kernel
theorem d_GT_isAxis_2 : decode prog_1_method_33_code 2 = .ok (.iconst 1, 1) := by decide +kernel
theorem d_GT_isAxis_3 : decode prog_1_method_33_code 3 = .ok (.invokestatic 65, 3) := by decide +kernel
theorem d_GT_isAxis_6 : decode prog_1_method_33_code 6 = .ok (.ireturn, 1) := by decide +kernel
theorem d_GT_isIn_0 : decode prog_1_method_32_code 0 = .ok (.iload_n 0, 1) := by decide +kernel
theorem d_GT_isIn_1 : decode prog_1_method_32_code 1 = .ok (.iload_n 1, 1) := by decide +kernel
theorem d_GT_isIn_2 : decode prog_1_method_32_code 2 = .ok (.if_icmp .lt 12, 3) := by decide +kernel
theorem d_GT_isIn_5 : decode prog_1_method_32_code 5 = .ok (.iload_n 0, 1) := by decide +kernel
theorem d_GT_isIn_6 : decode prog_1_method_32_code 6 = .ok (.iload_n 2, 1) := by decide +kernel
theorem d_GT_isIn_7 : decode prog_1_method_32_code 7 = .ok (.if_icmp .gt 7, 3) := by decide +kernel
theorem d_GT_isIn_10 : decode prog_1_method_32_code 10 = .ok (.iconst 1, 1) := by decide +kernel
theorem d_GT_isIn_11 : decode prog_1_method_32_code 11 = .ok (.goto 4, 3) := by decide +kernel
theorem d_GT_isIn_14 : decode prog_1_method_32_code 14 = .ok (.iconst 0, 1) := by decide +kernel
theorem d_GT_isIn_15 : decode prog_1_method_32_code 15 = .ok (.ireturn, 1) := by decide +kernel
theorem d_GT_isReach_0 : decode prog_1_method_38_code 0 = .ok (.iload_n 1, 1) := by decide +kernel
theorem d_GT_isReach_1 : decode prog_1_method_38_code 1 = .ok (.iload_n 0, 1) := by decide +kernel
theorem d_GT_isReach_2 : decode prog_1_method_38_code 2 = .ok (.iconst 1, 1) := by decide +kernel
theorem d_GT_isReach_3 : decode prog_1_method_38_code 3 = .ok (.if_icmp .ne 7, 3) := by decide +kernel
theorem d_GT_isReach_6 : decode prog_1_method_38_code 6 = .ok (.iconst 1, 1) := by decide +kernel
theorem d_GT_isReach_7 : decode prog_1_method_38_code 7 = .ok (.goto 4, 3) := by decide +kernel
theorem d_GT_isReach_10 : decode prog_1_method_38_code 10 = .ok (.iconst 0, 1) := by decide +kernel
theorem d_GT_isReach_11 : decode prog_1_method_38_code 11 = .ok (.bipush 100, 2) := by decide +kernel
theorem d_GT_isReach_13 : decode prog_1_method_38_code 13 = .ok (.invokestatic 65, 3) := by decide +kernel
theorem d_GT_isReach_16 : decode prog_1_method_38_code 16 = .ok (.ireturn, 1) := by decide +kernel
theorem d_Borders_isInside_0 : decode prog_3_method_9_code 0 = .ok (.iload_n 0, 1) := by decide +kernel
theorem d_Borders_isInside_1 : decode prog_3_method_9_code 1 = .ok (.iload_n 1, 1) := by decide +kernel
theorem d_Borders_isInside_2 : decode prog_3_method_9_code 2 = .ok (.isub, 1) := by decide +kernel
theorem d_Borders_isInside_3 : decode prog_3_method_9_code 3 = .ok (.ifCond .lt 16, 3) := by decide +kernel
theorem d_Borders_isInside_6 : decode prog_3_method_9_code 6 = .ok (.iload_n 0, 1) := by decide +kernel
theorem d_Borders_isInside_7 : decode prog_3_method_9_code 7 = .ok (.iload_n 1, 1) := by decide +kernel
theorem d_Borders_isInside_8 : decode prog_3_method_9_code 8 = .ok (.iadd, 1) := by decide +kernel
theorem d_Borders_isInside_9 : decode prog_3_method_9_code 9 = .ok (.sipush 1000, 3) := by decide +kernel
theorem d_Borders_isInside_12 : decode prog_3_method_9_code 12 = .ok (.if_icmp .gt 7, 3) := by decide +kernel
theorem d_Borders_isInside_15 : decode prog_3_method_9_code 15 = .ok (.iconst 1, 1) := by decide +kernel
theorem d_Borders_isInside_16 : decode prog_3_method_9_code 16 = .ok (.goto 4, 3) := by decide +kernel
theorem d_Borders_isInside_19 : decode prog_3_method_9_code 19 = .ok (.iconst 0, 1) := by decide +kernel
theorem d_Borders_isInside_20 : decode prog_3_method_9_code 20 = .ok (.ireturn, 1) := by decide +kernel
theorem d_Table_bordersOf_0 : decode prog_7_method_4_code 0 = .ok (.iload_n 1, 1) := by decide +kernel
theorem d_Table_bordersOf_1 : decode prog_7_method_4_code 1 = .ok (.ifCond .ne 10, 3) := by decide +kernel
theorem d_Table_bordersOf_4 : decode prog_7_method_4_code 4 = .ok (.aload_n 0, 1) := by decide +kernel
theorem d_Table_bordersOf_5 : decode prog_7_method_4_code 5 = .ok (.getfield 12, 3) := by decide +kernel
theorem d_Table_bordersOf_8 : decode prog_7_method_4_code 8 = .ok (.goto 7, 3) := by decide +kernel
theorem d_Table_bordersOf_11 : decode prog_7_method_4_code 11 = .ok (.aload_n 0, 1) := by decide +kernel
theorem d_Table_bordersOf_12 : decode prog_7_method_4_code 12 = .ok (.getfield 18, 3) := by decide +kernel
theorem d_Table_bordersOf_15 : decode prog_7_method_4_code 15 = .ok (.areturn, 1) := by decide +kernel
theorem d_Borders_isFree_0 : decode prog_3_method_10_code 0 = .ok (.iconst 0, 1) := by decide +kernel
theorem d_Borders_isFree_1 : decode prog_3_method_10_code 1 = .ok (.istore 4, 2) := by decide +kernel
theorem d_Borders_isFree_3 : decode prog_3_method_10_code 3 = .ok (.iload 4, 2) := by decide +kernel
theorem d_Borders_isFree_5 : decode prog_3_method_10_code 5 = .ok (.aload_n 0, 1) := by decide +kernel
theorem d_Borders_isFree_6 : decode prog_3_method_10_code 6 = .ok (.getfield 21, 3) := by decide +kernel
theorem d_Borders_isFree_9 : decode prog_3_method_10_code 9 = .ok (.if_icmp .ge 59, 3) := by decide +kernel
theorem d_Borders_isFree_12 : decode prog_3_method_10_code 12 = .ok (.iload 4, 2) := by decide +kernel
theorem d_Borders_isFree_14 : decode prog_3_method_10_code 14 = .ok (.iload_n 3, 1) := by decide +kernel
theorem d_Borders_isFree_15 : decode prog_3_method_10_code 15 = .ok (.if_icmp .eq 47, 3) := by decide +kernel
theorem d_Borders_isFree_18 : decode prog_3_method_10_code 18 = .ok (.iload_n 1, 1) := by decide +kernel
theorem d_Borders_isFree_19 : decode prog_3_method_10_code 19 = .ok (.iload_n 2, 1) := by decide +kernel
theorem d_Borders_isFree_20 : decode prog_3_method_10_code 20 = .ok (.isub, 1) := by decide +kernel
theorem d_Borders_isFree_21 : decode prog_3_method_10_code 21 = .ok (.aload_n 0, 1) := by decide +kernel
theorem d_Borders_isFree_22 : decode prog_3_method_10_code 22 = .ok (.getfield 9, 3) := by decide +kernel
theorem d_Borders_isFree_25 : decode prog_3_method_10_code 25 = .ok (.iload 4, 2) := by decide +kernel
theorem d_Borders_isFree_27 : decode prog_3_method_10_code 27 = .ok (.iaload, 1) := by decide +kernel
theorem d_Borders_isFree_28 : decode prog_3_method_10_code 28 = .ok (.aload_n 0, 1) := by decide +kernel
theorem d_Borders_isFree_29 : decode prog_3_method_10_code 29 = .ok (.getfield 18, 3) := by decide +kernel
theorem d_Borders_isFree_32 : decode prog_3_method_10_code 32 = .ok (.iload 4, 2) := by decide +kernel
theorem d_Borders_isFree_34 : decode prog_3_method_10_code 34 = .ok (.iaload, 1) := by decide +kernel
theorem d_Borders_isFree_35 : decode prog_3_method_10_code 35 = .ok (.iadd, 1) := by decide +kernel
theorem d_Borders_isFree_36 : decode prog_3_method_10_code 36 = .ok (.if_icmp .gt 26, 3) := by decide +kernel
theorem d_Borders_isFree_39 : decode prog_3_method_10_code 39 = .ok (.iload_n 1, 1) := by decide +kernel
theorem d_Borders_isFree_40 : decode prog_3_method_10_code 40 = .ok (.iload_n 2, 1) := by decide +kernel
theorem d_Borders_isFree_41 : decode prog_3_method_10_code 41 = .ok (.iadd, 1) := by decide +kernel
theorem d_Borders_isFree_42 : decode prog_3_method_10_code 42 = .ok (.aload_n 0, 1) := by decide +kernel
theorem d_Borders_isFree_43 : decode prog_3_method_10_code 43 = .ok (.getfield 9, 3) := by decide +kernel
theorem d_Borders_isFree_46 : decode prog_3_method_10_code 46 = .ok (.iload 4, 2) := by decide +kernel
theorem d_Borders_isFree_48 : decode prog_3_method_10_code 48 = .ok (.iaload, 1) := by decide +kernel
theorem d_Borders_isFree_49 : decode prog_3_method_10_code 49 = .ok (.aload_n 0, 1) := by decide +kernel
theorem d_Borders_isFree_50 : decode prog_3_method_10_code 50 = .ok (.getfield 18, 3) := by decide +kernel
theorem d_Borders_isFree_53 : decode prog_3_method_10_code 53 = .ok (.iload 4, 2) := by decide +kernel
theorem d_Borders_isFree_55 : decode prog_3_method_10_code 55 = .ok (.iaload, 1) := by decide +kernel
theorem d_Borders_isFree_56 : decode prog_3_method_10_code 56 = .ok (.isub, 1) := by decide +kernel
theorem d_Borders_isFree_57 : decode prog_3_method_10_code 57 = .ok (.if_icmp .lt 5, 3) := by decide +kernel
theorem d_Borders_isFree_60 : decode prog_3_method_10_code 60 = .ok (.iconst 0, 1) := by decide +kernel
theorem d_Borders_isFree_61 : decode prog_3_method_10_code 61 = .ok (.ireturn, 1) := by decide +kernel
theorem d_Borders_isFree_62 : decode prog_3_method_10_code 62 = .ok (.iinc 4 1, 3) := by decide +kernel
theorem d_Borders_isFree_65 : decode prog_3_method_10_code 65 = .ok (.goto (-62), 3) := by decide +kernel
theorem d_Borders_isFree_68 : decode prog_3_method_10_code 68 = .ok (.iconst 1, 1) := by decide +kernel
theorem d_Borders_isFree_69 : decode prog_3_method_10_code 69 = .ok (.ireturn, 1) := by decide +kernel
theorem d_Borders_isFull_0 : decode prog_3_method_4_code 0 = .ok (.aload_n 0, 1) := by decide +kernel
theorem d_Borders_isFull_1 : decode prog_3_method_4_code 1 = .ok (.getfield 21, 3) := by decide +kernel
theorem d_Borders_isFull_4 : decode prog_3_method_4_code 4 = .ok (.bipush 6, 2) := by decide +kernel
theorem d_Borders_isFull_6 : decode prog_3_method_4_code 6 = .ok (.if_icmp .lt 7, 3) := by decide +kernel
theorem d_Borders_isFull_9 : decode prog_3_method_4_code 9 = .ok (.iconst 1, 1) := by decide +kernel
theorem d_Borders_isFull_10 : decode prog_3_method_4_code 10 = .ok (.goto 4, 3) := by decide +kernel
theorem d_Borders_isFull_13 : decode prog_3_method_4_code 13 = .ok (.iconst 0, 1) := by decide +kernel
theorem d_Borders_isFull_14 : decode prog_3_method_4_code 14 = .ok (.ireturn, 1) := by decide +kernel
theorem d_History_keep_0 : decode prog_4_method_2_code 0 = .ok (.aload_n 0, 1) := by decide +kernel
theorem d_History_keep_1 : decode prog_4_method_2_code 1 = .ok (.getfield 18, 3) := by decide +kernel
theorem d_History_keep_4 : decode prog_4_method_2_code 4 = .ok (.iconst 5, 1) := by decide +kernel
theorem d_History_keep_5 : decode prog_4_method_2_code 5 = .ok (.if_icmp .lt 25, 3) := by decide +kernel
theorem d_History_keep_8 : decode prog_4_method_2_code 8 = .ok (.aload_n 0, 1) := by decide +kernel
theorem d_History_keep_9 : decode prog_4_method_2_code 9 = .ok (.aload_n 0, 1) := by decide +kernel
theorem d_History_keep_10 : decode prog_4_method_2_code 10 = .ok (.getfield 22, 3) := by decide +kernel
theorem d_History_keep_13 : decode prog_4_method_2_code 13 = .ok (.iconst 1, 1) := by decide +kernel
theorem d_History_keep_14 : decode prog_4_method_2_code 14 = .ok (.iadd, 1) := by decide +kernel
theorem d_History_keep_15 : decode prog_4_method_2_code 15 = .ok (.iconst 5, 1) := by decide +kernel
theorem d_History_keep_16 : decode prog_4_method_2_code 16 = .ok (.irem, 1) := by decide +kernel
theorem d_History_keep_17 : decode prog_4_method_2_code 17 = .ok (.putfield 22, 3) := by decide +kernel
theorem d_History_keep_20 : decode prog_4_method_2_code 20 = .ok (.aload_n 0, 1) := by decide +kernel
theorem d_History_keep_21 : decode prog_4_method_2_code 21 = .ok (.dup, 1) := by decide +kernel
theorem d_History_keep_22 : decode prog_4_method_2_code 22 = .ok (.getfield 18, 3) := by decide +kernel
theorem d_History_keep_25 : decode prog_4_method_2_code 25 = .ok (.iconst 1, 1) := by decide +kernel
theorem d_History_keep_26 : decode prog_4_method_2_code 26 = .ok (.isub, 1) := by decide +kernel
theorem d_History_keep_27 : decode prog_4_method_2_code 27 = .ok (.putfield 18, 3) := by decide +kernel
theorem d_History_keep_30 : decode prog_4_method_2_code 30 = .ok (.aload_n 0, 1) := by decide +kernel
theorem d_History_keep_31 : decode prog_4_method_2_code 31 = .ok (.getfield 11, 3) := by decide +kernel
theorem d_History_keep_34 : decode prog_4_method_2_code 34 = .ok (.aload_n 0, 1) := by decide +kernel
theorem d_History_keep_35 : decode prog_4_method_2_code 35 = .ok (.getfield 22, 3) := by decide +kernel
theorem d_History_keep_38 : decode prog_4_method_2_code 38 = .ok (.aload_n 0, 1) := by decide +kernel
theorem d_History_keep_39 : decode prog_4_method_2_code 39 = .ok (.getfield 18, 3) := by decide +kernel
theorem d_History_keep_42 : decode prog_4_method_2_code 42 = .ok (.iadd, 1) := by decide +kernel
theorem d_History_keep_43 : decode prog_4_method_2_code 43 = .ok (.iconst 5, 1) := by decide +kernel
theorem d_History_keep_44 : decode prog_4_method_2_code 44 = .ok (.irem, 1) := by decide +kernel
theorem d_History_keep_45 : decode prog_4_method_2_code 45 = .ok (.aaload, 1) := by decide +kernel
theorem d_History_keep_46 : decode prog_4_method_2_code 46 = .ok (.astore_n 2, 1) := by decide +kernel
theorem d_History_keep_47 : decode prog_4_method_2_code 47 = .ok (.aload_n 2, 1) := by decide +kernel
theorem d_History_keep_48 : decode prog_4_method_2_code 48 = .ok (.ifnull 18, 3) := by decide +kernel
theorem d_History_keep_51 : decode prog_4_method_2_code 51 = .ok (.aload_n 2, 1) := by decide +kernel
theorem d_History_keep_52 : decode prog_4_method_2_code 52 = .ok (.aload_n 1, 1) := by decide +kernel
theorem d_History_keep_53 : decode prog_4_method_2_code 53 = .ok (.invokevirtual 25, 3) := by decide +kernel
theorem d_History_keep_56 : decode prog_4_method_2_code 56 = .ok (.aload_n 0, 1) := by decide +kernel
theorem d_History_keep_57 : decode prog_4_method_2_code 57 = .ok (.dup, 1) := by decide +kernel
theorem d_History_keep_58 : decode prog_4_method_2_code 58 = .ok (.getfield 18, 3) := by decide +kernel
theorem d_History_keep_61 : decode prog_4_method_2_code 61 = .ok (.iconst 1, 1) := by decide +kernel
theorem d_History_keep_62 : decode prog_4_method_2_code 62 = .ok (.iadd, 1) := by decide +kernel
theorem d_History_keep_63 : decode prog_4_method_2_code 63 = .ok (.putfield 18, 3) := by decide +kernel
theorem d_History_keep_66 : decode prog_4_method_2_code 66 = .ok (.return_, 1) := by decide +kernel
theorem d_State_copyFrom_0 : decode prog_6_method_2_code 0 = .ok (.aload_n 0, 1) := by decide +kernel
theorem d_State_copyFrom_1 : decode prog_6_method_2_code 1 = .ok (.getfield 12, 3) := by decide +kernel
theorem d_State_copyFrom_4 : decode prog_6_method_2_code 4 = .ok (.aload_n 1, 1) := by decide +kernel
theorem d_State_copyFrom_5 : decode prog_6_method_2_code 5 = .ok (.getfield 12, 3) := by decide +kernel
theorem d_State_copyFrom_8 : decode prog_6_method_2_code 8 = .ok (.invokevirtual 63, 3) := by decide +kernel
theorem d_State_copyFrom_11 : decode prog_6_method_2_code 11 = .ok (.aload_n 0, 1) := by decide +kernel
theorem d_State_copyFrom_12 : decode prog_6_method_2_code 12 = .ok (.getfield 18, 3) := by decide +kernel
theorem d_State_copyFrom_15 : decode prog_6_method_2_code 15 = .ok (.aload_n 1, 1) := by decide +kernel
theorem d_State_copyFrom_16 : decode prog_6_method_2_code 16 = .ok (.getfield 18, 3) := by decide +kernel
theorem d_State_copyFrom_19 : decode prog_6_method_2_code 19 = .ok (.invokevirtual 63, 3) := by decide +kernel
theorem d_State_copyFrom_22 : decode prog_6_method_2_code 22 = .ok (.aload_n 0, 1) := by decide +kernel
theorem d_State_copyFrom_23 : decode prog_6_method_2_code 23 = .ok (.getfield 21, 3) := by decide +kernel
theorem d_State_copyFrom_26 : decode prog_6_method_2_code 26 = .ok (.aload_n 1, 1) := by decide +kernel
theorem d_State_copyFrom_27 : decode prog_6_method_2_code 27 = .ok (.getfield 21, 3) := by decide +kernel
theorem d_State_copyFrom_30 : decode prog_6_method_2_code 30 = .ok (.invokevirtual 63, 3) := by decide +kernel
theorem d_State_copyFrom_33 : decode prog_6_method_2_code 33 = .ok (.aload_n 0, 1) := by decide +kernel
theorem d_State_copyFrom_34 : decode prog_6_method_2_code 34 = .ok (.getfield 24, 3) := by decide +kernel
theorem d_State_copyFrom_37 : decode prog_6_method_2_code 37 = .ok (.aload_n 1, 1) := by decide +kernel
theorem d_State_copyFrom_38 : decode prog_6_method_2_code 38 = .ok (.getfield 24, 3) := by decide +kernel
theorem d_State_copyFrom_41 : decode prog_6_method_2_code 41 = .ok (.invokevirtual 63, 3) := by decide +kernel
theorem d_State_copyFrom_44 : decode prog_6_method_2_code 44 = .ok (.iconst 0, 1) := by decide +kernel
theorem d_State_copyFrom_45 : decode prog_6_method_2_code 45 = .ok (.istore_n 2, 1) := by decide +kernel
theorem d_State_copyFrom_46 : decode prog_6_method_2_code 46 = .ok (.iload_n 2, 1) := by decide +kernel
theorem d_State_copyFrom_47 : decode prog_6_method_2_code 47 = .ok (.iconst 3, 1) := by decide +kernel
theorem d_State_copyFrom_48 : decode prog_6_method_2_code 48 = .ok (.if_icmp .ge 21, 3) := by decide +kernel
theorem d_State_copyFrom_51 : decode prog_6_method_2_code 51 = .ok (.aload_n 0, 1) := by decide +kernel
theorem d_State_copyFrom_52 : decode prog_6_method_2_code 52 = .ok (.getfield 27, 3) := by decide +kernel
theorem d_State_copyFrom_55 : decode prog_6_method_2_code 55 = .ok (.iload_n 2, 1) := by decide +kernel
theorem d_State_copyFrom_56 : decode prog_6_method_2_code 56 = .ok (.aload_n 1, 1) := by decide +kernel
theorem d_State_copyFrom_57 : decode prog_6_method_2_code 57 = .ok (.getfield 27, 3) := by decide +kernel
theorem d_State_copyFrom_60 : decode prog_6_method_2_code 60 = .ok (.iload_n 2, 1) := by decide +kernel
theorem d_State_copyFrom_61 : decode prog_6_method_2_code 61 = .ok (.baload, 1) := by decide +kernel
theorem d_State_copyFrom_62 : decode prog_6_method_2_code 62 = .ok (.bastore, 1) := by decide +kernel
theorem d_State_copyFrom_63 : decode prog_6_method_2_code 63 = .ok (.iinc 2 1, 3) := by decide +kernel
theorem d_State_copyFrom_66 : decode prog_6_method_2_code 66 = .ok (.goto (-20), 3) := by decide +kernel
theorem d_State_copyFrom_69 : decode prog_6_method_2_code 69 = .ok (.aload_n 1, 1) := by decide +kernel
theorem d_State_copyFrom_70 : decode prog_6_method_2_code 70 = .ok (.getfield 31, 3) := by decide +kernel
theorem d_State_copyFrom_73 : decode prog_6_method_2_code 73 = .ok (.iconst 0, 1) := by decide +kernel
theorem d_State_copyFrom_74 : decode prog_6_method_2_code 74 = .ok (.aload_n 0, 1) := by decide +kernel
theorem d_State_copyFrom_75 : decode prog_6_method_2_code 75 = .ok (.getfield 31, 3) := by decide +kernel
theorem d_State_copyFrom_78 : decode prog_6_method_2_code 78 = .ok (.iconst 0, 1) := by decide +kernel
theorem d_State_copyFrom_79 : decode prog_6_method_2_code 79 = .ok (.aload_n 0, 1) := by decide +kernel
theorem d_State_copyFrom_80 : decode prog_6_method_2_code 80 = .ok (.getfield 31, 3) := by decide +kernel
theorem d_State_copyFrom_83 : decode prog_6_method_2_code 83 = .ok (.arraylength, 1) := by decide +kernel
theorem d_State_copyFrom_84 : decode prog_6_method_2_code 84 = .ok (.invokestatic 67, 3) := by decide +kernel
theorem d_State_copyFrom_87 : decode prog_6_method_2_code 87 = .ok (.aload_n 1, 1) := by decide +kernel
theorem d_State_copyFrom_88 : decode prog_6_method_2_code 88 = .ok (.getfield 35, 3) := by decide +kernel
theorem d_State_copyFrom_91 : decode prog_6_method_2_code 91 = .ok (.iconst 0, 1) := by decide +kernel
theorem d_State_copyFrom_92 : decode prog_6_method_2_code 92 = .ok (.aload_n 0, 1) := by decide +kernel
theorem d_State_copyFrom_93 : decode prog_6_method_2_code 93 = .ok (.getfield 35, 3) := by decide +kernel
theorem d_State_copyFrom_96 : decode prog_6_method_2_code 96 = .ok (.iconst 0, 1) := by decide +kernel
theorem d_State_copyFrom_97 : decode prog_6_method_2_code 97 = .ok (.aload_n 0, 1) := by decide +kernel
theorem d_State_copyFrom_98 : decode prog_6_method_2_code 98 = .ok (.getfield 35, 3) := by decide +kernel
theorem d_State_copyFrom_101 : decode prog_6_method_2_code 101 = .ok (.arraylength, 1) := by decide +kernel
theorem d_State_copyFrom_102 : decode prog_6_method_2_code 102 = .ok (.invokestatic 67, 3) := by decide +kernel
theorem d_State_copyFrom_105 : decode prog_6_method_2_code 105 = .ok (.aload_n 0, 1) := by decide +kernel
theorem d_State_copyFrom_106 : decode prog_6_method_2_code 106 = .ok (.aload_n 1, 1) := by decide +kernel
theorem d_State_copyFrom_107 : decode prog_6_method_2_code 107 = .ok (.getfield 73, 3) := by decide +kernel
theorem d_State_copyFrom_110 : decode prog_6_method_2_code 110 = .ok (.putfield 73, 3) := by decide +kernel
theorem d_State_copyFrom_113 : decode prog_6_method_2_code 113 = .ok (.aload_n 0, 1) := by decide +kernel
theorem d_State_copyFrom_114 : decode prog_6_method_2_code 114 = .ok (.getfield 41, 3) := by decide +kernel
theorem d_State_copyFrom_117 : decode prog_6_method_2_code 117 = .ok (.aload_n 1, 1) := by decide +kernel
theorem d_State_copyFrom_118 : decode prog_6_method_2_code 118 = .ok (.getfield 41, 3) := by decide +kernel
theorem d_State_copyFrom_121 : decode prog_6_method_2_code 121 = .ok (.invokevirtual 77, 3) := by decide +kernel
theorem d_State_copyFrom_124 : decode prog_6_method_2_code 124 = .ok (.aload_n 0, 1) := by decide +kernel
theorem d_State_copyFrom_125 : decode prog_6_method_2_code 125 = .ok (.aload_n 1, 1) := by decide +kernel
theorem d_State_copyFrom_126 : decode prog_6_method_2_code 126 = .ok (.getfield 80, 3) := by decide +kernel
theorem d_State_copyFrom_129 : decode prog_6_method_2_code 129 = .ok (.putfield 80, 3) := by decide +kernel
theorem d_State_copyFrom_132 : decode prog_6_method_2_code 132 = .ok (.aload_n 0, 1) := by decide +kernel
theorem d_State_copyFrom_133 : decode prog_6_method_2_code 133 = .ok (.aload_n 1, 1) := by decide +kernel
theorem d_State_copyFrom_134 : decode prog_6_method_2_code 134 = .ok (.getfield 83, 3) := by decide +kernel
theorem d_State_copyFrom_137 : decode prog_6_method_2_code 137 = .ok (.putfield 83, 3) := by decide +kernel
theorem d_State_copyFrom_140 : decode prog_6_method_2_code 140 = .ok (.aload_n 1, 1) := by decide +kernel
theorem d_State_copyFrom_141 : decode prog_6_method_2_code 141 = .ok (.getfield 45, 3) := by decide +kernel
theorem d_State_copyFrom_144 : decode prog_6_method_2_code 144 = .ok (.iconst 0, 1) := by decide +kernel
theorem d_State_copyFrom_145 : decode prog_6_method_2_code 145 = .ok (.aload_n 0, 1) := by decide +kernel
theorem d_State_copyFrom_146 : decode prog_6_method_2_code 146 = .ok (.getfield 45, 3) := by decide +kernel
theorem d_State_copyFrom_149 : decode prog_6_method_2_code 149 = .ok (.iconst 0, 1) := by decide +kernel
theorem d_State_copyFrom_150 : decode prog_6_method_2_code 150 = .ok (.iconst 3, 1) := by decide +kernel
theorem d_State_copyFrom_151 : decode prog_6_method_2_code 151 = .ok (.invokestatic 67, 3) := by decide +kernel
theorem d_State_copyFrom_154 : decode prog_6_method_2_code 154 = .ok (.aload_n 1, 1) := by decide +kernel
theorem d_State_copyFrom_155 : decode prog_6_method_2_code 155 = .ok (.getfield 48, 3) := by decide +kernel
theorem d_State_copyFrom_158 : decode prog_6_method_2_code 158 = .ok (.iconst 0, 1) := by decide +kernel
theorem d_State_copyFrom_159 : decode prog_6_method_2_code 159 = .ok (.aload_n 0, 1) := by decide +kernel
theorem d_State_copyFrom_160 : decode prog_6_method_2_code 160 = .ok (.getfield 48, 3) := by decide +kernel
theorem d_State_copyFrom_163 : decode prog_6_method_2_code 163 = .ok (.iconst 0, 1) := by decide +kernel
theorem d_State_copyFrom_164 : decode prog_6_method_2_code 164 = .ok (.iconst 3, 1) := by decide +kernel
theorem d_State_copyFrom_165 : decode prog_6_method_2_code 165 = .ok (.invokestatic 67, 3) := by decide +kernel
theorem d_State_copyFrom_168 : decode prog_6_method_2_code 168 = .ok (.aload_n 1, 1) := by decide +kernel
theorem d_State_copyFrom_169 : decode prog_6_method_2_code 169 = .ok (.getfield 51, 3) := by decide +kernel
theorem d_State_copyFrom_172 : decode prog_6_method_2_code 172 = .ok (.iconst 0, 1) := by decide +kernel
theorem d_State_copyFrom_173 : decode prog_6_method_2_code 173 = .ok (.aload_n 0, 1) := by decide +kernel
theorem d_State_copyFrom_174 : decode prog_6_method_2_code 174 = .ok (.getfield 51, 3) := by decide +kernel
theorem d_State_copyFrom_177 : decode prog_6_method_2_code 177 = .ok (.iconst 0, 1) := by decide +kernel
theorem d_State_copyFrom_178 : decode prog_6_method_2_code 178 = .ok (.iconst 3, 1) := by decide +kernel
theorem d_State_copyFrom_179 : decode prog_6_method_2_code 179 = .ok (.invokestatic 67, 3) := by decide +kernel
theorem d_State_copyFrom_182 : decode prog_6_method_2_code 182 = .ok (.aload_n 1, 1) := by decide +kernel
theorem d_State_copyFrom_183 : decode prog_6_method_2_code 183 = .ok (.getfield 54, 3) := by decide +kernel
theorem d_State_copyFrom_186 : decode prog_6_method_2_code 186 = .ok (.iconst 0, 1) := by decide +kernel
theorem d_State_copyFrom_187 : decode prog_6_method_2_code 187 = .ok (.aload_n 0, 1) := by decide +kernel
theorem d_State_copyFrom_188 : decode prog_6_method_2_code 188 = .ok (.getfield 54, 3) := by decide +kernel
theorem d_State_copyFrom_191 : decode prog_6_method_2_code 191 = .ok (.iconst 0, 1) := by decide +kernel
theorem d_State_copyFrom_192 : decode prog_6_method_2_code 192 = .ok (.aload_n 0, 1) := by decide +kernel
theorem d_State_copyFrom_193 : decode prog_6_method_2_code 193 = .ok (.getfield 54, 3) := by decide +kernel
theorem d_State_copyFrom_196 : decode prog_6_method_2_code 196 = .ok (.arraylength, 1) := by decide +kernel
theorem d_State_copyFrom_197 : decode prog_6_method_2_code 197 = .ok (.invokestatic 67, 3) := by decide +kernel
theorem d_State_copyFrom_200 : decode prog_6_method_2_code 200 = .ok (.return_, 1) := by decide +kernel
theorem d_Table_copyFrom_0 : decode prog_7_method_3_code 0 = .ok (.aload_n 0, 1) := by decide +kernel
theorem d_Table_copyFrom_1 : decode prog_7_method_3_code 1 = .ok (.getfield 12, 3) := by decide +kernel
theorem d_Table_copyFrom_4 : decode prog_7_method_3_code 4 = .ok (.aload_n 1, 1) := by decide +kernel
theorem d_Table_copyFrom_5 : decode prog_7_method_3_code 5 = .ok (.getfield 12, 3) := by decide +kernel
theorem d_Table_copyFrom_8 : decode prog_7_method_3_code 8 = .ok (.invokevirtual 39, 3) := by decide +kernel
theorem d_Table_copyFrom_11 : decode prog_7_method_3_code 11 = .ok (.aload_n 0, 1) := by decide +kernel
theorem d_Table_copyFrom_12 : decode prog_7_method_3_code 12 = .ok (.getfield 18, 3) := by decide +kernel
theorem d_Table_copyFrom_15 : decode prog_7_method_3_code 15 = .ok (.aload_n 1, 1) := by decide +kernel
theorem d_Table_copyFrom_16 : decode prog_7_method_3_code 16 = .ok (.getfield 18, 3) := by decide +kernel
theorem d_Table_copyFrom_19 : decode prog_7_method_3_code 19 = .ok (.invokevirtual 39, 3) := by decide +kernel
theorem d_Table_copyFrom_22 : decode prog_7_method_3_code 22 = .ok (.aload_n 1, 1) := by decide +kernel
theorem d_Table_copyFrom_23 : decode prog_7_method_3_code 23 = .ok (.getfield 21, 3) := by decide +kernel
theorem d_Table_copyFrom_26 : decode prog_7_method_3_code 26 = .ok (.iconst 0, 1) := by decide +kernel
theorem d_Table_copyFrom_27 : decode prog_7_method_3_code 27 = .ok (.aload_n 0, 1) := by decide +kernel
theorem d_Table_copyFrom_28 : decode prog_7_method_3_code 28 = .ok (.getfield 21, 3) := by decide +kernel
theorem d_Table_copyFrom_31 : decode prog_7_method_3_code 31 = .ok (.iconst 0, 1) := by decide +kernel
theorem d_Table_copyFrom_32 : decode prog_7_method_3_code 32 = .ok (.aload_n 0, 1) := by decide +kernel
theorem d_Table_copyFrom_33 : decode prog_7_method_3_code 33 = .ok (.getfield 21, 3) := by decide +kernel
theorem d_Table_copyFrom_36 : decode prog_7_method_3_code 36 = .ok (.arraylength, 1) := by decide +kernel
theorem d_Table_copyFrom_37 : decode prog_7_method_3_code 37 = .ok (.invokestatic 43, 3) := by decide +kernel
theorem d_Table_copyFrom_40 : decode prog_7_method_3_code 40 = .ok (.aload_n 1, 1) := by decide +kernel
theorem d_Table_copyFrom_41 : decode prog_7_method_3_code 41 = .ok (.getfield 25, 3) := by decide +kernel
theorem d_Table_copyFrom_44 : decode prog_7_method_3_code 44 = .ok (.iconst 0, 1) := by decide +kernel
theorem d_Table_copyFrom_45 : decode prog_7_method_3_code 45 = .ok (.aload_n 0, 1) := by decide +kernel
theorem d_Table_copyFrom_46 : decode prog_7_method_3_code 46 = .ok (.getfield 25, 3) := by decide +kernel
theorem d_Table_copyFrom_49 : decode prog_7_method_3_code 49 = .ok (.iconst 0, 1) := by decide +kernel
theorem d_Table_copyFrom_50 : decode prog_7_method_3_code 50 = .ok (.aload_n 0, 1) := by decide +kernel
theorem d_Table_copyFrom_51 : decode prog_7_method_3_code 51 = .ok (.getfield 25, 3) := by decide +kernel
theorem d_Table_copyFrom_54 : decode prog_7_method_3_code 54 = .ok (.arraylength, 1) := by decide +kernel
theorem d_Table_copyFrom_55 : decode prog_7_method_3_code 55 = .ok (.invokestatic 43, 3) := by decide +kernel
theorem d_Table_copyFrom_58 : decode prog_7_method_3_code 58 = .ok (.return_, 1) := by decide +kernel
theorem d_Borders_copyFrom_0 : decode prog_3_method_2_code 0 = .ok (.aload_n 0, 1) := by decide +kernel
theorem d_Borders_copyFrom_1 : decode prog_3_method_2_code 1 = .ok (.aload_n 1, 1) := by decide +kernel
theorem d_Borders_copyFrom_2 : decode prog_3_method_2_code 2 = .ok (.getfield 21, 3) := by decide +kernel
theorem d_Borders_copyFrom_5 : decode prog_3_method_2_code 5 = .ok (.putfield 21, 3) := by decide +kernel
theorem d_Borders_copyFrom_8 : decode prog_3_method_2_code 8 = .ok (.aload_n 1, 1) := by decide +kernel
theorem d_Borders_copyFrom_9 : decode prog_3_method_2_code 9 = .ok (.getfield 9, 3) := by decide +kernel
theorem d_Borders_copyFrom_12 : decode prog_3_method_2_code 12 = .ok (.iconst 0, 1) := by decide +kernel
theorem d_Borders_copyFrom_13 : decode prog_3_method_2_code 13 = .ok (.aload_n 0, 1) := by decide +kernel
theorem d_Borders_copyFrom_14 : decode prog_3_method_2_code 14 = .ok (.getfield 9, 3) := by decide +kernel
theorem d_Borders_copyFrom_17 : decode prog_3_method_2_code 17 = .ok (.iconst 0, 1) := by decide +kernel
theorem d_Borders_copyFrom_18 : decode prog_3_method_2_code 18 = .ok (.bipush 6, 2) := by decide +kernel
theorem d_Borders_copyFrom_20 : decode prog_3_method_2_code 20 = .ok (.invokestatic 25, 3) := by decide +kernel
theorem d_Borders_copyFrom_23 : decode prog_3_method_2_code 23 = .ok (.aload_n 1, 1) := by decide +kernel
theorem d_Borders_copyFrom_24 : decode prog_3_method_2_code 24 = .ok (.getfield 15, 3) := by decide +kernel
theorem d_Borders_copyFrom_27 : decode prog_3_method_2_code 27 = .ok (.iconst 0, 1) := by decide +kernel
theorem d_Borders_copyFrom_28 : decode prog_3_method_2_code 28 = .ok (.aload_n 0, 1) := by decide +kernel
theorem d_Borders_copyFrom_29 : decode prog_3_method_2_code 29 = .ok (.getfield 15, 3) := by decide +kernel
theorem d_Borders_copyFrom_32 : decode prog_3_method_2_code 32 = .ok (.iconst 0, 1) := by decide +kernel
theorem d_Borders_copyFrom_33 : decode prog_3_method_2_code 33 = .ok (.bipush 6, 2) := by decide +kernel
theorem d_Borders_copyFrom_35 : decode prog_3_method_2_code 35 = .ok (.invokestatic 25, 3) := by decide +kernel
theorem d_Borders_copyFrom_38 : decode prog_3_method_2_code 38 = .ok (.aload_n 1, 1) := by decide +kernel
theorem d_Borders_copyFrom_39 : decode prog_3_method_2_code 39 = .ok (.getfield 18, 3) := by decide +kernel
theorem d_Borders_copyFrom_42 : decode prog_3_method_2_code 42 = .ok (.iconst 0, 1) := by decide +kernel
theorem d_Borders_copyFrom_43 : decode prog_3_method_2_code 43 = .ok (.aload_n 0, 1) := by decide +kernel
theorem d_Borders_copyFrom_44 : decode prog_3_method_2_code 44 = .ok (.getfield 18, 3) := by decide +kernel
theorem d_Borders_copyFrom_47 : decode prog_3_method_2_code 47 = .ok (.iconst 0, 1) := by decide +kernel
theorem d_Borders_copyFrom_48 : decode prog_3_method_2_code 48 = .ok (.bipush 6, 2) := by decide +kernel
theorem d_Borders_copyFrom_50 : decode prog_3_method_2_code 50 = .ok (.invokestatic 25, 3) := by decide +kernel
theorem d_Borders_copyFrom_53 : decode prog_3_method_2_code 53 = .ok (.return_, 1) := by decide +kernel
theorem d_Path_copyFrom_0 : decode prog_5_method_2_code 0 = .ok (.aload_n 0, 1) := by decide +kernel
theorem d_Path_copyFrom_1 : decode prog_5_method_2_code 1 = .ok (.aload_n 1, 1) := by decide +kernel
theorem d_Path_copyFrom_2 : decode prog_5_method_2_code 2 = .ok (.getfield 15, 3) := by decide +kernel
theorem d_Path_copyFrom_5 : decode prog_5_method_2_code 5 = .ok (.putfield 15, 3) := by decide +kernel
theorem d_Path_copyFrom_8 : decode prog_5_method_2_code 8 = .ok (.aload_n 0, 1) := by decide +kernel
theorem d_Path_copyFrom_9 : decode prog_5_method_2_code 9 = .ok (.aload_n 1, 1) := by decide +kernel
theorem d_Path_copyFrom_10 : decode prog_5_method_2_code 10 = .ok (.getfield 19, 3) := by decide +kernel
theorem d_Path_copyFrom_13 : decode prog_5_method_2_code 13 = .ok (.putfield 19, 3) := by decide +kernel
theorem d_Path_copyFrom_16 : decode prog_5_method_2_code 16 = .ok (.aload_n 1, 1) := by decide +kernel
theorem d_Path_copyFrom_17 : decode prog_5_method_2_code 17 = .ok (.getfield 9, 3) := by decide +kernel
theorem d_Path_copyFrom_20 : decode prog_5_method_2_code 20 = .ok (.iconst 0, 1) := by decide +kernel
theorem d_Path_copyFrom_21 : decode prog_5_method_2_code 21 = .ok (.aload_n 0, 1) := by decide +kernel
theorem d_Path_copyFrom_22 : decode prog_5_method_2_code 22 = .ok (.getfield 9, 3) := by decide +kernel
theorem d_Path_copyFrom_25 : decode prog_5_method_2_code 25 = .ok (.iconst 0, 1) := by decide +kernel
theorem d_Path_copyFrom_26 : decode prog_5_method_2_code 26 = .ok (.aload_n 0, 1) := by decide +kernel
theorem d_Path_copyFrom_27 : decode prog_5_method_2_code 27 = .ok (.getfield 9, 3) := by decide +kernel
theorem d_Path_copyFrom_30 : decode prog_5_method_2_code 30 = .ok (.arraylength, 1) := by decide +kernel
theorem d_Path_copyFrom_31 : decode prog_5_method_2_code 31 = .ok (.invokestatic 22, 3) := by decide +kernel
theorem d_Path_copyFrom_34 : decode prog_5_method_2_code 34 = .ok (.return_, 1) := by decide +kernel
theorem d_Table_sumOfGains_0 : decode prog_7_method_12_code 0 = .ok (.iconst 0, 1) := by decide +kernel
theorem d_Table_sumOfGains_1 : decode prog_7_method_12_code 1 = .ok (.istore_n 1, 1) := by decide +kernel
theorem d_Table_sumOfGains_2 : decode prog_7_method_12_code 2 = .ok (.iconst 0, 1) := by decide +kernel
theorem d_Table_sumOfGains_3 : decode prog_7_method_12_code 3 = .ok (.istore_n 2, 1) := by decide +kernel
theorem d_Table_sumOfGains_4 : decode prog_7_method_12_code 4 = .ok (.iload_n 2, 1) := by decide +kernel
theorem d_Table_sumOfGains_5 : decode prog_7_method_12_code 5 = .ok (.aload_n 0, 1) := by decide +kernel
theorem d_Table_sumOfGains_6 : decode prog_7_method_12_code 6 = .ok (.getfield 12, 3) := by decide +kernel
theorem d_Table_sumOfGains_9 : decode prog_7_method_12_code 9 = .ok (.getfield 35, 3) := by decide +kernel
theorem d_Table_sumOfGains_12 : decode prog_7_method_12_code 12 = .ok (.if_icmp .gt 57, 3) := by decide +kernel
theorem d_Table_sumOfGains_15 : decode prog_7_method_12_code 15 = .ok (.iconst 0, 1) := by decide +kernel
theorem d_Table_sumOfGains_16 : decode prog_7_method_12_code 16 = .ok (.istore_n 3, 1) := by decide +kernel
theorem d_Table_sumOfGains_17 : decode prog_7_method_12_code 17 = .ok (.iload_n 3, 1) := by decide +kernel
theorem d_Table_sumOfGains_18 : decode prog_7_method_12_code 18 = .ok (.aload_n 0, 1) := by decide +kernel
theorem d_Table_sumOfGains_19 : decode prog_7_method_12_code 19 = .ok (.getfield 18, 3) := by decide +kernel
theorem d_Table_sumOfGains_22 : decode prog_7_method_12_code 22 = .ok (.getfield 35, 3) := by decide +kernel
theorem d_Table_sumOfGains_25 : decode prog_7_method_12_code 25 = .ok (.if_icmp .gt 38, 3) := by decide +kernel
theorem d_Table_sumOfGains_28 : decode prog_7_method_12_code 28 = .ok (.iconst 0, 1) := by decide +kernel
theorem d_Table_sumOfGains_29 : decode prog_7_method_12_code 29 = .ok (.istore 4, 2) := by decide +kernel
theorem d_Table_sumOfGains_31 : decode prog_7_method_12_code 31 = .ok (.iload 4, 2) := by decide +kernel
theorem d_Table_sumOfGains_33 : decode prog_7_method_12_code 33 = .ok (.iconst 3, 1) := by decide +kernel
theorem d_Table_sumOfGains_34 : decode prog_7_method_12_code 34 = .ok (.if_icmp .ge 23, 3) := by decide +kernel
theorem d_Table_sumOfGains_37 : decode prog_7_method_12_code 37 = .ok (.iload_n 1, 1) := by decide +kernel
theorem d_Table_sumOfGains_38 : decode prog_7_method_12_code 38 = .ok (.aload_n 0, 1) := by decide +kernel
theorem d_Table_sumOfGains_39 : decode prog_7_method_12_code 39 = .ok (.iload_n 2, 1) := by decide +kernel
theorem d_Table_sumOfGains_40 : decode prog_7_method_12_code 40 = .ok (.iload_n 3, 1) := by decide +kernel
theorem d_Table_sumOfGains_41 : decode prog_7_method_12_code 41 = .ok (.invokestatic 49, 3) := by decide +kernel
theorem d_Table_sumOfGains_44 : decode prog_7_method_12_code 44 = .ok (.iload 4, 2) := by decide +kernel
theorem d_Table_sumOfGains_46 : decode prog_7_method_12_code 46 = .ok (.invokevirtual 57, 3) := by decide +kernel
theorem d_Table_sumOfGains_49 : decode prog_7_method_12_code 49 = .ok (.iadd, 1) := by decide +kernel
theorem d_Table_sumOfGains_50 : decode prog_7_method_12_code 50 = .ok (.istore_n 1, 1) := by decide +kernel
theorem d_Table_sumOfGains_51 : decode prog_7_method_12_code 51 = .ok (.iinc 4 1, 3) := by decide +kernel
theorem d_Table_sumOfGains_54 : decode prog_7_method_12_code 54 = .ok (.goto (-23), 3) := by decide +kernel
theorem d_Table_sumOfGains_57 : decode prog_7_method_12_code 57 = .ok (.iinc 3 1, 3) := by decide +kernel
theorem d_Table_sumOfGains_60 : decode prog_7_method_12_code 60 = .ok (.goto (-43), 3) := by decide +kernel
theorem d_Table_sumOfGains_63 : decode prog_7_method_12_code 63 = .ok (.iinc 2 1, 3) := by decide +kernel
theorem d_Table_sumOfGains_66 : decode prog_7_method_12_code 66 = .ok (.goto (-62), 3) := by decide +kernel
theorem d_Table_sumOfGains_69 : decode prog_7_method_12_code 69 = .ok (.iload_n 1, 1) := by decide +kernel
theorem d_Table_sumOfGains_70 : decode prog_7_method_12_code 70 = .ok (.ireturn, 1) := by decide +kernel
theorem d_Table_regionAt_0 : decode prog_7_method_6_code 0 = .ok (.iload_n 0, 1) := by decide +kernel
theorem d_Table_regionAt_1 : decode prog_7_method_6_code 1 = .ok (.bipush 7, 2) := by decide +kernel
theorem d_Table_regionAt_3 : decode prog_7_method_6_code 3 = .ok (.imul, 1) := by decide +kernel
theorem d_Table_regionAt_4 : decode prog_7_method_6_code 4 = .ok (.iload_n 1, 1) := by decide +kernel
theorem d_Table_regionAt_5 : decode prog_7_method_6_code 5 = .ok (.iadd, 1) := by decide +kernel
theorem d_Table_regionAt_6 : decode prog_7_method_6_code 6 = .ok (.ireturn, 1) := by decide +kernel
theorem d_Table_gainAt_0 : decode prog_7_method_7_code 0 = .ok (.iload_n 1, 1) := by decide +kernel
theorem d_Table_gainAt_1 : decode prog_7_method_7_code 1 = .ok (.iconst 3, 1) := by decide +kernel
theorem d_Table_gainAt_2 : decode prog_7_method_7_code 2 = .ok (.imul, 1) := by decide +kernel
theorem d_Table_gainAt_3 : decode prog_7_method_7_code 3 = .ok (.iload_n 2, 1) := by decide +kernel
theorem d_Table_gainAt_4 : decode prog_7_method_7_code 4 = .ok (.iadd, 1) := by decide +kernel
theorem d_Table_gainAt_5 : decode prog_7_method_7_code 5 = .ok (.istore_n 3, 1) := by decide +kernel
theorem d_Table_gainAt_6 : decode prog_7_method_7_code 6 = .ok (.iload_n 3, 1) := by decide +kernel
theorem d_Table_gainAt_7 : decode prog_7_method_7_code 7 = .ok (.ifCond .lt 21, 3) := by decide +kernel
theorem d_Table_gainAt_10 : decode prog_7_method_7_code 10 = .ok (.iload_n 3, 1) := by decide +kernel
theorem d_Table_gainAt_11 : decode prog_7_method_7_code 11 = .ok (.aload_n 0, 1) := by decide +kernel
theorem d_Table_gainAt_12 : decode prog_7_method_7_code 12 = .ok (.getfield 21, 3) := by decide +kernel
theorem d_Table_gainAt_15 : decode prog_7_method_7_code 15 = .ok (.arraylength, 1) := by decide +kernel
theorem d_Table_gainAt_16 : decode prog_7_method_7_code 16 = .ok (.if_icmp .ge 12, 3) := by decide +kernel
theorem d_Table_gainAt_19 : decode prog_7_method_7_code 19 = .ok (.aload_n 0, 1) := by decide +kernel
theorem d_Table_gainAt_20 : decode prog_7_method_7_code 20 = .ok (.getfield 21, 3) := by decide +kernel
theorem d_Table_gainAt_23 : decode prog_7_method_7_code 23 = .ok (.iload_n 3, 1) := by decide +kernel
theorem d_Table_gainAt_24 : decode prog_7_method_7_code 24 = .ok (.iaload, 1) := by decide +kernel
theorem d_Table_gainAt_25 : decode prog_7_method_7_code 25 = .ok (.goto 4, 3) := by decide +kernel
theorem d_Table_gainAt_28 : decode prog_7_method_7_code 28 = .ok (.iconst 0, 1) := by decide +kernel
theorem d_Table_gainAt_29 : decode prog_7_method_7_code 29 = .ok (.ireturn, 1) := by decide +kernel
theorem d_Table_splitAt_0 : decode prog_7_method_14_code 0 = .ok (.aload_n 0, 1) := by decide +kernel
theorem d_Table_splitAt_1 : decode prog_7_method_14_code 1 = .ok (.iload_n 1, 1) := by decide +kernel
theorem d_Table_splitAt_2 : decode prog_7_method_14_code 2 = .ok (.invokevirtual 74, 3) := by decide +kernel
theorem d_Table_splitAt_5 : decode prog_7_method_14_code 5 = .ok (.astore 5, 2) := by decide +kernel
theorem d_Table_splitAt_7 : decode prog_7_method_14_code 7 = .ok (.aload 5, 2) := by decide +kernel
theorem d_Table_splitAt_9 : decode prog_7_method_14_code 9 = .ok (.iload_n 2, 1) := by decide +kernel
theorem d_Table_splitAt_10 : decode prog_7_method_14_code 10 = .ok (.iload_n 3, 1) := by decide +kernel
theorem d_Table_splitAt_11 : decode prog_7_method_14_code 11 = .ok (.iload 4, 2) := by decide +kernel
theorem d_Table_splitAt_13 : decode prog_7_method_14_code 13 = .ok (.invokevirtual 78, 3) := by decide +kernel
theorem d_Table_splitAt_16 : decode prog_7_method_14_code 16 = .ok (.istore 6, 2) := by decide +kernel
theorem d_Table_splitAt_18 : decode prog_7_method_14_code 18 = .ok (.aload 5, 2) := by decide +kernel
theorem d_Table_splitAt_20 : decode prog_7_method_14_code 20 = .ok (.getfield 35, 3) := by decide +kernel
theorem d_Table_splitAt_23 : decode prog_7_method_14_code 23 = .ok (.istore 7, 2) := by decide +kernel
theorem d_Table_splitAt_25 : decode prog_7_method_14_code 25 = .ok (.iload 7, 2) := by decide +kernel
theorem d_Table_splitAt_27 : decode prog_7_method_14_code 27 = .ok (.iload 6, 2) := by decide +kernel
theorem d_Table_splitAt_29 : decode prog_7_method_14_code 29 = .ok (.if_icmp .le 20, 3) := by decide +kernel
theorem d_Table_splitAt_32 : decode prog_7_method_14_code 32 = .ok (.aload_n 0, 1) := by decide +kernel
theorem d_Table_splitAt_33 : decode prog_7_method_14_code 33 = .ok (.iload_n 1, 1) := by decide +kernel
theorem d_Table_splitAt_34 : decode prog_7_method_14_code 34 = .ok (.iload 7, 2) := by decide +kernel
theorem d_Table_splitAt_36 : decode prog_7_method_14_code 36 = .ok (.iconst 1, 1) := by decide +kernel
theorem d_Table_splitAt_37 : decode prog_7_method_14_code 37 = .ok (.isub, 1) := by decide +kernel
theorem d_Table_splitAt_38 : decode prog_7_method_14_code 38 = .ok (.iload 7, 2) := by decide +kernel
theorem d_Table_splitAt_40 : decode prog_7_method_14_code 40 = .ok (.invokevirtual 82, 3) := by decide +kernel
theorem d_Table_splitAt_43 : decode prog_7_method_14_code 43 = .ok (.iinc 7 (-1), 3) := by decide +kernel
theorem d_Table_splitAt_46 : decode prog_7_method_14_code 46 = .ok (.goto (-21), 3) := by decide +kernel
theorem d_Table_splitAt_49 : decode prog_7_method_14_code 49 = .ok (.iload 6, 2) := by decide +kernel
theorem d_Table_splitAt_51 : decode prog_7_method_14_code 51 = .ok (.ireturn, 1) := by decide +kernel
theorem d_Borders_insert_0 : decode prog_3_method_18_code 0 = .ok (.aload_n 0, 1) := by decide +kernel
theorem d_Borders_insert_1 : decode prog_3_method_18_code 1 = .ok (.iload_n 1, 1) := by decide +kernel
theorem d_Borders_insert_2 : decode prog_3_method_18_code 2 = .ok (.invokevirtual 51, 3) := by decide +kernel
theorem d_Borders_insert_5 : decode prog_3_method_18_code 5 = .ok (.istore 4, 2) := by decide +kernel
theorem d_Borders_insert_7 : decode prog_3_method_18_code 7 = .ok (.aload_n 0, 1) := by decide +kernel
theorem d_Borders_insert_8 : decode prog_3_method_18_code 8 = .ok (.invokevirtual 54, 3) := by decide +kernel
theorem d_Borders_insert_11 : decode prog_3_method_18_code 11 = .ok (.ifCond .eq 6, 3) := by decide +kernel
theorem d_Borders_insert_14 : decode prog_3_method_18_code 14 = .ok (.iload 4, 2) := by decide +kernel
theorem d_Borders_insert_16 : decode prog_3_method_18_code 16 = .ok (.ireturn, 1) := by decide +kernel
theorem d_Borders_insert_17 : decode prog_3_method_18_code 17 = .ok (.aload_n 0, 1) := by decide +kernel
theorem d_Borders_insert_18 : decode prog_3_method_18_code 18 = .ok (.getfield 21, 3) := by decide +kernel
theorem d_Borders_insert_21 : decode prog_3_method_18_code 21 = .ok (.istore 5, 2) := by decide +kernel
theorem d_Borders_insert_23 : decode prog_3_method_18_code 23 = .ok (.iload 5, 2) := by decide +kernel
theorem d_Borders_insert_25 : decode prog_3_method_18_code 25 = .ok (.iload 4, 2) := by decide +kernel
theorem d_Borders_insert_27 : decode prog_3_method_18_code 27 = .ok (.if_icmp .le 19, 3) := by decide +kernel
theorem d_Borders_insert_30 : decode prog_3_method_18_code 30 = .ok (.aload_n 0, 1) := by decide +kernel
theorem d_Borders_insert_31 : decode prog_3_method_18_code 31 = .ok (.iload 5, 2) := by decide +kernel
theorem d_Borders_insert_33 : decode prog_3_method_18_code 33 = .ok (.iconst 1, 1) := by decide +kernel
theorem d_Borders_insert_34 : decode prog_3_method_18_code 34 = .ok (.isub, 1) := by decide +kernel
theorem d_Borders_insert_35 : decode prog_3_method_18_code 35 = .ok (.iload 5, 2) := by decide +kernel
theorem d_Borders_insert_37 : decode prog_3_method_18_code 37 = .ok (.invokevirtual 58, 3) := by decide +kernel
theorem d_Borders_insert_40 : decode prog_3_method_18_code 40 = .ok (.iinc 5 (-1), 3) := by decide +kernel
theorem d_Borders_insert_43 : decode prog_3_method_18_code 43 = .ok (.goto (-20), 3) := by decide +kernel
theorem d_Borders_insert_46 : decode prog_3_method_18_code 46 = .ok (.aload_n 0, 1) := by decide +kernel
theorem d_Borders_insert_47 : decode prog_3_method_18_code 47 = .ok (.getfield 9, 3) := by decide +kernel
theorem d_Borders_insert_50 : decode prog_3_method_18_code 50 = .ok (.iload 4, 2) := by decide +kernel
theorem d_Borders_insert_52 : decode prog_3_method_18_code 52 = .ok (.iload_n 1, 1) := by decide +kernel
theorem d_Borders_insert_53 : decode prog_3_method_18_code 53 = .ok (.iastore, 1) := by decide +kernel
theorem d_Borders_insert_54 : decode prog_3_method_18_code 54 = .ok (.aload_n 0, 1) := by decide +kernel
theorem d_Borders_insert_55 : decode prog_3_method_18_code 55 = .ok (.getfield 15, 3) := by decide +kernel
theorem d_Borders_insert_58 : decode prog_3_method_18_code 58 = .ok (.iload 4, 2) := by decide +kernel
theorem d_Borders_insert_60 : decode prog_3_method_18_code 60 = .ok (.iload_n 2, 1) := by decide +kernel
theorem d_Borders_insert_61 : decode prog_3_method_18_code 61 = .ok (.iastore, 1) := by decide +kernel
theorem d_Borders_insert_62 : decode prog_3_method_18_code 62 = .ok (.aload_n 0, 1) := by decide +kernel
theorem d_Borders_insert_63 : decode prog_3_method_18_code 63 = .ok (.getfield 18, 3) := by decide +kernel
theorem d_Borders_insert_66 : decode prog_3_method_18_code 66 = .ok (.iload 4, 2) := by decide +kernel
theorem d_Borders_insert_68 : decode prog_3_method_18_code 68 = .ok (.iload_n 3, 1) := by decide +kernel
theorem d_Borders_insert_69 : decode prog_3_method_18_code 69 = .ok (.iastore, 1) := by decide +kernel
theorem d_Borders_insert_70 : decode prog_3_method_18_code 70 = .ok (.aload_n 0, 1) := by decide +kernel
theorem d_Borders_insert_71 : decode prog_3_method_18_code 71 = .ok (.dup, 1) := by decide +kernel
theorem d_Borders_insert_72 : decode prog_3_method_18_code 72 = .ok (.getfield 21, 3) := by decide +kernel
theorem d_Borders_insert_75 : decode prog_3_method_18_code 75 = .ok (.iconst 1, 1) := by decide +kernel
theorem d_Borders_insert_76 : decode prog_3_method_18_code 76 = .ok (.iadd, 1) := by decide +kernel
theorem d_Borders_insert_77 : decode prog_3_method_18_code 77 = .ok (.putfield 21, 3) := by decide +kernel
theorem d_Borders_insert_80 : decode prog_3_method_18_code 80 = .ok (.iload 4, 2) := by decide +kernel
theorem d_Borders_insert_82 : decode prog_3_method_18_code 82 = .ok (.ireturn, 1) := by decide +kernel
theorem d_Borders_stripOf_0 : decode prog_3_method_11_code 0 = .ok (.iconst 0, 1) := by decide +kernel
theorem d_Borders_stripOf_1 : decode prog_3_method_11_code 1 = .ok (.istore_n 2, 1) := by decide +kernel
theorem d_Borders_stripOf_2 : decode prog_3_method_11_code 2 = .ok (.iconst 0, 1) := by decide +kernel
theorem d_Borders_stripOf_3 : decode prog_3_method_11_code 3 = .ok (.istore_n 3, 1) := by decide +kernel
theorem d_Borders_stripOf_4 : decode prog_3_method_11_code 4 = .ok (.iload_n 3, 1) := by decide +kernel
theorem d_Borders_stripOf_5 : decode prog_3_method_11_code 5 = .ok (.aload_n 0, 1) := by decide +kernel
theorem d_Borders_stripOf_6 : decode prog_3_method_11_code 6 = .ok (.getfield 21, 3) := by decide +kernel
theorem d_Borders_stripOf_9 : decode prog_3_method_11_code 9 = .ok (.if_icmp .ge 22, 3) := by decide +kernel
theorem d_Borders_stripOf_12 : decode prog_3_method_11_code 12 = .ok (.aload_n 0, 1) := by decide +kernel
theorem d_Borders_stripOf_13 : decode prog_3_method_11_code 13 = .ok (.getfield 9, 3) := by decide +kernel
theorem d_Borders_stripOf_16 : decode prog_3_method_11_code 16 = .ok (.iload_n 3, 1) := by decide +kernel
theorem d_Borders_stripOf_17 : decode prog_3_method_11_code 17 = .ok (.iaload, 1) := by decide +kernel
theorem d_Borders_stripOf_18 : decode prog_3_method_11_code 18 = .ok (.iload_n 1, 1) := by decide +kernel
theorem d_Borders_stripOf_19 : decode prog_3_method_11_code 19 = .ok (.if_icmp .gt 6, 3) := by decide +kernel
theorem d_Borders_stripOf_22 : decode prog_3_method_11_code 22 = .ok (.iinc 2 1, 3) := by decide +kernel
theorem d_Borders_stripOf_25 : decode prog_3_method_11_code 25 = .ok (.iinc 3 1, 3) := by decide +kernel
theorem d_Borders_stripOf_28 : decode prog_3_method_11_code 28 = .ok (.goto (-24), 3) := by decide +kernel
theorem d_Borders_stripOf_31 : decode prog_3_method_11_code 31 = .ok (.iload_n 2, 1) := by decide +kernel
theorem d_Borders_stripOf_32 : decode prog_3_method_11_code 32 = .ok (.ireturn, 1) := by decide +kernel
theorem d_Borders_copyBorder_0 : decode prog_3_method_20_code 0 = .ok (.aload_n 0, 1) := by decide +kernel
theorem d_Borders_copyBorder_1 : decode prog_3_method_20_code 1 = .ok (.getfield 9, 3) := by decide +kernel
theorem d_Borders_copyBorder_4 : decode prog_3_method_20_code 4 = .ok (.iload_n 2, 1) := by decide +kernel
theorem d_Borders_copyBorder_5 : decode prog_3_method_20_code 5 = .ok (.aload_n 0, 1) := by decide +kernel
theorem d_Borders_copyBorder_6 : decode prog_3_method_20_code 6 = .ok (.getfield 9, 3) := by decide +kernel
theorem d_Borders_copyBorder_9 : decode prog_3_method_20_code 9 = .ok (.iload_n 1, 1) := by decide +kernel
theorem d_Borders_copyBorder_10 : decode prog_3_method_20_code 10 = .ok (.iaload, 1) := by decide +kernel
theorem d_Borders_copyBorder_11 : decode prog_3_method_20_code 11 = .ok (.iastore, 1) := by decide +kernel
theorem d_Borders_copyBorder_12 : decode prog_3_method_20_code 12 = .ok (.aload_n 0, 1) := by decide +kernel
theorem d_Borders_copyBorder_13 : decode prog_3_method_20_code 13 = .ok (.getfield 15, 3) := by decide +kernel
theorem d_Borders_copyBorder_16 : decode prog_3_method_20_code 16 = .ok (.iload_n 2, 1) := by decide +kernel
theorem d_Borders_copyBorder_17 : decode prog_3_method_20_code 17 = .ok (.aload_n 0, 1) := by decide +kernel
theorem d_Borders_copyBorder_18 : decode prog_3_method_20_code 18 = .ok (.getfield 15, 3) := by decide +kernel
theorem d_Borders_copyBorder_21 : decode prog_3_method_20_code 21 = .ok (.iload_n 1, 1) := by decide +kernel
theorem d_Borders_copyBorder_22 : decode prog_3_method_20_code 22 = .ok (.iaload, 1) := by decide +kernel
theorem d_Borders_copyBorder_23 : decode prog_3_method_20_code 23 = .ok (.iastore, 1) := by decide +kernel
theorem d_Borders_copyBorder_24 : decode prog_3_method_20_code 24 = .ok (.aload_n 0, 1) := by decide +kernel
theorem d_Borders_copyBorder_25 : decode prog_3_method_20_code 25 = .ok (.getfield 18, 3) := by decide +kernel
theorem d_Borders_copyBorder_28 : decode prog_3_method_20_code 28 = .ok (.iload_n 2, 1) := by decide +kernel
theorem d_Borders_copyBorder_29 : decode prog_3_method_20_code 29 = .ok (.aload_n 0, 1) := by decide +kernel
theorem d_Borders_copyBorder_30 : decode prog_3_method_20_code 30 = .ok (.getfield 18, 3) := by decide +kernel
theorem d_Borders_copyBorder_33 : decode prog_3_method_20_code 33 = .ok (.iload_n 1, 1) := by decide +kernel
theorem d_Borders_copyBorder_34 : decode prog_3_method_20_code 34 = .ok (.iaload, 1) := by decide +kernel
theorem d_Borders_copyBorder_35 : decode prog_3_method_20_code 35 = .ok (.iastore, 1) := by decide +kernel
theorem d_Borders_copyBorder_36 : decode prog_3_method_20_code 36 = .ok (.return_, 1) := by decide +kernel
theorem d_Table_copyStrip_0 : decode prog_7_method_16_code 0 = .ok (.iconst 0, 1) := by decide +kernel
theorem d_Table_copyStrip_1 : decode prog_7_method_16_code 1 = .ok (.istore 4, 2) := by decide +kernel
theorem d_Table_copyStrip_3 : decode prog_7_method_16_code 3 = .ok (.iload 4, 2) := by decide +kernel
theorem d_Table_copyStrip_5 : decode prog_7_method_16_code 5 = .ok (.bipush 7, 2) := by decide +kernel
theorem d_Table_copyStrip_7 : decode prog_7_method_16_code 7 = .ok (.if_icmp .ge 94, 3) := by decide +kernel
theorem d_Table_copyStrip_10 : decode prog_7_method_16_code 10 = .ok (.iload_n 1, 1) := by decide +kernel
theorem d_Table_copyStrip_11 : decode prog_7_method_16_code 11 = .ok (.ifCond .ne 12, 3) := by decide +kernel
theorem d_Table_copyStrip_14 : decode prog_7_method_16_code 14 = .ok (.iload_n 2, 1) := by decide +kernel
theorem d_Table_copyStrip_15 : decode prog_7_method_16_code 15 = .ok (.iload 4, 2) := by decide +kernel
theorem d_Table_copyStrip_17 : decode prog_7_method_16_code 17 = .ok (.invokestatic 49, 3) := by decide +kernel
theorem d_Table_copyStrip_20 : decode prog_7_method_16_code 20 = .ok (.goto 9, 3) := by decide +kernel
theorem d_Table_copyStrip_23 : decode prog_7_method_16_code 23 = .ok (.iload 4, 2) := by decide +kernel
theorem d_Table_copyStrip_25 : decode prog_7_method_16_code 25 = .ok (.iload_n 2, 1) := by decide +kernel
theorem d_Table_copyStrip_26 : decode prog_7_method_16_code 26 = .ok (.invokestatic 49, 3) := by decide +kernel
theorem d_Table_copyStrip_29 : decode prog_7_method_16_code 29 = .ok (.istore 5, 2) := by decide +kernel
theorem d_Table_copyStrip_31 : decode prog_7_method_16_code 31 = .ok (.iload_n 1, 1) := by decide +kernel
theorem d_Table_copyStrip_32 : decode prog_7_method_16_code 32 = .ok (.ifCond .ne 12, 3) := by decide +kernel
theorem d_Table_copyStrip_35 : decode prog_7_method_16_code 35 = .ok (.iload_n 3, 1) := by decide +kernel
theorem d_Table_copyStrip_36 : decode prog_7_method_16_code 36 = .ok (.iload 4, 2) := by decide +kernel
theorem d_Table_copyStrip_38 : decode prog_7_method_16_code 38 = .ok (.invokestatic 49, 3) := by decide +kernel
theorem d_Table_copyStrip_41 : decode prog_7_method_16_code 41 = .ok (.goto 9, 3) := by decide +kernel
theorem d_Table_copyStrip_44 : decode prog_7_method_16_code 44 = .ok (.iload 4, 2) := by decide +kernel
theorem d_Table_copyStrip_46 : decode prog_7_method_16_code 46 = .ok (.iload_n 3, 1) := by decide +kernel
theorem d_Table_copyStrip_47 : decode prog_7_method_16_code 47 = .ok (.invokestatic 49, 3) := by decide +kernel
theorem d_Table_copyStrip_50 : decode prog_7_method_16_code 50 = .ok (.istore 6, 2) := by decide +kernel
theorem d_Table_copyStrip_52 : decode prog_7_method_16_code 52 = .ok (.iconst 0, 1) := by decide +kernel
theorem d_Table_copyStrip_53 : decode prog_7_method_16_code 53 = .ok (.istore 7, 2) := by decide +kernel
theorem d_Table_copyStrip_55 : decode prog_7_method_16_code 55 = .ok (.iload 7, 2) := by decide +kernel
theorem d_Table_copyStrip_57 : decode prog_7_method_16_code 57 = .ok (.iconst 3, 1) := by decide +kernel
theorem d_Table_copyStrip_58 : decode prog_7_method_16_code 58 = .ok (.if_icmp .ge 25, 3) := by decide +kernel
theorem d_Table_copyStrip_61 : decode prog_7_method_16_code 61 = .ok (.aload_n 0, 1) := by decide +kernel
theorem d_Table_copyStrip_62 : decode prog_7_method_16_code 62 = .ok (.iload 6, 2) := by decide +kernel
theorem d_Table_copyStrip_64 : decode prog_7_method_16_code 64 = .ok (.iload 7, 2) := by decide +kernel
theorem d_Table_copyStrip_66 : decode prog_7_method_16_code 66 = .ok (.aload_n 0, 1) := by decide +kernel
theorem d_Table_copyStrip_67 : decode prog_7_method_16_code 67 = .ok (.iload 5, 2) := by decide +kernel
theorem d_Table_copyStrip_69 : decode prog_7_method_16_code 69 = .ok (.iload 7, 2) := by decide +kernel
theorem d_Table_copyStrip_71 : decode prog_7_method_16_code 71 = .ok (.invokevirtual 57, 3) := by decide +kernel
theorem d_Table_copyStrip_74 : decode prog_7_method_16_code 74 = .ok (.invokevirtual 90, 3) := by decide +kernel
theorem d_Table_copyStrip_77 : decode prog_7_method_16_code 77 = .ok (.iinc 7 1, 3) := by decide +kernel
theorem d_Table_copyStrip_80 : decode prog_7_method_16_code 80 = .ok (.goto (-25), 3) := by decide +kernel
theorem d_Table_copyStrip_83 : decode prog_7_method_16_code 83 = .ok (.aload_n 0, 1) := by decide +kernel
theorem d_Table_copyStrip_84 : decode prog_7_method_16_code 84 = .ok (.iload 6, 2) := by decide +kernel
theorem d_Table_copyStrip_86 : decode prog_7_method_16_code 86 = .ok (.aload_n 0, 1) := by decide +kernel
theorem d_Table_copyStrip_87 : decode prog_7_method_16_code 87 = .ok (.iload 5, 2) := by decide +kernel
theorem d_Table_copyStrip_89 : decode prog_7_method_16_code 89 = .ok (.invokevirtual 53, 3) := by decide +kernel
theorem d_Table_copyStrip_92 : decode prog_7_method_16_code 92 = .ok (.invokevirtual 93, 3) := by decide +kernel
theorem d_Table_copyStrip_95 : decode prog_7_method_16_code 95 = .ok (.iinc 4 1, 3) := by decide +kernel
theorem d_Table_copyStrip_98 : decode prog_7_method_16_code 98 = .ok (.goto (-95), 3) := by decide +kernel
theorem d_Table_copyStrip_101 : decode prog_7_method_16_code 101 = .ok (.return_, 1) := by decide +kernel
theorem d_Table_putGain_0 : decode prog_7_method_8_code 0 = .ok (.iload_n 1, 1) := by decide +kernel
theorem d_Table_putGain_1 : decode prog_7_method_8_code 1 = .ok (.iconst 3, 1) := by decide +kernel
theorem d_Table_putGain_2 : decode prog_7_method_8_code 2 = .ok (.imul, 1) := by decide +kernel
theorem d_Table_putGain_3 : decode prog_7_method_8_code 3 = .ok (.iload_n 2, 1) := by decide +kernel
theorem d_Table_putGain_4 : decode prog_7_method_8_code 4 = .ok (.iadd, 1) := by decide +kernel
theorem d_Table_putGain_5 : decode prog_7_method_8_code 5 = .ok (.istore 4, 2) := by decide +kernel
theorem d_Table_putGain_7 : decode prog_7_method_8_code 7 = .ok (.iload 4, 2) := by decide +kernel
theorem d_Table_putGain_9 : decode prog_7_method_8_code 9 = .ok (.ifCond .lt 21, 3) := by decide +kernel
theorem d_Table_putGain_12 : decode prog_7_method_8_code 12 = .ok (.iload 4, 2) := by decide +kernel
theorem d_Table_putGain_14 : decode prog_7_method_8_code 14 = .ok (.aload_n 0, 1) := by decide +kernel
theorem d_Table_putGain_15 : decode prog_7_method_8_code 15 = .ok (.getfield 21, 3) := by decide +kernel
theorem d_Table_putGain_18 : decode prog_7_method_8_code 18 = .ok (.arraylength, 1) := by decide +kernel
theorem d_Table_putGain_19 : decode prog_7_method_8_code 19 = .ok (.if_icmp .ge 11, 3) := by decide +kernel
theorem d_Table_putGain_22 : decode prog_7_method_8_code 22 = .ok (.aload_n 0, 1) := by decide +kernel
theorem d_Table_putGain_23 : decode prog_7_method_8_code 23 = .ok (.getfield 21, 3) := by decide +kernel
theorem d_Table_putGain_26 : decode prog_7_method_8_code 26 = .ok (.iload 4, 2) := by decide +kernel
theorem d_Table_putGain_28 : decode prog_7_method_8_code 28 = .ok (.iload_n 3, 1) := by decide +kernel
theorem d_Table_putGain_29 : decode prog_7_method_8_code 29 = .ok (.iastore, 1) := by decide +kernel
theorem d_Table_putGain_30 : decode prog_7_method_8_code 30 = .ok (.return_, 1) := by decide +kernel
theorem d_Table_lockAt_0 : decode prog_7_method_9_code 0 = .ok (.iload_n 1, 1) := by decide +kernel
theorem d_Table_lockAt_1 : decode prog_7_method_9_code 1 = .ok (.ifCond .lt 21, 3) := by decide +kernel
theorem d_Table_lockAt_4 : decode prog_7_method_9_code 4 = .ok (.iload_n 1, 1) := by decide +kernel
theorem d_Table_lockAt_5 : decode prog_7_method_9_code 5 = .ok (.aload_n 0, 1) := by decide +kernel
theorem d_Table_lockAt_6 : decode prog_7_method_9_code 6 = .ok (.getfield 25, 3) := by decide +kernel
theorem d_Table_lockAt_9 : decode prog_7_method_9_code 9 = .ok (.arraylength, 1) := by decide +kernel
theorem d_Table_lockAt_10 : decode prog_7_method_9_code 10 = .ok (.if_icmp .ge 12, 3) := by decide +kernel
theorem d_Table_lockAt_13 : decode prog_7_method_9_code 13 = .ok (.aload_n 0, 1) := by decide +kernel
theorem d_Table_lockAt_14 : decode prog_7_method_9_code 14 = .ok (.getfield 25, 3) := by decide +kernel
theorem d_Table_lockAt_17 : decode prog_7_method_9_code 17 = .ok (.iload_n 1, 1) := by decide +kernel
theorem d_Table_lockAt_18 : decode prog_7_method_9_code 18 = .ok (.iaload, 1) := by decide +kernel
theorem d_Table_lockAt_19 : decode prog_7_method_9_code 19 = .ok (.goto 5, 3) := by decide +kernel
theorem d_Table_lockAt_22 : decode prog_7_method_9_code 22 = .ok (.ldc 28, 2) := by decide +kernel
theorem d_Table_lockAt_24 : decode prog_7_method_9_code 24 = .ok (.ireturn, 1) := by decide +kernel
theorem d_Table_putLock_0 : decode prog_7_method_10_code 0 = .ok (.iload_n 1, 1) := by decide +kernel
theorem d_Table_putLock_1 : decode prog_7_method_10_code 1 = .ok (.ifCond .lt 19, 3) := by decide +kernel
theorem d_Table_putLock_4 : decode prog_7_method_10_code 4 = .ok (.iload_n 1, 1) := by decide +kernel
theorem d_Table_putLock_5 : decode prog_7_method_10_code 5 = .ok (.aload_n 0, 1) := by decide +kernel
theorem d_Table_putLock_6 : decode prog_7_method_10_code 6 = .ok (.getfield 25, 3) := by decide +kernel
theorem d_Table_putLock_9 : decode prog_7_method_10_code 9 = .ok (.arraylength, 1) := by decide +kernel
theorem d_Table_putLock_10 : decode prog_7_method_10_code 10 = .ok (.if_icmp .ge 10, 3) := by decide +kernel
theorem d_Table_putLock_13 : decode prog_7_method_10_code 13 = .ok (.aload_n 0, 1) := by decide +kernel
theorem d_Table_putLock_14 : decode prog_7_method_10_code 14 = .ok (.getfield 25, 3) := by decide +kernel
theorem d_Table_putLock_17 : decode prog_7_method_10_code 17 = .ok (.iload_n 1, 1) := by decide +kernel
theorem d_Table_putLock_18 : decode prog_7_method_10_code 18 = .ok (.iload_n 2, 1) := by decide +kernel
theorem d_Table_putLock_19 : decode prog_7_method_10_code 19 = .ok (.iastore, 1) := by decide +kernel
theorem d_Table_putLock_20 : decode prog_7_method_10_code 20 = .ok (.return_, 1) := by decide +kernel
theorem d_State_settleTable_0 : decode prog_6_method_7_code 0 = .ok (.aload_n 0, 1) := by decide +kernel
theorem d_State_settleTable_1 : decode prog_6_method_7_code 1 = .ok (.getfield 54, 3) := by decide +kernel
theorem d_State_settleTable_4 : decode prog_6_method_7_code 4 = .ok (.iconst 3, 1) := by decide +kernel
theorem d_State_settleTable_5 : decode prog_6_method_7_code 5 = .ok (.dup2, 1) := by decide +kernel
theorem d_State_settleTable_6 : decode prog_6_method_7_code 6 = .ok (.iaload, 1) := by decide +kernel
theorem d_State_settleTable_7 : decode prog_6_method_7_code 7 = .ok (.aload_n 0, 1) := by decide +kernel
theorem d_State_settleTable_8 : decode prog_6_method_7_code 8 = .ok (.getfield 12, 3) := by decide +kernel
theorem d_State_settleTable_11 : decode prog_6_method_7_code 11 = .ok (.invokevirtual 99, 3) := by decide +kernel
theorem d_State_settleTable_14 : decode prog_6_method_7_code 14 = .ok (.iload_n 1, 1) := by decide +kernel
theorem d_State_settleTable_15 : decode prog_6_method_7_code 15 = .ok (.isub, 1) := by decide +kernel
theorem d_State_settleTable_16 : decode prog_6_method_7_code 16 = .ok (.iadd, 1) := by decide +kernel
theorem d_State_settleTable_17 : decode prog_6_method_7_code 17 = .ok (.iastore, 1) := by decide +kernel
theorem d_State_settleTable_18 : decode prog_6_method_7_code 18 = .ok (.aload_n 0, 1) := by decide +kernel
theorem d_State_settleTable_19 : decode prog_6_method_7_code 19 = .ok (.invokevirtual 103, 3) := by decide +kernel
theorem d_State_settleTable_22 : decode prog_6_method_7_code 22 = .ok (.return_, 1) := by decide +kernel
theorem d_State_findZones_0 : decode prog_6_method_6_code 0 = .ok (.aload_n 0, 1) := by decide +kernel
theorem d_State_findZones_1 : decode prog_6_method_6_code 1 = .ok (.getfield 35, 3) := by decide +kernel
theorem d_State_findZones_4 : decode prog_6_method_6_code 4 = .ok (.iconst 0, 1) := by decide +kernel
theorem d_State_findZones_5 : decode prog_6_method_6_code 5 = .ok (.aload_n 0, 1) := by decide +kernel
theorem d_State_findZones_6 : decode prog_6_method_6_code 6 = .ok (.getfield 12, 3) := by decide +kernel
theorem d_State_findZones_9 : decode prog_6_method_6_code 9 = .ok (.getfield 86, 3) := by decide +kernel
theorem d_State_findZones_12 : decode prog_6_method_6_code 12 = .ok (.aload_n 0, 1) := by decide +kernel
theorem d_State_findZones_13 : decode prog_6_method_6_code 13 = .ok (.getfield 31, 3) := by decide +kernel
theorem d_State_findZones_16 : decode prog_6_method_6_code 16 = .ok (.iconst 0, 1) := by decide +kernel
theorem d_State_findZones_17 : decode prog_6_method_6_code 17 = .ok (.iaload, 1) := by decide +kernel
theorem d_State_findZones_18 : decode prog_6_method_6_code 18 = .ok (.invokevirtual 90, 3) := by decide +kernel
theorem d_State_findZones_21 : decode prog_6_method_6_code 21 = .ok (.iastore, 1) := by decide +kernel
theorem d_State_findZones_22 : decode prog_6_method_6_code 22 = .ok (.aload_n 0, 1) := by decide +kernel
theorem d_State_findZones_23 : decode prog_6_method_6_code 23 = .ok (.getfield 35, 3) := by decide +kernel
theorem d_State_findZones_26 : decode prog_6_method_6_code 26 = .ok (.iconst 1, 1) := by decide +kernel
theorem d_State_findZones_27 : decode prog_6_method_6_code 27 = .ok (.aload_n 0, 1) := by decide +kernel
theorem d_State_findZones_28 : decode prog_6_method_6_code 28 = .ok (.getfield 12, 3) := by decide +kernel
theorem d_State_findZones_31 : decode prog_6_method_6_code 31 = .ok (.getfield 96, 3) := by decide +kernel
theorem d_State_findZones_34 : decode prog_6_method_6_code 34 = .ok (.aload_n 0, 1) := by decide +kernel
theorem d_State_findZones_35 : decode prog_6_method_6_code 35 = .ok (.getfield 31, 3) := by decide +kernel
theorem d_State_findZones_38 : decode prog_6_method_6_code 38 = .ok (.iconst 1, 1) := by decide +kernel
theorem d_State_findZones_39 : decode prog_6_method_6_code 39 = .ok (.iaload, 1) := by decide +kernel
theorem d_State_findZones_40 : decode prog_6_method_6_code 40 = .ok (.invokevirtual 90, 3) := by decide +kernel
theorem d_State_findZones_43 : decode prog_6_method_6_code 43 = .ok (.iastore, 1) := by decide +kernel
theorem d_State_findZones_44 : decode prog_6_method_6_code 44 = .ok (.return_, 1) := by decide +kernel
theorem d_Borders_zoneOf_0 : decode prog_3_method_13_code 0 = .ok (.iconst 0, 1) := by decide +kernel
theorem d_Borders_zoneOf_1 : decode prog_3_method_13_code 1 = .ok (.istore_n 2, 1) := by decide +kernel
theorem d_Borders_zoneOf_2 : decode prog_3_method_13_code 2 = .ok (.iconst 0, 1) := by decide +kernel
theorem d_Borders_zoneOf_3 : decode prog_3_method_13_code 3 = .ok (.istore_n 3, 1) := by decide +kernel
theorem d_Borders_zoneOf_4 : decode prog_3_method_13_code 4 = .ok (.iload_n 3, 1) := by decide +kernel
theorem d_Borders_zoneOf_5 : decode prog_3_method_13_code 5 = .ok (.aload_n 0, 1) := by decide +kernel
theorem d_Borders_zoneOf_6 : decode prog_3_method_13_code 6 = .ok (.getfield 21, 3) := by decide +kernel
theorem d_Borders_zoneOf_9 : decode prog_3_method_13_code 9 = .ok (.if_icmp .ge 31, 3) := by decide +kernel
theorem d_Borders_zoneOf_12 : decode prog_3_method_13_code 12 = .ok (.aload_n 0, 1) := by decide +kernel
theorem d_Borders_zoneOf_13 : decode prog_3_method_13_code 13 = .ok (.getfield 15, 3) := by decide +kernel
theorem d_Borders_zoneOf_16 : decode prog_3_method_13_code 16 = .ok (.iload_n 3, 1) := by decide +kernel
theorem d_Borders_zoneOf_17 : decode prog_3_method_13_code 17 = .ok (.iaload, 1) := by decide +kernel
theorem d_Borders_zoneOf_18 : decode prog_3_method_13_code 18 = .ok (.ifCond .ne 16, 3) := by decide +kernel
theorem d_Borders_zoneOf_21 : decode prog_3_method_13_code 21 = .ok (.aload_n 0, 1) := by decide +kernel
theorem d_Borders_zoneOf_22 : decode prog_3_method_13_code 22 = .ok (.getfield 9, 3) := by decide +kernel
theorem d_Borders_zoneOf_25 : decode prog_3_method_13_code 25 = .ok (.iload_n 3, 1) := by decide +kernel
theorem d_Borders_zoneOf_26 : decode prog_3_method_13_code 26 = .ok (.iaload, 1) := by decide +kernel
theorem d_Borders_zoneOf_27 : decode prog_3_method_13_code 27 = .ok (.iload_n 1, 1) := by decide +kernel
theorem d_Borders_zoneOf_28 : decode prog_3_method_13_code 28 = .ok (.if_icmp .gt 6, 3) := by decide +kernel
theorem d_Borders_zoneOf_31 : decode prog_3_method_13_code 31 = .ok (.iinc 2 1, 3) := by decide +kernel
theorem d_Borders_zoneOf_34 : decode prog_3_method_13_code 34 = .ok (.iinc 3 1, 3) := by decide +kernel
theorem d_Borders_zoneOf_37 : decode prog_3_method_13_code 37 = .ok (.goto (-33), 3) := by decide +kernel
theorem d_Borders_zoneOf_40 : decode prog_3_method_13_code 40 = .ok (.iload_n 2, 1) := by decide +kernel
theorem d_Borders_zoneOf_41 : decode prog_3_method_13_code 41 = .ok (.ireturn, 1) := by decide +kernel
theorem d_GT_edit_0 : decode prog_1_method_6_code 0 = .ok (.aload_n 0, 1) := by decide +kernel
theorem d_GT_edit_1 : decode prog_1_method_6_code 1 = .ok (.iload_n 1, 1) := by decide +kernel
theorem d_GT_edit_2 : decode prog_1_method_6_code 2 = .ok (.iload_n 2, 1) := by decide +kernel
theorem d_GT_edit_3 : decode prog_1_method_6_code 3 = .ok (.iload_n 3, 1) := by decide +kernel
theorem d_GT_edit_4 : decode prog_1_method_6_code 4 = .ok (.iload 4, 2) := by decide +kernel
theorem d_GT_edit_6 : decode prog_1_method_6_code 6 = .ok (.iload 5, 2) := by decide +kernel
theorem d_GT_edit_8 : decode prog_1_method_6_code 8 = .ok (.invokevirtual 146, 3) := by decide +kernel
theorem d_GT_edit_11 : decode prog_1_method_6_code 11 = .ok (.ifCond .ne 6, 3) := by decide +kernel
theorem d_GT_edit_14 : decode prog_1_method_6_code 14 = .ok (.ldc 76, 2) := by decide +kernel
theorem d_GT_edit_16 : decode prog_1_method_6_code 16 = .ok (.ireturn, 1) := by decide +kernel
theorem d_GT_edit_17 : decode prog_1_method_6_code 17 = .ok (.iload_n 2, 1) := by decide +kernel
theorem d_GT_edit_18 : decode prog_1_method_6_code 18 = .ok (.iload_n 3, 1) := by decide +kernel
theorem d_GT_edit_19 : decode prog_1_method_6_code 19 = .ok (.invokestatic 150, 3) := by decide +kernel
theorem d_GT_edit_22 : decode prog_1_method_6_code 22 = .ok (.istore 6, 2) := by decide +kernel
theorem d_GT_edit_24 : decode prog_1_method_6_code 24 = .ok (.aload_n 0, 1) := by decide +kernel
theorem d_GT_edit_25 : decode prog_1_method_6_code 25 = .ok (.getfield 12, 3) := by decide +kernel
theorem d_GT_edit_28 : decode prog_1_method_6_code 28 = .ok (.iload_n 1, 1) := by decide +kernel
theorem d_GT_edit_29 : decode prog_1_method_6_code 29 = .ok (.iload 6, 2) := by decide +kernel
theorem d_GT_edit_31 : decode prog_1_method_6_code 31 = .ok (.iload 4, 2) := by decide +kernel
theorem d_GT_edit_33 : decode prog_1_method_6_code 33 = .ok (.iload 5, 2) := by decide +kernel
theorem d_GT_edit_35 : decode prog_1_method_6_code 35 = .ok (.invokevirtual 154, 3) := by decide +kernel
theorem d_GT_edit_38 : decode prog_1_method_6_code 38 = .ok (.ifCond .eq 6, 3) := by decide +kernel
theorem d_GT_edit_41 : decode prog_1_method_6_code 41 = .ok (.ldc 87, 2) := by decide +kernel
theorem d_GT_edit_43 : decode prog_1_method_6_code 43 = .ok (.ireturn, 1) := by decide +kernel
theorem d_GT_edit_44 : decode prog_1_method_6_code 44 = .ok (.aload_n 0, 1) := by decide +kernel
theorem d_GT_edit_45 : decode prog_1_method_6_code 45 = .ok (.getfield 19, 3) := by decide +kernel
theorem d_GT_edit_48 : decode prog_1_method_6_code 48 = .ok (.aload_n 0, 1) := by decide +kernel
theorem d_GT_edit_49 : decode prog_1_method_6_code 49 = .ok (.getfield 12, 3) := by decide +kernel
theorem d_GT_edit_52 : decode prog_1_method_6_code 52 = .ok (.invokevirtual 93, 3) := by decide +kernel
theorem d_GT_edit_55 : decode prog_1_method_6_code 55 = .ok (.aload_n 0, 1) := by decide +kernel
theorem d_GT_edit_56 : decode prog_1_method_6_code 56 = .ok (.getfield 12, 3) := by decide +kernel
theorem d_GT_edit_59 : decode prog_1_method_6_code 59 = .ok (.getfield 77, 3) := by decide +kernel
theorem d_GT_edit_62 : decode prog_1_method_6_code 62 = .ok (.iload 6, 2) := by decide +kernel
theorem d_GT_edit_64 : decode prog_1_method_6_code 64 = .ok (.iload 4, 2) := by decide +kernel
theorem d_GT_edit_66 : decode prog_1_method_6_code 66 = .ok (.invokevirtual 157, 3) := by decide +kernel
theorem d_GT_edit_69 : decode prog_1_method_6_code 69 = .ok (.istore 7, 2) := by decide +kernel
theorem d_GT_edit_71 : decode prog_1_method_6_code 71 = .ok (.aload_n 0, 1) := by decide +kernel
theorem d_GT_edit_72 : decode prog_1_method_6_code 72 = .ok (.getfield 12, 3) := by decide +kernel
theorem d_GT_edit_75 : decode prog_1_method_6_code 75 = .ok (.iload_n 1, 1) := by decide +kernel
theorem d_GT_edit_76 : decode prog_1_method_6_code 76 = .ok (.iload 6, 2) := by decide +kernel
theorem d_GT_edit_78 : decode prog_1_method_6_code 78 = .ok (.iload 4, 2) := by decide +kernel
theorem d_GT_edit_80 : decode prog_1_method_6_code 80 = .ok (.iload 5, 2) := by decide +kernel
theorem d_GT_edit_82 : decode prog_1_method_6_code 82 = .ok (.invokevirtual 160, 3) := by decide +kernel
theorem d_GT_edit_85 : decode prog_1_method_6_code 85 = .ok (.iload 7, 2) := by decide +kernel
theorem d_GT_edit_87 : decode prog_1_method_6_code 87 = .ok (.ireturn, 1) := by decide +kernel
theorem d_GT_isEdit_0 : decode prog_1_method_42_code 0 = .ok (.iload_n 1, 1) := by decide +kernel
theorem d_GT_isEdit_1 : decode prog_1_method_42_code 1 = .ok (.invokestatic 136, 3) := by decide +kernel
theorem d_GT_isEdit_4 : decode prog_1_method_42_code 4 = .ok (.ifCond .eq 36, 3) := by decide +kernel
theorem d_GT_isEdit_7 : decode prog_1_method_42_code 7 = .ok (.aload_n 0, 1) := by decide +kernel
theorem d_GT_isEdit_8 : decode prog_1_method_42_code 8 = .ok (.iload_n 2, 1) := by decide +kernel
theorem d_GT_isEdit_9 : decode prog_1_method_42_code 9 = .ok (.iload_n 3, 1) := by decide +kernel
theorem d_GT_isEdit_10 : decode prog_1_method_42_code 10 = .ok (.invokevirtual 178, 3) := by decide +kernel
theorem d_GT_isEdit_13 : decode prog_1_method_42_code 13 = .ok (.ifCond .eq 27, 3) := by decide +kernel
theorem d_GT_isEdit_16 : decode prog_1_method_42_code 16 = .ok (.iload 4, 2) := by decide +kernel
theorem d_GT_isEdit_18 : decode prog_1_method_42_code 18 = .ok (.invokestatic 164, 3) := by decide +kernel
theorem d_GT_isEdit_21 : decode prog_1_method_42_code 21 = .ok (.ifCond .eq 19, 3) := by decide +kernel
theorem d_GT_isEdit_24 : decode prog_1_method_42_code 24 = .ok (.iload 5, 2) := by decide +kernel
theorem d_GT_isEdit_26 : decode prog_1_method_42_code 26 = .ok (.iconst 0, 1) := by decide +kernel
theorem d_GT_isEdit_27 : decode prog_1_method_42_code 27 = .ok (.sipush 9999, 3) := by decide +kernel
theorem d_GT_isEdit_30 : decode prog_1_method_42_code 30 = .ok (.invokestatic 65, 3) := by decide +kernel
theorem d_GT_isEdit_33 : decode prog_1_method_42_code 33 = .ok (.ifCond .eq 7, 3) := by decide +kernel
theorem d_GT_isEdit_36 : decode prog_1_method_42_code 36 = .ok (.iconst 1, 1) := by decide +kernel
theorem d_GT_isEdit_37 : decode prog_1_method_42_code 37 = .ok (.goto 4, 3) := by decide +kernel
theorem d_GT_isEdit_40 : decode prog_1_method_42_code 40 = .ok (.iconst 0, 1) := by decide +kernel
theorem d_GT_isEdit_41 : decode prog_1_method_42_code 41 = .ok (.ireturn, 1) := by decide +kernel
theorem d_GT_isOperator_0 : decode prog_1_method_36_code 0 = .ok (.iload_n 0, 1) := by decide +kernel
theorem d_GT_isOperator_1 : decode prog_1_method_36_code 1 = .ok (.iconst 0, 1) := by decide +kernel
theorem d_GT_isOperator_2 : decode prog_1_method_36_code 2 = .ok (.iconst 2, 1) := by decide +kernel
theorem d_GT_isOperator_3 : decode prog_1_method_36_code 3 = .ok (.invokestatic 65, 3) := by decide +kernel
theorem d_GT_isOperator_6 : decode prog_1_method_36_code 6 = .ok (.ireturn, 1) := by decide +kernel
theorem d_GT_isRegion_0 : decode prog_1_method_41_code 0 = .ok (.iload_n 1, 1) := by decide +kernel
theorem d_GT_isRegion_1 : decode prog_1_method_41_code 1 = .ok (.iconst 0, 1) := by decide +kernel
theorem d_GT_isRegion_2 : decode prog_1_method_41_code 2 = .ok (.aload_n 0, 1) := by decide +kernel
theorem d_GT_isRegion_3 : decode prog_1_method_41_code 3 = .ok (.getfield 12, 3) := by decide +kernel
theorem d_GT_isRegion_6 : decode prog_1_method_41_code 6 = .ok (.getfield 77, 3) := by decide +kernel
theorem d_GT_isRegion_9 : decode prog_1_method_41_code 9 = .ok (.getfield 167, 3) := by decide +kernel
theorem d_GT_isRegion_12 : decode prog_1_method_41_code 12 = .ok (.getfield 116, 3) := by decide +kernel
theorem d_GT_isRegion_15 : decode prog_1_method_41_code 15 = .ok (.invokestatic 65, 3) := by decide +kernel
theorem d_GT_isRegion_18 : decode prog_1_method_41_code 18 = .ok (.ifCond .eq 28, 3) := by decide +kernel
theorem d_GT_isRegion_21 : decode prog_1_method_41_code 21 = .ok (.iload_n 2, 1) := by decide +kernel
theorem d_GT_isRegion_22 : decode prog_1_method_41_code 22 = .ok (.iconst 0, 1) := by decide +kernel
theorem d_GT_isRegion_23 : decode prog_1_method_41_code 23 = .ok (.aload_n 0, 1) := by decide +kernel
theorem d_GT_isRegion_24 : decode prog_1_method_41_code 24 = .ok (.getfield 12, 3) := by decide +kernel
theorem d_GT_isRegion_27 : decode prog_1_method_41_code 27 = .ok (.getfield 77, 3) := by decide +kernel
theorem d_GT_isRegion_30 : decode prog_1_method_41_code 30 = .ok (.getfield 170, 3) := by decide +kernel
theorem d_GT_isRegion_33 : decode prog_1_method_41_code 33 = .ok (.getfield 116, 3) := by decide +kernel
theorem d_GT_isRegion_36 : decode prog_1_method_41_code 36 = .ok (.invokestatic 65, 3) := by decide +kernel
theorem d_GT_isRegion_39 : decode prog_1_method_41_code 39 = .ok (.ifCond .eq 7, 3) := by decide +kernel
theorem d_GT_isRegion_42 : decode prog_1_method_41_code 42 = .ok (.iconst 1, 1) := by decide +kernel
theorem d_GT_isRegion_43 : decode prog_1_method_41_code 43 = .ok (.goto 4, 3) := by decide +kernel
theorem d_GT_isRegion_46 : decode prog_1_method_41_code 46 = .ok (.iconst 0, 1) := by decide +kernel
theorem d_GT_isRegion_47 : decode prog_1_method_41_code 47 = .ok (.ireturn, 1) := by decide +kernel
theorem d_GT_isGain_0 : decode prog_1_method_35_code 0 = .ok (.iload_n 0, 1) := by decide +kernel
theorem d_GT_isGain_1 : decode prog_1_method_35_code 1 = .ok (.iconst 0, 1) := by decide +kernel
theorem d_GT_isGain_2 : decode prog_1_method_35_code 2 = .ok (.iconst 2, 1) := by decide +kernel
theorem d_GT_isGain_3 : decode prog_1_method_35_code 3 = .ok (.invokestatic 65, 3) := by decide +kernel
theorem d_GT_isGain_6 : decode prog_1_method_35_code 6 = .ok (.ireturn, 1) := by decide +kernel
theorem d_State_reasonAgainst_0 : decode prog_6_method_12_code 0 = .ok (.aload_n 0, 1) := by decide +kernel
theorem d_State_reasonAgainst_1 : decode prog_6_method_12_code 1 = .ok (.getfield 12, 3) := by decide +kernel
theorem d_State_reasonAgainst_4 : decode prog_6_method_12_code 4 = .ok (.iload_n 2, 1) := by decide +kernel
theorem d_State_reasonAgainst_5 : decode prog_6_method_12_code 5 = .ok (.invokevirtual 126, 3) := by decide +kernel
theorem d_State_reasonAgainst_8 : decode prog_6_method_12_code 8 = .ok (.istore 5, 2) := by decide +kernel
theorem d_State_reasonAgainst_10 : decode prog_6_method_12_code 10 = .ok (.iload 5, 2) := by decide +kernel
theorem d_State_reasonAgainst_12 : decode prog_6_method_12_code 12 = .ok (.ldc 129, 2) := by decide +kernel
theorem d_State_reasonAgainst_14 : decode prog_6_method_12_code 14 = .ok (.if_icmp .eq 11, 3) := by decide +kernel
theorem d_State_reasonAgainst_17 : decode prog_6_method_12_code 17 = .ok (.iload 5, 2) := by decide +kernel
theorem d_State_reasonAgainst_19 : decode prog_6_method_12_code 19 = .ok (.iload_n 1, 1) := by decide +kernel
theorem d_State_reasonAgainst_20 : decode prog_6_method_12_code 20 = .ok (.if_icmp .eq 5, 3) := by decide +kernel
theorem d_State_reasonAgainst_23 : decode prog_6_method_12_code 23 = .ok (.iconst 1, 1) := by decide +kernel
theorem d_State_reasonAgainst_24 : decode prog_6_method_12_code 24 = .ok (.ireturn, 1) := by decide +kernel
theorem d_State_reasonAgainst_25 : decode prog_6_method_12_code 25 = .ok (.iload 4, 2) := by decide +kernel
theorem d_State_reasonAgainst_27 : decode prog_6_method_12_code 27 = .ok (.aload_n 0, 1) := by decide +kernel
theorem d_State_reasonAgainst_28 : decode prog_6_method_12_code 28 = .ok (.getfield 12, 3) := by decide +kernel
theorem d_State_reasonAgainst_31 : decode prog_6_method_12_code 31 = .ok (.iload_n 2, 1) := by decide +kernel
theorem d_State_reasonAgainst_32 : decode prog_6_method_12_code 32 = .ok (.iload_n 3, 1) := by decide +kernel
theorem d_State_reasonAgainst_33 : decode prog_6_method_12_code 33 = .ok (.invokevirtual 130, 3) := by decide +kernel
theorem d_State_reasonAgainst_36 : decode prog_6_method_12_code 36 = .ok (.isub, 1) := by decide +kernel
theorem d_State_reasonAgainst_37 : decode prog_6_method_12_code 37 = .ok (.invokestatic 110, 3) := by decide +kernel
theorem d_State_reasonAgainst_40 : decode prog_6_method_12_code 40 = .ok (.istore 6, 2) := by decide +kernel
theorem d_State_reasonAgainst_42 : decode prog_6_method_12_code 42 = .ok (.iload 6, 2) := by decide +kernel
theorem d_State_reasonAgainst_44 : decode prog_6_method_12_code 44 = .ok (.aload_n 0, 1) := by decide +kernel
theorem d_State_reasonAgainst_45 : decode prog_6_method_12_code 45 = .ok (.getfield 45, 3) := by decide +kernel
theorem d_State_reasonAgainst_48 : decode prog_6_method_12_code 48 = .ok (.iload_n 1, 1) := by decide +kernel
theorem d_State_reasonAgainst_49 : decode prog_6_method_12_code 49 = .ok (.iaload, 1) := by decide +kernel
theorem d_State_reasonAgainst_50 : decode prog_6_method_12_code 50 = .ok (.if_icmp .le 5, 3) := by decide +kernel
theorem d_State_reasonAgainst_53 : decode prog_6_method_12_code 53 = .ok (.iconst 2, 1) := by decide +kernel
theorem d_State_reasonAgainst_54 : decode prog_6_method_12_code 54 = .ok (.ireturn, 1) := by decide +kernel
theorem d_State_reasonAgainst_55 : decode prog_6_method_12_code 55 = .ok (.iload 6, 2) := by decide +kernel
theorem d_State_reasonAgainst_57 : decode prog_6_method_12_code 57 = .ok (.aload_n 0, 1) := by decide +kernel
theorem d_State_reasonAgainst_58 : decode prog_6_method_12_code 58 = .ok (.getfield 48, 3) := by decide +kernel
theorem d_State_reasonAgainst_61 : decode prog_6_method_12_code 61 = .ok (.iload_n 1, 1) := by decide +kernel
theorem d_State_reasonAgainst_62 : decode prog_6_method_12_code 62 = .ok (.iaload, 1) := by decide +kernel
theorem d_State_reasonAgainst_63 : decode prog_6_method_12_code 63 = .ok (.if_icmp .le 7, 3) := by decide +kernel
theorem d_State_reasonAgainst_66 : decode prog_6_method_12_code 66 = .ok (.iconst 3, 1) := by decide +kernel
theorem d_State_reasonAgainst_67 : decode prog_6_method_12_code 67 = .ok (.goto 4, 3) := by decide +kernel
theorem d_State_reasonAgainst_70 : decode prog_6_method_12_code 70 = .ok (.iconst 0, 1) := by decide +kernel
theorem d_State_reasonAgainst_71 : decode prog_6_method_12_code 71 = .ok (.ireturn, 1) := by decide +kernel
theorem d_State_carryOutEdit_0 : decode prog_6_method_13_code 0 = .ok (.iload 4, 2) := by decide +kernel
theorem d_State_carryOutEdit_2 : decode prog_6_method_13_code 2 = .ok (.aload_n 0, 1) := by decide +kernel
theorem d_State_carryOutEdit_3 : decode prog_6_method_13_code 3 = .ok (.getfield 12, 3) := by decide +kernel
theorem d_State_carryOutEdit_6 : decode prog_6_method_13_code 6 = .ok (.iload_n 2, 1) := by decide +kernel
theorem d_State_carryOutEdit_7 : decode prog_6_method_13_code 7 = .ok (.iload_n 3, 1) := by decide +kernel
theorem d_State_carryOutEdit_8 : decode prog_6_method_13_code 8 = .ok (.invokevirtual 130, 3) := by decide +kernel
theorem d_State_carryOutEdit_11 : decode prog_6_method_13_code 11 = .ok (.isub, 1) := by decide +kernel
theorem d_State_carryOutEdit_12 : decode prog_6_method_13_code 12 = .ok (.istore 5, 2) := by decide +kernel
theorem d_State_carryOutEdit_14 : decode prog_6_method_13_code 14 = .ok (.aload_n 0, 1) := by decide +kernel
theorem d_State_carryOutEdit_15 : decode prog_6_method_13_code 15 = .ok (.getfield 12, 3) := by decide +kernel
theorem d_State_carryOutEdit_18 : decode prog_6_method_13_code 18 = .ok (.iload_n 2, 1) := by decide +kernel
theorem d_State_carryOutEdit_19 : decode prog_6_method_13_code 19 = .ok (.iload_n 3, 1) := by decide +kernel
theorem d_State_carryOutEdit_20 : decode prog_6_method_13_code 20 = .ok (.iload 4, 2) := by decide +kernel
theorem d_State_carryOutEdit_22 : decode prog_6_method_13_code 22 = .ok (.invokevirtual 133, 3) := by decide +kernel
theorem d_State_carryOutEdit_25 : decode prog_6_method_13_code 25 = .ok (.aload_n 0, 1) := by decide +kernel
theorem d_State_carryOutEdit_26 : decode prog_6_method_13_code 26 = .ok (.getfield 48, 3) := by decide +kernel
theorem d_State_carryOutEdit_29 : decode prog_6_method_13_code 29 = .ok (.iload_n 1, 1) := by decide +kernel
theorem d_State_carryOutEdit_30 : decode prog_6_method_13_code 30 = .ok (.dup2, 1) := by decide +kernel
theorem d_State_carryOutEdit_31 : decode prog_6_method_13_code 31 = .ok (.iaload, 1) := by decide +kernel
theorem d_State_carryOutEdit_32 : decode prog_6_method_13_code 32 = .ok (.iload 5, 2) := by decide +kernel
theorem d_State_carryOutEdit_34 : decode prog_6_method_13_code 34 = .ok (.invokestatic 110, 3) := by decide +kernel
theorem d_State_carryOutEdit_37 : decode prog_6_method_13_code 37 = .ok (.isub, 1) := by decide +kernel
theorem d_State_carryOutEdit_38 : decode prog_6_method_13_code 38 = .ok (.iastore, 1) := by decide +kernel
theorem d_State_carryOutEdit_39 : decode prog_6_method_13_code 39 = .ok (.aload_n 0, 1) := by decide +kernel
theorem d_State_carryOutEdit_40 : decode prog_6_method_13_code 40 = .ok (.getfield 54, 3) := by decide +kernel
theorem d_State_carryOutEdit_43 : decode prog_6_method_13_code 43 = .ok (.iload_n 1, 1) := by decide +kernel
theorem d_State_carryOutEdit_44 : decode prog_6_method_13_code 44 = .ok (.dup2, 1) := by decide +kernel
theorem d_State_carryOutEdit_45 : decode prog_6_method_13_code 45 = .ok (.iaload, 1) := by decide +kernel
theorem d_State_carryOutEdit_46 : decode prog_6_method_13_code 46 = .ok (.iload 5, 2) := by decide +kernel
theorem d_State_carryOutEdit_48 : decode prog_6_method_13_code 48 = .ok (.iadd, 1) := by decide +kernel
theorem d_State_carryOutEdit_49 : decode prog_6_method_13_code 49 = .ok (.iastore, 1) := by decide +kernel
theorem d_State_carryOutEdit_50 : decode prog_6_method_13_code 50 = .ok (.aload_n 0, 1) := by decide +kernel
theorem d_State_carryOutEdit_51 : decode prog_6_method_13_code 51 = .ok (.getfield 51, 3) := by decide +kernel
theorem d_State_carryOutEdit_54 : decode prog_6_method_13_code 54 = .ok (.iload_n 1, 1) := by decide +kernel
theorem d_State_carryOutEdit_55 : decode prog_6_method_13_code 55 = .ok (.dup2, 1) := by decide +kernel
theorem d_State_carryOutEdit_56 : decode prog_6_method_13_code 56 = .ok (.iaload, 1) := by decide +kernel
theorem d_State_carryOutEdit_57 : decode prog_6_method_13_code 57 = .ok (.iconst 1, 1) := by decide +kernel
theorem d_State_carryOutEdit_58 : decode prog_6_method_13_code 58 = .ok (.iadd, 1) := by decide +kernel
theorem d_State_carryOutEdit_59 : decode prog_6_method_13_code 59 = .ok (.iastore, 1) := by decide +kernel
theorem d_State_carryOutEdit_60 : decode prog_6_method_13_code 60 = .ok (.return_, 1) := by decide +kernel
theorem d_GT_setMargin_0 : decode prog_1_method_9_code 0 = .ok (.iload_n 1, 1) := by decide +kernel
theorem d_GT_setMargin_1 : decode prog_1_method_9_code 1 = .ok (.iconst 0, 1) := by decide +kernel
theorem d_GT_setMargin_2 : decode prog_1_method_9_code 2 = .ok (.bipush 50, 2) := by decide +kernel
theorem d_GT_setMargin_4 : decode prog_1_method_9_code 4 = .ok (.invokestatic 65, 3) := by decide +kernel
theorem d_GT_setMargin_7 : decode prog_1_method_9_code 7 = .ok (.ifCond .ne 6, 3) := by decide +kernel
theorem d_GT_setMargin_10 : decode prog_1_method_9_code 10 = .ok (.ldc 76, 2) := by decide +kernel
theorem d_GT_setMargin_12 : decode prog_1_method_9_code 12 = .ok (.ireturn, 1) := by decide +kernel
theorem d_GT_setMargin_13 : decode prog_1_method_9_code 13 = .ok (.aload_n 0, 1) := by decide +kernel
theorem d_GT_setMargin_14 : decode prog_1_method_9_code 14 = .ok (.getfield 19, 3) := by decide +kernel
theorem d_GT_setMargin_17 : decode prog_1_method_9_code 17 = .ok (.aload_n 0, 1) := by decide +kernel
theorem d_GT_setMargin_18 : decode prog_1_method_9_code 18 = .ok (.getfield 12, 3) := by decide +kernel
theorem d_GT_setMargin_21 : decode prog_1_method_9_code 21 = .ok (.invokevirtual 93, 3) := by decide +kernel
theorem d_GT_setMargin_24 : decode prog_1_method_9_code 24 = .ok (.aload_n 0, 1) := by decide +kernel
theorem d_GT_setMargin_25 : decode prog_1_method_9_code 25 = .ok (.getfield 12, 3) := by decide +kernel
theorem d_GT_setMargin_28 : decode prog_1_method_9_code 28 = .ok (.getfield 191, 3) := by decide +kernel
theorem d_GT_setMargin_31 : decode prog_1_method_9_code 31 = .ok (.istore_n 2, 1) := by decide +kernel
theorem d_GT_setMargin_32 : decode prog_1_method_9_code 32 = .ok (.aload_n 0, 1) := by decide +kernel
theorem d_GT_setMargin_33 : decode prog_1_method_9_code 33 = .ok (.getfield 12, 3) := by decide +kernel
theorem d_GT_setMargin_36 : decode prog_1_method_9_code 36 = .ok (.iload_n 1, 1) := by decide +kernel
theorem d_GT_setMargin_37 : decode prog_1_method_9_code 37 = .ok (.putfield 191, 3) := by decide +kernel
theorem d_GT_setMargin_40 : decode prog_1_method_9_code 40 = .ok (.iload_n 2, 1) := by decide +kernel
theorem d_GT_setMargin_41 : decode prog_1_method_9_code 41 = .ok (.ireturn, 1) := by decide +kernel
theorem d_GT_move_0 : decode prog_1_method_10_code 0 = .ok (.iload_n 1, 1) := by decide +kernel
theorem d_GT_move_1 : decode prog_1_method_10_code 1 = .ok (.invokestatic 194, 3) := by decide +kernel
theorem d_GT_move_4 : decode prog_1_method_10_code 4 = .ok (.ifCond .eq 10, 3) := by decide +kernel
theorem d_GT_move_7 : decode prog_1_method_10_code 7 = .ok (.iload_n 2, 1) := by decide +kernel
theorem d_GT_move_8 : decode prog_1_method_10_code 8 = .ok (.invokestatic 194, 3) := by decide +kernel
theorem d_GT_move_11 : decode prog_1_method_10_code 11 = .ok (.ifCond .ne 6, 3) := by decide +kernel
theorem d_GT_move_14 : decode prog_1_method_10_code 14 = .ok (.ldc 76, 2) := by decide +kernel
theorem d_GT_move_16 : decode prog_1_method_10_code 16 = .ok (.ireturn, 1) := by decide +kernel
theorem d_GT_move_17 : decode prog_1_method_10_code 17 = .ok (.aload_n 0, 1) := by decide +kernel
theorem d_GT_move_18 : decode prog_1_method_10_code 18 = .ok (.getfield 19, 3) := by decide +kernel
theorem d_GT_move_21 : decode prog_1_method_10_code 21 = .ok (.aload_n 0, 1) := by decide +kernel
theorem d_GT_move_22 : decode prog_1_method_10_code 22 = .ok (.getfield 12, 3) := by decide +kernel
theorem d_GT_move_25 : decode prog_1_method_10_code 25 = .ok (.invokevirtual 93, 3) := by decide +kernel
theorem d_GT_move_28 : decode prog_1_method_10_code 28 = .ok (.aload_n 0, 1) := by decide +kernel
theorem d_GT_move_29 : decode prog_1_method_10_code 29 = .ok (.iload_n 1, 1) := by decide +kernel
theorem d_GT_move_30 : decode prog_1_method_10_code 30 = .ok (.iload_n 2, 1) := by decide +kernel
theorem d_GT_move_31 : decode prog_1_method_10_code 31 = .ok (.invokevirtual 197, 3) := by decide +kernel
theorem d_GT_move_34 : decode prog_1_method_10_code 34 = .ok (.ireturn, 1) := by decide +kernel
theorem d_GT_isCoordinate_0 : decode prog_1_method_34_code 0 = .ok (.iload_n 0, 1) := by decide +kernel
theorem d_GT_isCoordinate_1 : decode prog_1_method_34_code 1 = .ok (.iconst 0, 1) := by decide +kernel
theorem d_GT_isCoordinate_2 : decode prog_1_method_34_code 2 = .ok (.sipush 1000, 3) := by decide +kernel
theorem d_GT_isCoordinate_5 : decode prog_1_method_34_code 5 = .ok (.invokestatic 65, 3) := by decide +kernel
theorem d_GT_isCoordinate_8 : decode prog_1_method_34_code 8 = .ok (.ireturn, 1) := by decide +kernel
theorem d_GT_carryOutMove_0 : decode prog_1_method_44_code 0 = .ok (.aload_n 0, 1) := by decide +kernel
theorem d_GT_carryOutMove_1 : decode prog_1_method_44_code 1 = .ok (.getfield 12, 3) := by decide +kernel
theorem d_GT_carryOutMove_4 : decode prog_1_method_44_code 4 = .ok (.iload_n 1, 1) := by decide +kernel
theorem d_GT_carryOutMove_5 : decode prog_1_method_44_code 5 = .ok (.iload_n 2, 1) := by decide +kernel
theorem d_GT_carryOutMove_6 : decode prog_1_method_44_code 6 = .ok (.invokevirtual 304, 3) := by decide +kernel
theorem d_GT_carryOutMove_9 : decode prog_1_method_44_code 9 = .ok (.ifCond .eq 19, 3) := by decide +kernel
theorem d_GT_carryOutMove_12 : decode prog_1_method_44_code 12 = .ok (.aload_n 0, 1) := by decide +kernel
theorem d_GT_carryOutMove_13 : decode prog_1_method_44_code 13 = .ok (.getfield 12, 3) := by decide +kernel
theorem d_GT_carryOutMove_16 : decode prog_1_method_44_code 16 = .ok (.dup, 1) := by decide +kernel
theorem d_GT_carryOutMove_17 : decode prog_1_method_44_code 17 = .ok (.getfield 257, 3) := by decide +kernel
theorem d_GT_carryOutMove_20 : decode prog_1_method_44_code 20 = .ok (.iconst 1, 1) := by decide +kernel
theorem d_GT_carryOutMove_21 : decode prog_1_method_44_code 21 = .ok (.iadd, 1) := by decide +kernel
theorem d_GT_carryOutMove_22 : decode prog_1_method_44_code 22 = .ok (.putfield 257, 3) := by decide +kernel
theorem d_GT_carryOutMove_25 : decode prog_1_method_44_code 25 = .ok (.ldc 181, 2) := by decide +kernel
theorem d_GT_carryOutMove_27 : decode prog_1_method_44_code 27 = .ok (.ireturn, 1) := by decide +kernel
theorem d_GT_carryOutMove_28 : decode prog_1_method_44_code 28 = .ok (.aload_n 0, 1) := by decide +kernel
theorem d_GT_carryOutMove_29 : decode prog_1_method_44_code 29 = .ok (.invokevirtual 266, 3) := by decide +kernel
theorem d_GT_carryOutMove_32 : decode prog_1_method_44_code 32 = .ok (.aload_n 0, 1) := by decide +kernel
theorem d_GT_carryOutMove_33 : decode prog_1_method_44_code 33 = .ok (.aload_n 0, 1) := by decide +kernel
theorem d_GT_carryOutMove_34 : decode prog_1_method_44_code 34 = .ok (.getfield 54, 3) := by decide +kernel
theorem d_GT_carryOutMove_37 : decode prog_1_method_44_code 37 = .ok (.invokevirtual 310, 3) := by decide +kernel
theorem d_GT_carryOutMove_40 : decode prog_1_method_44_code 40 = .ok (.aload_n 0, 1) := by decide +kernel
theorem d_GT_carryOutMove_41 : decode prog_1_method_44_code 41 = .ok (.getfield 12, 3) := by decide +kernel
theorem d_GT_carryOutMove_44 : decode prog_1_method_44_code 44 = .ok (.iload_n 1, 1) := by decide +kernel
theorem d_GT_carryOutMove_45 : decode prog_1_method_44_code 45 = .ok (.iload_n 2, 1) := by decide +kernel
theorem d_GT_carryOutMove_46 : decode prog_1_method_44_code 46 = .ok (.invokevirtual 343, 3) := by decide +kernel
theorem d_GT_carryOutMove_49 : decode prog_1_method_44_code 49 = .ok (.aload_n 0, 1) := by decide +kernel
theorem d_GT_carryOutMove_50 : decode prog_1_method_44_code 50 = .ok (.invokevirtual 266, 3) := by decide +kernel
theorem d_GT_carryOutMove_53 : decode prog_1_method_44_code 53 = .ok (.aload_n 0, 1) := by decide +kernel
theorem d_GT_carryOutMove_54 : decode prog_1_method_44_code 54 = .ok (.aload_n 0, 1) := by decide +kernel
theorem d_GT_carryOutMove_55 : decode prog_1_method_44_code 55 = .ok (.getfield 58, 3) := by decide +kernel
theorem d_GT_carryOutMove_58 : decode prog_1_method_44_code 58 = .ok (.invokevirtual 310, 3) := by decide +kernel
theorem d_GT_carryOutMove_61 : decode prog_1_method_44_code 61 = .ok (.aload_n 0, 1) := by decide +kernel
theorem d_GT_carryOutMove_62 : decode prog_1_method_44_code 62 = .ok (.invokevirtual 318, 3) := by decide +kernel
theorem d_GT_carryOutMove_65 : decode prog_1_method_44_code 65 = .ok (.istore_n 3, 1) := by decide +kernel
theorem d_GT_carryOutMove_66 : decode prog_1_method_44_code 66 = .ok (.aload_n 0, 1) := by decide +kernel
theorem d_GT_carryOutMove_67 : decode prog_1_method_44_code 67 = .ok (.getfield 12, 3) := by decide +kernel
theorem d_GT_carryOutMove_70 : decode prog_1_method_44_code 70 = .ok (.aload_n 0, 1) := by decide +kernel
theorem d_GT_carryOutMove_71 : decode prog_1_method_44_code 71 = .ok (.getfield 58, 3) := by decide +kernel
theorem d_GT_carryOutMove_74 : decode prog_1_method_44_code 74 = .ok (.iload_n 3, 1) := by decide +kernel
theorem d_GT_carryOutMove_75 : decode prog_1_method_44_code 75 = .ok (.invokevirtual 346, 3) := by decide +kernel
theorem d_GT_carryOutMove_78 : decode prog_1_method_44_code 78 = .ok (.aload_n 0, 1) := by decide +kernel
theorem d_GT_carryOutMove_79 : decode prog_1_method_44_code 79 = .ok (.getfield 12, 3) := by decide +kernel
theorem d_GT_carryOutMove_82 : decode prog_1_method_44_code 82 = .ok (.dup, 1) := by decide +kernel
theorem d_GT_carryOutMove_83 : decode prog_1_method_44_code 83 = .ok (.getfield 260, 3) := by decide +kernel
theorem d_GT_carryOutMove_86 : decode prog_1_method_44_code 86 = .ok (.iconst 1, 1) := by decide +kernel
theorem d_GT_carryOutMove_87 : decode prog_1_method_44_code 87 = .ok (.iadd, 1) := by decide +kernel
theorem d_GT_carryOutMove_88 : decode prog_1_method_44_code 88 = .ok (.putfield 260, 3) := by decide +kernel
theorem d_GT_carryOutMove_91 : decode prog_1_method_44_code 91 = .ok (.iload_n 3, 1) := by decide +kernel
theorem d_GT_carryOutMove_92 : decode prog_1_method_44_code 92 = .ok (.ireturn, 1) := by decide +kernel
theorem d_State_ignores_0 : decode prog_6_method_9_code 0 = .ok (.iload_n 1, 1) := by decide +kernel
theorem d_State_ignores_1 : decode prog_6_method_9_code 1 = .ok (.aload_n 0, 1) := by decide +kernel
theorem d_State_ignores_2 : decode prog_6_method_9_code 2 = .ok (.getfield 31, 3) := by decide +kernel
theorem d_State_ignores_5 : decode prog_6_method_9_code 5 = .ok (.iconst 0, 1) := by decide +kernel
theorem d_State_ignores_6 : decode prog_6_method_9_code 6 = .ok (.iaload, 1) := by decide +kernel
theorem d_State_ignores_7 : decode prog_6_method_9_code 7 = .ok (.isub, 1) := by decide +kernel
theorem d_State_ignores_8 : decode prog_6_method_9_code 8 = .ok (.invokestatic 110, 3) := by decide +kernel
theorem d_State_ignores_11 : decode prog_6_method_9_code 11 = .ok (.aload_n 0, 1) := by decide +kernel
theorem d_State_ignores_12 : decode prog_6_method_9_code 12 = .ok (.getfield 73, 3) := by decide +kernel
theorem d_State_ignores_15 : decode prog_6_method_9_code 15 = .ok (.if_icmp .ge 25, 3) := by decide +kernel
theorem d_State_ignores_18 : decode prog_6_method_9_code 18 = .ok (.iload_n 2, 1) := by decide +kernel
theorem d_State_ignores_19 : decode prog_6_method_9_code 19 = .ok (.aload_n 0, 1) := by decide +kernel
theorem d_State_ignores_20 : decode prog_6_method_9_code 20 = .ok (.getfield 31, 3) := by decide +kernel
theorem d_State_ignores_23 : decode prog_6_method_9_code 23 = .ok (.iconst 1, 1) := by decide +kernel
theorem d_State_ignores_24 : decode prog_6_method_9_code 24 = .ok (.iaload, 1) := by decide +kernel
theorem d_State_ignores_25 : decode prog_6_method_9_code 25 = .ok (.isub, 1) := by decide +kernel
theorem d_State_ignores_26 : decode prog_6_method_9_code 26 = .ok (.invokestatic 110, 3) := by decide +kernel
theorem d_State_ignores_29 : decode prog_6_method_9_code 29 = .ok (.aload_n 0, 1) := by decide +kernel
theorem d_State_ignores_30 : decode prog_6_method_9_code 30 = .ok (.getfield 73, 3) := by decide +kernel
theorem d_State_ignores_33 : decode prog_6_method_9_code 33 = .ok (.if_icmp .ge 7, 3) := by decide +kernel
theorem d_State_ignores_36 : decode prog_6_method_9_code 36 = .ok (.iconst 1, 1) := by decide +kernel
theorem d_State_ignores_37 : decode prog_6_method_9_code 37 = .ok (.goto 4, 3) := by decide +kernel
theorem d_State_ignores_40 : decode prog_6_method_9_code 40 = .ok (.iconst 0, 1) := by decide +kernel
theorem d_State_ignores_41 : decode prog_6_method_9_code 41 = .ok (.ireturn, 1) := by decide +kernel
theorem d_GT_blendAtPoint_0 : decode prog_1_method_45_code 0 = .ok (.aload_n 0, 1) := by decide +kernel
theorem d_GT_blendAtPoint_1 : decode prog_1_method_45_code 1 = .ok (.getfield 47, 3) := by decide +kernel
theorem d_GT_blendAtPoint_4 : decode prog_1_method_45_code 4 = .ok (.aload_n 0, 1) := by decide +kernel
theorem d_GT_blendAtPoint_5 : decode prog_1_method_45_code 5 = .ok (.getfield 12, 3) := by decide +kernel
theorem d_GT_blendAtPoint_8 : decode prog_1_method_45_code 8 = .ok (.getfield 77, 3) := by decide +kernel
theorem d_GT_blendAtPoint_11 : decode prog_1_method_45_code 11 = .ok (.getfield 167, 3) := by decide +kernel
theorem d_GT_blendAtPoint_14 : decode prog_1_method_45_code 14 = .ok (.aload_n 0, 1) := by decide +kernel
theorem d_GT_blendAtPoint_15 : decode prog_1_method_45_code 15 = .ok (.getfield 12, 3) := by decide +kernel
theorem d_GT_blendAtPoint_18 : decode prog_1_method_45_code 18 = .ok (.getfield 207, 3) := by decide +kernel
theorem d_GT_blendAtPoint_21 : decode prog_1_method_45_code 21 = .ok (.iconst 0, 1) := by decide +kernel
theorem d_GT_blendAtPoint_22 : decode prog_1_method_45_code 22 = .ok (.iaload, 1) := by decide +kernel
theorem d_GT_blendAtPoint_23 : decode prog_1_method_45_code 23 = .ok (.aload_n 0, 1) := by decide +kernel
theorem d_GT_blendAtPoint_24 : decode prog_1_method_45_code 24 = .ok (.getfield 12, 3) := by decide +kernel
theorem d_GT_blendAtPoint_27 : decode prog_1_method_45_code 27 = .ok (.getfield 200, 3) := by decide +kernel
theorem d_GT_blendAtPoint_30 : decode prog_1_method_45_code 30 = .ok (.iconst 0, 1) := by decide +kernel
theorem d_GT_blendAtPoint_31 : decode prog_1_method_45_code 31 = .ok (.iaload, 1) := by decide +kernel
theorem d_GT_blendAtPoint_32 : decode prog_1_method_45_code 32 = .ok (.invokevirtual 314, 3) := by decide +kernel
theorem d_GT_blendAtPoint_35 : decode prog_1_method_45_code 35 = .ok (.aload_n 0, 1) := by decide +kernel
theorem d_GT_blendAtPoint_36 : decode prog_1_method_45_code 36 = .ok (.getfield 51, 3) := by decide +kernel
theorem d_GT_blendAtPoint_39 : decode prog_1_method_45_code 39 = .ok (.aload_n 0, 1) := by decide +kernel
theorem d_GT_blendAtPoint_40 : decode prog_1_method_45_code 40 = .ok (.getfield 12, 3) := by decide +kernel
theorem d_GT_blendAtPoint_43 : decode prog_1_method_45_code 43 = .ok (.getfield 77, 3) := by decide +kernel
theorem d_GT_blendAtPoint_46 : decode prog_1_method_45_code 46 = .ok (.getfield 170, 3) := by decide +kernel
theorem d_GT_blendAtPoint_49 : decode prog_1_method_45_code 49 = .ok (.aload_n 0, 1) := by decide +kernel
theorem d_GT_blendAtPoint_50 : decode prog_1_method_45_code 50 = .ok (.getfield 12, 3) := by decide +kernel
theorem d_GT_blendAtPoint_53 : decode prog_1_method_45_code 53 = .ok (.getfield 207, 3) := by decide +kernel
theorem d_GT_blendAtPoint_56 : decode prog_1_method_45_code 56 = .ok (.iconst 1, 1) := by decide +kernel
theorem d_GT_blendAtPoint_57 : decode prog_1_method_45_code 57 = .ok (.iaload, 1) := by decide +kernel
theorem d_GT_blendAtPoint_58 : decode prog_1_method_45_code 58 = .ok (.aload_n 0, 1) := by decide +kernel
theorem d_GT_blendAtPoint_59 : decode prog_1_method_45_code 59 = .ok (.getfield 12, 3) := by decide +kernel
theorem d_GT_blendAtPoint_62 : decode prog_1_method_45_code 62 = .ok (.getfield 200, 3) := by decide +kernel
theorem d_GT_blendAtPoint_65 : decode prog_1_method_45_code 65 = .ok (.iconst 1, 1) := by decide +kernel
theorem d_GT_blendAtPoint_66 : decode prog_1_method_45_code 66 = .ok (.iaload, 1) := by decide +kernel
theorem d_GT_blendAtPoint_67 : decode prog_1_method_45_code 67 = .ok (.invokevirtual 314, 3) := by decide +kernel
theorem d_GT_blendAtPoint_70 : decode prog_1_method_45_code 70 = .ok (.return_, 1) := by decide +kernel
theorem d_Blend_findIn_0 : decode prog_2_method_2_code 0 = .ok (.aload_n 1, 1) := by decide +kernel
theorem d_Blend_findIn_1 : decode prog_2_method_2_code 1 = .ok (.iload_n 2, 1) := by decide +kernel
theorem d_Blend_findIn_2 : decode prog_2_method_2_code 2 = .ok (.iload_n 3, 1) := by decide +kernel
theorem d_Blend_findIn_3 : decode prog_2_method_2_code 3 = .ok (.invokevirtual 15, 3) := by decide +kernel
theorem d_Blend_findIn_6 : decode prog_2_method_2_code 6 = .ok (.istore 4, 2) := by decide +kernel
theorem d_Blend_findIn_8 : decode prog_2_method_2_code 8 = .ok (.aload_n 1, 1) := by decide +kernel
theorem d_Blend_findIn_9 : decode prog_2_method_2_code 9 = .ok (.iload 4, 2) := by decide +kernel
theorem d_Blend_findIn_11 : decode prog_2_method_2_code 11 = .ok (.invokevirtual 21, 3) := by decide +kernel
theorem d_Blend_findIn_14 : decode prog_2_method_2_code 14 = .ok (.istore 5, 2) := by decide +kernel
theorem d_Blend_findIn_16 : decode prog_2_method_2_code 16 = .ok (.iload 5, 2) := by decide +kernel
theorem d_Blend_findIn_18 : decode prog_2_method_2_code 18 = .ok (.iconst (-1), 1) := by decide +kernel
theorem d_Blend_findIn_19 : decode prog_2_method_2_code 19 = .ok (.if_icmp .ne 34, 3) := by decide +kernel
theorem d_Blend_findIn_22 : decode prog_2_method_2_code 22 = .ok (.aload_n 0, 1) := by decide +kernel
theorem d_Blend_findIn_23 : decode prog_2_method_2_code 23 = .ok (.aload_n 1, 1) := by decide +kernel
theorem d_Blend_findIn_24 : decode prog_2_method_2_code 24 = .ok (.iload 4, 2) := by decide +kernel
theorem d_Blend_findIn_26 : decode prog_2_method_2_code 26 = .ok (.invokevirtual 25, 3) := by decide +kernel
theorem d_Blend_findIn_29 : decode prog_2_method_2_code 29 = .ok (.putfield 28, 3) := by decide +kernel
theorem d_Blend_findIn_32 : decode prog_2_method_2_code 32 = .ok (.aload_n 0, 1) := by decide +kernel
theorem d_Blend_findIn_33 : decode prog_2_method_2_code 33 = .ok (.aload_n 0, 1) := by decide +kernel
theorem d_Blend_findIn_34 : decode prog_2_method_2_code 34 = .ok (.getfield 28, 3) := by decide +kernel
theorem d_Blend_findIn_37 : decode prog_2_method_2_code 37 = .ok (.putfield 31, 3) := by decide +kernel
theorem d_Blend_findIn_40 : decode prog_2_method_2_code 40 = .ok (.aload_n 0, 1) := by decide +kernel
theorem d_Blend_findIn_41 : decode prog_2_method_2_code 41 = .ok (.iconst 0, 1) := by decide +kernel
theorem d_Blend_findIn_42 : decode prog_2_method_2_code 42 = .ok (.putfield 34, 3) := by decide +kernel
theorem d_Blend_findIn_45 : decode prog_2_method_2_code 45 = .ok (.aload_n 0, 1) := by decide +kernel
theorem d_Blend_findIn_46 : decode prog_2_method_2_code 46 = .ok (.iconst 1, 1) := by decide +kernel
theorem d_Blend_findIn_47 : decode prog_2_method_2_code 47 = .ok (.putfield 9, 3) := by decide +kernel
theorem d_Blend_findIn_50 : decode prog_2_method_2_code 50 = .ok (.goto 49, 3) := by decide +kernel
theorem d_Blend_findIn_53 : decode prog_2_method_2_code 53 = .ok (.aload_n 1, 1) := by decide +kernel
theorem d_Blend_findIn_54 : decode prog_2_method_2_code 54 = .ok (.iload 5, 2) := by decide +kernel
theorem d_Blend_findIn_56 : decode prog_2_method_2_code 56 = .ok (.invokevirtual 37, 3) := by decide +kernel
theorem d_Blend_findIn_59 : decode prog_2_method_2_code 59 = .ok (.istore 6, 2) := by decide +kernel
theorem d_Blend_findIn_61 : decode prog_2_method_2_code 61 = .ok (.aload_n 0, 1) := by decide +kernel
theorem d_Blend_findIn_62 : decode prog_2_method_2_code 62 = .ok (.iload 5, 2) := by decide +kernel
theorem d_Blend_findIn_64 : decode prog_2_method_2_code 64 = .ok (.putfield 28, 3) := by decide +kernel
theorem d_Blend_findIn_67 : decode prog_2_method_2_code 67 = .ok (.aload_n 0, 1) := by decide +kernel
theorem d_Blend_findIn_68 : decode prog_2_method_2_code 68 = .ok (.iload 5, 2) := by decide +kernel
theorem d_Blend_findIn_70 : decode prog_2_method_2_code 70 = .ok (.iconst 1, 1) := by decide +kernel
theorem d_Blend_findIn_71 : decode prog_2_method_2_code 71 = .ok (.iadd, 1) := by decide +kernel
theorem d_Blend_findIn_72 : decode prog_2_method_2_code 72 = .ok (.putfield 31, 3) := by decide +kernel
theorem d_Blend_findIn_75 : decode prog_2_method_2_code 75 = .ok (.aload_n 0, 1) := by decide +kernel
theorem d_Blend_findIn_76 : decode prog_2_method_2_code 76 = .ok (.iload 4, 2) := by decide +kernel
theorem d_Blend_findIn_78 : decode prog_2_method_2_code 78 = .ok (.aload_n 1, 1) := by decide +kernel
theorem d_Blend_findIn_79 : decode prog_2_method_2_code 79 = .ok (.iload 5, 2) := by decide +kernel
theorem d_Blend_findIn_81 : decode prog_2_method_2_code 81 = .ok (.invokevirtual 40, 3) := by decide +kernel
theorem d_Blend_findIn_84 : decode prog_2_method_2_code 84 = .ok (.isub, 1) := by decide +kernel
theorem d_Blend_findIn_85 : decode prog_2_method_2_code 85 = .ok (.iload 6, 2) := by decide +kernel
theorem d_Blend_findIn_87 : decode prog_2_method_2_code 87 = .ok (.iadd, 1) := by decide +kernel
theorem d_Blend_findIn_88 : decode prog_2_method_2_code 88 = .ok (.putfield 34, 3) := by decide +kernel
theorem d_Blend_findIn_91 : decode prog_2_method_2_code 91 = .ok (.aload_n 0, 1) := by decide +kernel
theorem d_Blend_findIn_92 : decode prog_2_method_2_code 92 = .ok (.iconst 2, 1) := by decide +kernel
theorem d_Blend_findIn_93 : decode prog_2_method_2_code 93 = .ok (.iload 6, 2) := by decide +kernel
theorem d_Blend_findIn_95 : decode prog_2_method_2_code 95 = .ok (.imul, 1) := by decide +kernel
theorem d_Blend_findIn_96 : decode prog_2_method_2_code 96 = .ok (.putfield 9, 3) := by decide +kernel
theorem d_Blend_findIn_99 : decode prog_2_method_2_code 99 = .ok (.return_, 1) := by decide +kernel
theorem d_Borders_heldIn_0 : decode prog_3_method_15_code 0 = .ok (.iload_n 2, 1) := by decide +kernel
theorem d_Borders_heldIn_1 : decode prog_3_method_15_code 1 = .ok (.istore_n 3, 1) := by decide +kernel
theorem d_Borders_heldIn_2 : decode prog_3_method_15_code 2 = .ok (.iconst 0, 1) := by decide +kernel
theorem d_Borders_heldIn_3 : decode prog_3_method_15_code 3 = .ok (.istore 4, 2) := by decide +kernel
theorem d_Borders_heldIn_5 : decode prog_3_method_15_code 5 = .ok (.iconst 0, 1) := by decide +kernel
theorem d_Borders_heldIn_6 : decode prog_3_method_15_code 6 = .ok (.istore 5, 2) := by decide +kernel
theorem d_Borders_heldIn_8 : decode prog_3_method_15_code 8 = .ok (.iload 5, 2) := by decide +kernel
theorem d_Borders_heldIn_10 : decode prog_3_method_15_code 10 = .ok (.aload_n 0, 1) := by decide +kernel
theorem d_Borders_heldIn_11 : decode prog_3_method_15_code 11 = .ok (.getfield 21, 3) := by decide +kernel
theorem d_Borders_heldIn_14 : decode prog_3_method_15_code 14 = .ok (.if_icmp .ge 65, 3) := by decide +kernel
theorem d_Borders_heldIn_17 : decode prog_3_method_15_code 17 = .ok (.aload_n 0, 1) := by decide +kernel
theorem d_Borders_heldIn_18 : decode prog_3_method_15_code 18 = .ok (.getfield 15, 3) := by decide +kernel
theorem d_Borders_heldIn_21 : decode prog_3_method_15_code 21 = .ok (.iload 5, 2) := by decide +kernel
theorem d_Borders_heldIn_23 : decode prog_3_method_15_code 23 = .ok (.iaload, 1) := by decide +kernel
theorem d_Borders_heldIn_24 : decode prog_3_method_15_code 24 = .ok (.ifCond .ne 49, 3) := by decide +kernel
theorem d_Borders_heldIn_27 : decode prog_3_method_15_code 27 = .ok (.iload 4, 2) := by decide +kernel
theorem d_Borders_heldIn_29 : decode prog_3_method_15_code 29 = .ok (.iload_n 1, 1) := by decide +kernel
theorem d_Borders_heldIn_30 : decode prog_3_method_15_code 30 = .ok (.iconst 1, 1) := by decide +kernel
theorem d_Borders_heldIn_31 : decode prog_3_method_15_code 31 = .ok (.isub, 1) := by decide +kernel
theorem d_Borders_heldIn_32 : decode prog_3_method_15_code 32 = .ok (.if_icmp .ne 18, 3) := by decide +kernel
theorem d_Borders_heldIn_35 : decode prog_3_method_15_code 35 = .ok (.iload_n 3, 1) := by decide +kernel
theorem d_Borders_heldIn_36 : decode prog_3_method_15_code 36 = .ok (.aload_n 0, 1) := by decide +kernel
theorem d_Borders_heldIn_37 : decode prog_3_method_15_code 37 = .ok (.getfield 9, 3) := by decide +kernel
theorem d_Borders_heldIn_40 : decode prog_3_method_15_code 40 = .ok (.iload 5, 2) := by decide +kernel
theorem d_Borders_heldIn_42 : decode prog_3_method_15_code 42 = .ok (.iaload, 1) := by decide +kernel
theorem d_Borders_heldIn_43 : decode prog_3_method_15_code 43 = .ok (.invokestatic 39, 3) := by decide +kernel
theorem d_Borders_heldIn_46 : decode prog_3_method_15_code 46 = .ok (.istore_n 3, 1) := by decide +kernel
theorem d_Borders_heldIn_47 : decode prog_3_method_15_code 47 = .ok (.goto 23, 3) := by decide +kernel
theorem d_Borders_heldIn_50 : decode prog_3_method_15_code 50 = .ok (.iload 4, 2) := by decide +kernel
theorem d_Borders_heldIn_52 : decode prog_3_method_15_code 52 = .ok (.iload_n 1, 1) := by decide +kernel
theorem d_Borders_heldIn_53 : decode prog_3_method_15_code 53 = .ok (.if_icmp .ne 17, 3) := by decide +kernel
theorem d_Borders_heldIn_56 : decode prog_3_method_15_code 56 = .ok (.iload_n 3, 1) := by decide +kernel
theorem d_Borders_heldIn_57 : decode prog_3_method_15_code 57 = .ok (.aload_n 0, 1) := by decide +kernel
theorem d_Borders_heldIn_58 : decode prog_3_method_15_code 58 = .ok (.getfield 9, 3) := by decide +kernel
theorem d_Borders_heldIn_61 : decode prog_3_method_15_code 61 = .ok (.iload 5, 2) := by decide +kernel
theorem d_Borders_heldIn_63 : decode prog_3_method_15_code 63 = .ok (.iaload, 1) := by decide +kernel
theorem d_Borders_heldIn_64 : decode prog_3_method_15_code 64 = .ok (.iconst 1, 1) := by decide +kernel
theorem d_Borders_heldIn_65 : decode prog_3_method_15_code 65 = .ok (.isub, 1) := by decide +kernel
theorem d_Borders_heldIn_66 : decode prog_3_method_15_code 66 = .ok (.invokestatic 45, 3) := by decide +kernel
theorem d_Borders_heldIn_69 : decode prog_3_method_15_code 69 = .ok (.istore_n 3, 1) := by decide +kernel
theorem d_Borders_heldIn_70 : decode prog_3_method_15_code 70 = .ok (.iinc 4 1, 3) := by decide +kernel
theorem d_Borders_heldIn_73 : decode prog_3_method_15_code 73 = .ok (.iinc 5 1, 3) := by decide +kernel
theorem d_Borders_heldIn_76 : decode prog_3_method_15_code 76 = .ok (.goto (-68), 3) := by decide +kernel
theorem d_Borders_heldIn_79 : decode prog_3_method_15_code 79 = .ok (.iload_n 3, 1) := by decide +kernel
theorem d_Borders_heldIn_80 : decode prog_3_method_15_code 80 = .ok (.ireturn, 1) := by decide +kernel
theorem d_Borders_blendingAt_0 : decode prog_3_method_16_code 0 = .ok (.iconst 0, 1) := by decide +kernel
theorem d_Borders_blendingAt_1 : decode prog_3_method_16_code 1 = .ok (.istore_n 2, 1) := by decide +kernel
theorem d_Borders_blendingAt_2 : decode prog_3_method_16_code 2 = .ok (.iload_n 2, 1) := by decide +kernel
theorem d_Borders_blendingAt_3 : decode prog_3_method_16_code 3 = .ok (.aload_n 0, 1) := by decide +kernel
theorem d_Borders_blendingAt_4 : decode prog_3_method_16_code 4 = .ok (.getfield 21, 3) := by decide +kernel
theorem d_Borders_blendingAt_7 : decode prog_3_method_16_code 7 = .ok (.if_icmp .ge 55, 3) := by decide +kernel
theorem d_Borders_blendingAt_10 : decode prog_3_method_16_code 10 = .ok (.aload_n 0, 1) := by decide +kernel
theorem d_Borders_blendingAt_11 : decode prog_3_method_16_code 11 = .ok (.getfield 15, 3) := by decide +kernel
theorem d_Borders_blendingAt_14 : decode prog_3_method_16_code 14 = .ok (.iload_n 2, 1) := by decide +kernel
theorem d_Borders_blendingAt_15 : decode prog_3_method_16_code 15 = .ok (.iaload, 1) := by decide +kernel
theorem d_Borders_blendingAt_16 : decode prog_3_method_16_code 16 = .ok (.iconst 1, 1) := by decide +kernel
theorem d_Borders_blendingAt_17 : decode prog_3_method_16_code 17 = .ok (.if_icmp .ne 39, 3) := by decide +kernel
theorem d_Borders_blendingAt_20 : decode prog_3_method_16_code 20 = .ok (.iload_n 1, 1) := by decide +kernel
theorem d_Borders_blendingAt_21 : decode prog_3_method_16_code 21 = .ok (.aload_n 0, 1) := by decide +kernel
theorem d_Borders_blendingAt_22 : decode prog_3_method_16_code 22 = .ok (.getfield 9, 3) := by decide +kernel
theorem d_Borders_blendingAt_25 : decode prog_3_method_16_code 25 = .ok (.iload_n 2, 1) := by decide +kernel
theorem d_Borders_blendingAt_26 : decode prog_3_method_16_code 26 = .ok (.iaload, 1) := by decide +kernel
theorem d_Borders_blendingAt_27 : decode prog_3_method_16_code 27 = .ok (.aload_n 0, 1) := by decide +kernel
theorem d_Borders_blendingAt_28 : decode prog_3_method_16_code 28 = .ok (.getfield 18, 3) := by decide +kernel
theorem d_Borders_blendingAt_31 : decode prog_3_method_16_code 31 = .ok (.iload_n 2, 1) := by decide +kernel
theorem d_Borders_blendingAt_32 : decode prog_3_method_16_code 32 = .ok (.iaload, 1) := by decide +kernel
theorem d_Borders_blendingAt_33 : decode prog_3_method_16_code 33 = .ok (.isub, 1) := by decide +kernel
theorem d_Borders_blendingAt_34 : decode prog_3_method_16_code 34 = .ok (.if_icmp .lt 22, 3) := by decide +kernel
theorem d_Borders_blendingAt_37 : decode prog_3_method_16_code 37 = .ok (.iload_n 1, 1) := by decide +kernel
theorem d_Borders_blendingAt_38 : decode prog_3_method_16_code 38 = .ok (.aload_n 0, 1) := by decide +kernel
theorem d_Borders_blendingAt_39 : decode prog_3_method_16_code 39 = .ok (.getfield 9, 3) := by decide +kernel
theorem d_Borders_blendingAt_42 : decode prog_3_method_16_code 42 = .ok (.iload_n 2, 1) := by decide +kernel
theorem d_Borders_blendingAt_43 : decode prog_3_method_16_code 43 = .ok (.iaload, 1) := by decide +kernel
theorem d_Borders_blendingAt_44 : decode prog_3_method_16_code 44 = .ok (.aload_n 0, 1) := by decide +kernel
theorem d_Borders_blendingAt_45 : decode prog_3_method_16_code 45 = .ok (.getfield 18, 3) := by decide +kernel
theorem d_Borders_blendingAt_48 : decode prog_3_method_16_code 48 = .ok (.iload_n 2, 1) := by decide +kernel
theorem d_Borders_blendingAt_49 : decode prog_3_method_16_code 49 = .ok (.iaload, 1) := by decide +kernel
theorem d_Borders_blendingAt_50 : decode prog_3_method_16_code 50 = .ok (.iadd, 1) := by decide +kernel
theorem d_Borders_blendingAt_51 : decode prog_3_method_16_code 51 = .ok (.if_icmp .gt 5, 3) := by decide +kernel
theorem d_Borders_blendingAt_54 : decode prog_3_method_16_code 54 = .ok (.iload_n 2, 1) := by decide +kernel
theorem d_Borders_blendingAt_55 : decode prog_3_method_16_code 55 = .ok (.ireturn, 1) := by decide +kernel
theorem d_Borders_blendingAt_56 : decode prog_3_method_16_code 56 = .ok (.iinc 2 1, 3) := by decide +kernel
theorem d_Borders_blendingAt_59 : decode prog_3_method_16_code 59 = .ok (.goto (-57), 3) := by decide +kernel
theorem d_Borders_blendingAt_62 : decode prog_3_method_16_code 62 = .ok (.iconst (-1), 1) := by decide +kernel
theorem d_Borders_blendingAt_63 : decode prog_3_method_16_code 63 = .ok (.ireturn, 1) := by decide +kernel
theorem d_Borders_reachOf_0 : decode prog_3_method_7_code 0 = .ok (.aload_n 0, 1) := by decide +kernel
theorem d_Borders_reachOf_1 : decode prog_3_method_7_code 1 = .ok (.iload_n 1, 1) := by decide +kernel
theorem d_Borders_reachOf_2 : decode prog_3_method_7_code 2 = .ok (.invokevirtual 31, 3) := by decide +kernel
theorem d_Borders_reachOf_5 : decode prog_3_method_7_code 5 = .ok (.ifCond .eq 12, 3) := by decide +kernel
theorem d_Borders_reachOf_8 : decode prog_3_method_7_code 8 = .ok (.aload_n 0, 1) := by decide +kernel
theorem d_Borders_reachOf_9 : decode prog_3_method_7_code 9 = .ok (.getfield 18, 3) := by decide +kernel
theorem d_Borders_reachOf_12 : decode prog_3_method_7_code 12 = .ok (.iload_n 1, 1) := by decide +kernel
theorem d_Borders_reachOf_13 : decode prog_3_method_7_code 13 = .ok (.iaload, 1) := by decide +kernel
theorem d_Borders_reachOf_14 : decode prog_3_method_7_code 14 = .ok (.goto 4, 3) := by decide +kernel
theorem d_Borders_reachOf_17 : decode prog_3_method_7_code 17 = .ok (.iconst 0, 1) := by decide +kernel
theorem d_Borders_reachOf_18 : decode prog_3_method_7_code 18 = .ok (.ireturn, 1) := by decide +kernel
theorem d_Borders_has_0 : decode prog_3_method_3_code 0 = .ok (.iload_n 1, 1) := by decide +kernel
theorem d_Borders_has_1 : decode prog_3_method_3_code 1 = .ok (.ifCond .lt 15, 3) := by decide +kernel
theorem d_Borders_has_4 : decode prog_3_method_3_code 4 = .ok (.iload_n 1, 1) := by decide +kernel
theorem d_Borders_has_5 : decode prog_3_method_3_code 5 = .ok (.aload_n 0, 1) := by decide +kernel
theorem d_Borders_has_6 : decode prog_3_method_3_code 6 = .ok (.getfield 21, 3) := by decide +kernel
theorem d_Borders_has_9 : decode prog_3_method_3_code 9 = .ok (.if_icmp .ge 7, 3) := by decide +kernel
theorem d_Borders_has_12 : decode prog_3_method_3_code 12 = .ok (.iconst 1, 1) := by decide +kernel
theorem d_Borders_has_13 : decode prog_3_method_3_code 13 = .ok (.goto 4, 3) := by decide +kernel
theorem d_Borders_has_16 : decode prog_3_method_3_code 16 = .ok (.iconst 0, 1) := by decide +kernel
theorem d_Borders_has_17 : decode prog_3_method_3_code 17 = .ok (.ireturn, 1) := by decide +kernel
theorem d_Borders_positionOf_0 : decode prog_3_method_5_code 0 = .ok (.aload_n 0, 1) := by decide +kernel
theorem d_Borders_positionOf_1 : decode prog_3_method_5_code 1 = .ok (.iload_n 1, 1) := by decide +kernel
theorem d_Borders_positionOf_2 : decode prog_3_method_5_code 2 = .ok (.invokevirtual 31, 3) := by decide +kernel
theorem d_Borders_positionOf_5 : decode prog_3_method_5_code 5 = .ok (.ifCond .eq 12, 3) := by decide +kernel
theorem d_Borders_positionOf_8 : decode prog_3_method_5_code 8 = .ok (.aload_n 0, 1) := by decide +kernel
theorem d_Borders_positionOf_9 : decode prog_3_method_5_code 9 = .ok (.getfield 9, 3) := by decide +kernel
theorem d_Borders_positionOf_12 : decode prog_3_method_5_code 12 = .ok (.iload_n 1, 1) := by decide +kernel
theorem d_Borders_positionOf_13 : decode prog_3_method_5_code 13 = .ok (.iaload, 1) := by decide +kernel
theorem d_Borders_positionOf_14 : decode prog_3_method_5_code 14 = .ok (.goto 4, 3) := by decide +kernel
theorem d_Borders_positionOf_17 : decode prog_3_method_5_code 17 = .ok (.iconst 0, 1) := by decide +kernel
theorem d_Borders_positionOf_18 : decode prog_3_method_5_code 18 = .ok (.ireturn, 1) := by decide +kernel
theorem d_GT_noteValues_0 : decode prog_1_method_47_code 0 = .ok (.iconst 0, 1) := by decide +kernel
theorem d_GT_noteValues_1 : decode prog_1_method_47_code 1 = .ok (.istore_n 2, 1) := by decide +kernel
theorem d_GT_noteValues_2 : decode prog_1_method_47_code 2 = .ok (.iload_n 2, 1) := by decide +kernel
theorem d_GT_noteValues_3 : decode prog_1_method_47_code 3 = .ok (.aload_n 1, 1) := by decide +kernel
theorem d_GT_noteValues_4 : decode prog_1_method_47_code 4 = .ok (.arraylength, 1) := by decide +kernel
theorem d_GT_noteValues_5 : decode prog_1_method_47_code 5 = .ok (.if_icmp .ge 17, 3) := by decide +kernel
theorem d_GT_noteValues_8 : decode prog_1_method_47_code 8 = .ok (.aload_n 1, 1) := by decide +kernel
theorem d_GT_noteValues_9 : decode prog_1_method_47_code 9 = .ok (.iload_n 2, 1) := by decide +kernel
theorem d_GT_noteValues_10 : decode prog_1_method_47_code 10 = .ok (.aload_n 0, 1) := by decide +kernel
theorem d_GT_noteValues_11 : decode prog_1_method_47_code 11 = .ok (.iload_n 2, 1) := by decide +kernel
theorem d_GT_noteValues_12 : decode prog_1_method_47_code 12 = .ok (.invokevirtual 295, 3) := by decide +kernel
theorem d_GT_noteValues_15 : decode prog_1_method_47_code 15 = .ok (.iastore, 1) := by decide +kernel
theorem d_GT_noteValues_16 : decode prog_1_method_47_code 16 = .ok (.iinc 2 1, 3) := by decide +kernel
theorem d_GT_noteValues_19 : decode prog_1_method_47_code 19 = .ok (.goto (-17), 3) := by decide +kernel
theorem d_GT_noteValues_22 : decode prog_1_method_47_code 22 = .ok (.return_, 1) := by decide +kernel
theorem d_GT_blendedValue_0 : decode prog_1_method_46_code 0 = .ok (.aload_n 0, 1) := by decide +kernel
theorem d_GT_blendedValue_1 : decode prog_1_method_46_code 1 = .ok (.getfield 47, 3) := by decide +kernel
theorem d_GT_blendedValue_4 : decode prog_1_method_46_code 4 = .ok (.getfield 280, 3) := by decide +kernel
theorem d_GT_blendedValue_7 : decode prog_1_method_46_code 7 = .ok (.aload_n 0, 1) := by decide +kernel
theorem d_GT_blendedValue_8 : decode prog_1_method_46_code 8 = .ok (.getfield 51, 3) := by decide +kernel
theorem d_GT_blendedValue_11 : decode prog_1_method_46_code 11 = .ok (.getfield 280, 3) := by decide +kernel
theorem d_GT_blendedValue_14 : decode prog_1_method_46_code 14 = .ok (.imul, 1) := by decide +kernel
theorem d_GT_blendedValue_15 : decode prog_1_method_46_code 15 = .ok (.istore_n 2, 1) := by decide +kernel
theorem d_GT_blendedValue_16 : decode prog_1_method_46_code 16 = .ok (.iload_n 2, 1) := by decide +kernel
theorem d_GT_blendedValue_17 : decode prog_1_method_46_code 17 = .ok (.ifCond .le 27, 3) := by decide +kernel
theorem d_GT_blendedValue_20 : decode prog_1_method_46_code 20 = .ok (.aload_n 0, 1) := by decide +kernel
theorem d_GT_blendedValue_21 : decode prog_1_method_46_code 21 = .ok (.getfield 12, 3) := by decide +kernel
theorem d_GT_blendedValue_24 : decode prog_1_method_46_code 24 = .ok (.getfield 77, 3) := by decide +kernel
theorem d_GT_blendedValue_27 : decode prog_1_method_46_code 27 = .ok (.aload_n 0, 1) := by decide +kernel
theorem d_GT_blendedValue_28 : decode prog_1_method_46_code 28 = .ok (.getfield 47, 3) := by decide +kernel
theorem d_GT_blendedValue_31 : decode prog_1_method_46_code 31 = .ok (.aload_n 0, 1) := by decide +kernel
theorem d_GT_blendedValue_32 : decode prog_1_method_46_code 32 = .ok (.getfield 51, 3) := by decide +kernel
theorem d_GT_blendedValue_35 : decode prog_1_method_46_code 35 = .ok (.iload_n 1, 1) := by decide +kernel
theorem d_GT_blendedValue_36 : decode prog_1_method_46_code 36 = .ok (.invokevirtual 298, 3) := by decide +kernel
theorem d_GT_blendedValue_39 : decode prog_1_method_46_code 39 = .ok (.iload_n 2, 1) := by decide +kernel
theorem d_GT_blendedValue_40 : decode prog_1_method_46_code 40 = .ok (.idiv, 1) := by decide +kernel
theorem d_GT_blendedValue_41 : decode prog_1_method_46_code 41 = .ok (.goto 4, 3) := by decide +kernel
theorem d_GT_blendedValue_44 : decode prog_1_method_46_code 44 = .ok (.iconst 0, 1) := by decide +kernel
theorem d_GT_blendedValue_45 : decode prog_1_method_46_code 45 = .ok (.ireturn, 1) := by decide +kernel
theorem d_Arr_fill_0 : decode prog_13_method_103_code 0 = .ok (.iconst 0, 1) := by decide +kernel
theorem d_Arr_fill_1 : decode prog_13_method_103_code 1 = .ok (.istore_n 2, 1) := by decide +kernel
theorem d_Arr_fill_2 : decode prog_13_method_103_code 2 = .ok (.aload_n 0, 1) := by decide +kernel
theorem d_Arr_fill_3 : decode prog_13_method_103_code 3 = .ok (.arraylength, 1) := by decide +kernel
theorem d_Arr_fill_4 : decode prog_13_method_103_code 4 = .ok (.istore_n 3, 1) := by decide +kernel
theorem d_Arr_fill_5 : decode prog_13_method_103_code 5 = .ok (.iload_n 2, 1) := by decide +kernel
theorem d_Arr_fill_6 : decode prog_13_method_103_code 6 = .ok (.iload_n 3, 1) := by decide +kernel
theorem d_Arr_fill_7 : decode prog_13_method_103_code 7 = .ok (.if_icmp .ge 13, 3) := by decide +kernel
theorem d_Arr_fill_10 : decode prog_13_method_103_code 10 = .ok (.aload_n 0, 1) := by decide +kernel
theorem d_Arr_fill_11 : decode prog_13_method_103_code 11 = .ok (.iload_n 2, 1) := by decide +kernel
theorem d_Arr_fill_12 : decode prog_13_method_103_code 12 = .ok (.iload_n 1, 1) := by decide +kernel
theorem d_Arr_fill_13 : decode prog_13_method_103_code 13 = .ok (.iastore, 1) := by decide +kernel
theorem d_Arr_fill_14 : decode prog_13_method_103_code 14 = .ok (.iinc 2 1, 3) := by decide +kernel
theorem d_Arr_fill_17 : decode prog_13_method_103_code 17 = .ok (.goto (-12), 3) := by decide +kernel
theorem d_Arr_fill_20 : decode prog_13_method_103_code 20 = .ok (.return_, 1) := by decide +kernel
theorem d_Math_abs_0 : decode prog_11_method_59_code 0 = .ok (.iload_n 0, 1) := by decide +kernel
theorem d_Math_abs_1 : decode prog_11_method_59_code 1 = .ok (.ifCond .ge 8, 3) := by decide +kernel
theorem d_Math_abs_4 : decode prog_11_method_59_code 4 = .ok (.iload_n 0, 1) := by decide +kernel
theorem d_Math_abs_5 : decode prog_11_method_59_code 5 = .ok (.ineg, 1) := by decide +kernel
theorem d_Math_abs_6 : decode prog_11_method_59_code 6 = .ok (.goto 4, 3) := by decide +kernel
theorem d_Math_abs_9 : decode prog_11_method_59_code 9 = .ok (.iload_n 0, 1) := by decide +kernel
theorem d_Math_abs_10 : decode prog_11_method_59_code 10 = .ok (.ireturn, 1) := by decide +kernel
theorem d_Math_max_0 : decode prog_11_method_65_code 0 = .ok (.iload_n 0, 1) := by decide +kernel
theorem d_Math_max_1 : decode prog_11_method_65_code 1 = .ok (.iload_n 1, 1) := by decide +kernel
theorem d_Math_max_2 : decode prog_11_method_65_code 2 = .ok (.if_icmp .lt 7, 3) := by decide +kernel
theorem d_Math_max_5 : decode prog_11_method_65_code 5 = .ok (.iload_n 0, 1) := by decide +kernel
theorem d_Math_max_6 : decode prog_11_method_65_code 6 = .ok (.goto 4, 3) := by decide +kernel
theorem d_Math_max_9 : decode prog_11_method_65_code 9 = .ok (.iload_n 1, 1) := by decide +kernel
theorem d_Math_max_10 : decode prog_11_method_65_code 10 = .ok (.ireturn, 1) := by decide +kernel
theorem d_Math_min_0 : decode prog_11_method_69_code 0 = .ok (.iload_n 0, 1) := by decide +kernel
theorem d_Math_min_1 : decode prog_11_method_69_code 1 = .ok (.iload_n 1, 1) := by decide +kernel
theorem d_Math_min_2 : decode prog_11_method_69_code 2 = .ok (.if_icmp .gt 7, 3) := by decide +kernel
theorem d_Math_min_5 : decode prog_11_method_69_code 5 = .ok (.iload_n 0, 1) := by decide +kernel
theorem d_Math_min_6 : decode prog_11_method_69_code 6 = .ok (.goto 4, 3) := by decide +kernel
theorem d_Math_min_9 : decode prog_11_method_69_code 9 = .ok (.iload_n 1, 1) := by decide +kernel
theorem d_Math_min_10 : decode prog_11_method_69_code 10 = .ok (.ireturn, 1) := by decide +kernel
theorem d_Math_floorMod_0 : decode prog_11_method_50_code 0 = .ok (.iload_n 0, 1) := by decide +kernel
theorem d_Math_floorMod_1 : decode prog_11_method_50_code 1 = .ok (.iload_n 1, 1) := by decide +kernel
theorem d_Math_floorMod_2 : decode prog_11_method_50_code 2 = .ok (.irem, 1) := by decide +kernel
theorem d_Math_floorMod_3 : decode prog_11_method_50_code 3 = .ok (.istore_n 2, 1) := by decide +kernel
theorem d_Math_floorMod_4 : decode prog_11_method_50_code 4 = .ok (.iload_n 0, 1) := by decide +kernel
theorem d_Math_floorMod_5 : decode prog_11_method_50_code 5 = .ok (.iload_n 1, 1) := by decide +kernel
theorem d_Math_floorMod_6 : decode prog_11_method_50_code 6 = .ok (.ixor, 1) := by decide +kernel
theorem d_Math_floorMod_7 : decode prog_11_method_50_code 7 = .ok (.ifCond .ge 11, 3) := by decide +kernel
theorem d_Math_floorMod_10 : decode prog_11_method_50_code 10 = .ok (.iload_n 2, 1) := by decide +kernel
theorem d_Math_floorMod_11 : decode prog_11_method_50_code 11 = .ok (.ifCond .eq 7, 3) := by decide +kernel
theorem d_Math_floorMod_14 : decode prog_11_method_50_code 14 = .ok (.iload_n 2, 1) := by decide +kernel
theorem d_Math_floorMod_15 : decode prog_11_method_50_code 15 = .ok (.iload_n 1, 1) := by decide +kernel
theorem d_Math_floorMod_16 : decode prog_11_method_50_code 16 = .ok (.iadd, 1) := by decide +kernel
theorem d_Math_floorMod_17 : decode prog_11_method_50_code 17 = .ok (.ireturn, 1) := by decide +kernel
theorem d_Math_floorMod_18 : decode prog_11_method_50_code 18 = .ok (.iload_n 2, 1) := by decide +kernel
theorem d_Math_floorMod_19 : decode prog_11_method_50_code 19 = .ok (.ireturn, 1) := by decide +kernel
