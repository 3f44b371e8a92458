-- what the bytes say, instruction by instruction
theorem d_Mo_clearRegions_0 : decode prog_10_method_2_code 0 = .ok (.iconst 0, 1) := by decide +kernel
theorem d_Mo_clearRegions_1 : decode prog_10_method_2_code 1 = .ok (.istore_n 1, 1) := by decide +kernel
theorem d_Mo_clearRegions_2 : decode prog_10_method_2_code 2 = .ok (.iload_n 1, 1) := by decide +kernel
theorem d_Mo_clearRegions_3 : decode prog_10_method_2_code 3 = .ok (.bipush 49, 2) := by decide +kernel
theorem d_Mo_clearRegions_5 : decode prog_10_method_2_code 5 = .ok (.if_icmp .ge 50, 3) := by decide +kernel
theorem d_Mo_clearRegions_8 : decode prog_10_method_2_code 8 = .ok (.iconst 0, 1) := by decide +kernel
theorem d_Mo_clearRegions_9 : decode prog_10_method_2_code 9 = .ok (.istore_n 2, 1) := by decide +kernel
theorem d_Mo_clearRegions_10 : decode prog_10_method_2_code 10 = .ok (.iload_n 2, 1) := by decide +kernel
theorem d_Mo_clearRegions_11 : decode prog_10_method_2_code 11 = .ok (.iconst 3, 1) := by decide +kernel
theorem d_Mo_clearRegions_12 : decode prog_10_method_2_code 12 = .ok (.if_icmp .ge 23, 3) := by decide +kernel
theorem d_Mo_clearRegions_15 : decode prog_10_method_2_code 15 = .ok (.aload_n 0, 1) := by decide +kernel
theorem d_Mo_clearRegions_16 : decode prog_10_method_2_code 16 = .ok (.getfield 7, 3) := by decide +kernel
theorem d_Mo_clearRegions_19 : decode prog_10_method_2_code 19 = .ok (.bipush 38, 2) := by decide +kernel
theorem d_Mo_clearRegions_21 : decode prog_10_method_2_code 21 = .ok (.iconst 4, 1) := by decide +kernel
theorem d_Mo_clearRegions_22 : decode prog_10_method_2_code 22 = .ok (.iload_n 1, 1) := by decide +kernel
theorem d_Mo_clearRegions_23 : decode prog_10_method_2_code 23 = .ok (.imul, 1) := by decide +kernel
theorem d_Mo_clearRegions_24 : decode prog_10_method_2_code 24 = .ok (.iadd, 1) := by decide +kernel
theorem d_Mo_clearRegions_25 : decode prog_10_method_2_code 25 = .ok (.iload_n 2, 1) := by decide +kernel
theorem d_Mo_clearRegions_26 : decode prog_10_method_2_code 26 = .ok (.iadd, 1) := by decide +kernel
theorem d_Mo_clearRegions_27 : decode prog_10_method_2_code 27 = .ok (.iconst 0, 1) := by decide +kernel
theorem d_Mo_clearRegions_28 : decode prog_10_method_2_code 28 = .ok (.iastore, 1) := by decide +kernel
theorem d_Mo_clearRegions_29 : decode prog_10_method_2_code 29 = .ok (.iinc 2 1, 3) := by decide +kernel
theorem d_Mo_clearRegions_32 : decode prog_10_method_2_code 32 = .ok (.goto (-22), 3) := by decide +kernel
theorem d_Mo_clearRegions_35 : decode prog_10_method_2_code 35 = .ok (.aload_n 0, 1) := by decide +kernel
theorem d_Mo_clearRegions_36 : decode prog_10_method_2_code 36 = .ok (.getfield 7, 3) := by decide +kernel
theorem d_Mo_clearRegions_39 : decode prog_10_method_2_code 39 = .ok (.bipush 38, 2) := by decide +kernel
theorem d_Mo_clearRegions_41 : decode prog_10_method_2_code 41 = .ok (.iconst 4, 1) := by decide +kernel
theorem d_Mo_clearRegions_42 : decode prog_10_method_2_code 42 = .ok (.iload_n 1, 1) := by decide +kernel
theorem d_Mo_clearRegions_43 : decode prog_10_method_2_code 43 = .ok (.imul, 1) := by decide +kernel
theorem d_Mo_clearRegions_44 : decode prog_10_method_2_code 44 = .ok (.iadd, 1) := by decide +kernel
theorem d_Mo_clearRegions_45 : decode prog_10_method_2_code 45 = .ok (.iconst 3, 1) := by decide +kernel
theorem d_Mo_clearRegions_46 : decode prog_10_method_2_code 46 = .ok (.iadd, 1) := by decide +kernel
theorem d_Mo_clearRegions_47 : decode prog_10_method_2_code 47 = .ok (.iconst (-1), 1) := by decide +kernel
theorem d_Mo_clearRegions_48 : decode prog_10_method_2_code 48 = .ok (.iastore, 1) := by decide +kernel
theorem d_Mo_clearRegions_49 : decode prog_10_method_2_code 49 = .ok (.iinc 1 1, 3) := by decide +kernel
theorem d_Mo_clearRegions_52 : decode prog_10_method_2_code 52 = .ok (.goto (-50), 3) := by decide +kernel
theorem d_Mo_clearRegions_55 : decode prog_10_method_2_code 55 = .ok (.return_, 1) := by decide +kernel
theorem d_Mo_addBorder_0 : decode prog_10_method_36_code 0 = .ok (.aload_n 0, 1) := by decide +kernel
theorem d_Mo_addBorder_1 : decode prog_10_method_36_code 1 = .ok (.iconst 0, 1) := by decide +kernel
theorem d_Mo_addBorder_2 : decode prog_10_method_36_code 2 = .ok (.putfield 37, 3) := by decide +kernel
theorem d_Mo_addBorder_5 : decode prog_10_method_36_code 5 = .ok (.iload_n 1, 1) := by decide +kernel
theorem d_Mo_addBorder_6 : decode prog_10_method_36_code 6 = .ok (.invokestatic 51, 3) := by decide +kernel
theorem d_Mo_addBorder_9 : decode prog_10_method_36_code 9 = .ok (.ifCond .eq 32, 3) := by decide +kernel
theorem d_Mo_addBorder_12 : decode prog_10_method_36_code 12 = .ok (.iload_n 2, 1) := by decide +kernel
theorem d_Mo_addBorder_13 : decode prog_10_method_36_code 13 = .ok (.iconst 1, 1) := by decide +kernel
theorem d_Mo_addBorder_14 : decode prog_10_method_36_code 14 = .ok (.sipush 999, 3) := by decide +kernel
theorem d_Mo_addBorder_17 : decode prog_10_method_36_code 17 = .ok (.invokestatic 47, 3) := by decide +kernel
theorem d_Mo_addBorder_20 : decode prog_10_method_36_code 20 = .ok (.ifCond .eq 21, 3) := by decide +kernel
theorem d_Mo_addBorder_23 : decode prog_10_method_36_code 23 = .ok (.iload_n 3, 1) := by decide +kernel
theorem d_Mo_addBorder_24 : decode prog_10_method_36_code 24 = .ok (.iload 4, 2) := by decide +kernel
theorem d_Mo_addBorder_26 : decode prog_10_method_36_code 26 = .ok (.invokestatic 105, 3) := by decide +kernel
theorem d_Mo_addBorder_29 : decode prog_10_method_36_code 29 = .ok (.ifCond .eq 12, 3) := by decide +kernel
theorem d_Mo_addBorder_32 : decode prog_10_method_36_code 32 = .ok (.iload_n 2, 1) := by decide +kernel
theorem d_Mo_addBorder_33 : decode prog_10_method_36_code 33 = .ok (.iload 4, 2) := by decide +kernel
theorem d_Mo_addBorder_35 : decode prog_10_method_36_code 35 = .ok (.invokestatic 109, 3) := by decide +kernel
theorem d_Mo_addBorder_38 : decode prog_10_method_36_code 38 = .ok (.ifCond .ne 6, 3) := by decide +kernel
theorem d_Mo_addBorder_41 : decode prog_10_method_36_code 41 = .ok (.ldc 112, 2) := by decide +kernel
theorem d_Mo_addBorder_43 : decode prog_10_method_36_code 43 = .ok (.ireturn, 1) := by decide +kernel
theorem d_Mo_addBorder_44 : decode prog_10_method_36_code 44 = .ok (.aload_n 0, 1) := by decide +kernel
theorem d_Mo_addBorder_45 : decode prog_10_method_36_code 45 = .ok (.iload_n 1, 1) := by decide +kernel
theorem d_Mo_addBorder_46 : decode prog_10_method_36_code 46 = .ok (.iload_n 2, 1) := by decide +kernel
theorem d_Mo_addBorder_47 : decode prog_10_method_36_code 47 = .ok (.iload 4, 2) := by decide +kernel
theorem d_Mo_addBorder_49 : decode prog_10_method_36_code 49 = .ok (.ldc 67, 2) := by decide +kernel
theorem d_Mo_addBorder_51 : decode prog_10_method_36_code 51 = .ok (.invokevirtual 113, 3) := by decide +kernel
theorem d_Mo_addBorder_54 : decode prog_10_method_36_code 54 = .ok (.ifCond .eq 6, 3) := by decide +kernel
theorem d_Mo_addBorder_57 : decode prog_10_method_36_code 57 = .ok (.ldc 117, 2) := by decide +kernel
theorem d_Mo_addBorder_59 : decode prog_10_method_36_code 59 = .ok (.ireturn, 1) := by decide +kernel
theorem d_Mo_addBorder_60 : decode prog_10_method_36_code 60 = .ok (.aload_n 0, 1) := by decide +kernel
theorem d_Mo_addBorder_61 : decode prog_10_method_36_code 61 = .ok (.iload_n 1, 1) := by decide +kernel
theorem d_Mo_addBorder_62 : decode prog_10_method_36_code 62 = .ok (.invokevirtual 55, 3) := by decide +kernel
theorem d_Mo_addBorder_65 : decode prog_10_method_36_code 65 = .ok (.bipush 6, 2) := by decide +kernel
theorem d_Mo_addBorder_67 : decode prog_10_method_36_code 67 = .ok (.if_icmp .ne 6, 3) := by decide +kernel
theorem d_Mo_addBorder_70 : decode prog_10_method_36_code 70 = .ok (.ldc 118, 2) := by decide +kernel
theorem d_Mo_addBorder_72 : decode prog_10_method_36_code 72 = .ok (.ireturn, 1) := by decide +kernel
theorem d_Mo_addBorder_73 : decode prog_10_method_36_code 73 = .ok (.aload_n 0, 1) := by decide +kernel
theorem d_Mo_addBorder_74 : decode prog_10_method_36_code 74 = .ok (.invokevirtual 119, 3) := by decide +kernel
theorem d_Mo_addBorder_77 : decode prog_10_method_36_code 77 = .ok (.aload_n 0, 1) := by decide +kernel
theorem d_Mo_addBorder_78 : decode prog_10_method_36_code 78 = .ok (.invokevirtual 99, 3) := by decide +kernel
theorem d_Mo_addBorder_81 : decode prog_10_method_36_code 81 = .ok (.istore 5, 2) := by decide +kernel
theorem d_Mo_addBorder_83 : decode prog_10_method_36_code 83 = .ok (.aload_n 0, 1) := by decide +kernel
theorem d_Mo_addBorder_84 : decode prog_10_method_36_code 84 = .ok (.iload_n 1, 1) := by decide +kernel
theorem d_Mo_addBorder_85 : decode prog_10_method_36_code 85 = .ok (.iload_n 2, 1) := by decide +kernel
theorem d_Mo_addBorder_86 : decode prog_10_method_36_code 86 = .ok (.iload_n 3, 1) := by decide +kernel
theorem d_Mo_addBorder_87 : decode prog_10_method_36_code 87 = .ok (.iload 4, 2) := by decide +kernel
theorem d_Mo_addBorder_89 : decode prog_10_method_36_code 89 = .ok (.invokevirtual 122, 3) := by decide +kernel
theorem d_Mo_addBorder_92 : decode prog_10_method_36_code 92 = .ok (.istore 6, 2) := by decide +kernel
theorem d_Mo_addBorder_94 : decode prog_10_method_36_code 94 = .ok (.aload_n 0, 1) := by decide +kernel
theorem d_Mo_addBorder_95 : decode prog_10_method_36_code 95 = .ok (.iload 5, 2) := by decide +kernel
theorem d_Mo_addBorder_97 : decode prog_10_method_36_code 97 = .ok (.invokevirtual 126, 3) := by decide +kernel
theorem d_Mo_addBorder_100 : decode prog_10_method_36_code 100 = .ok (.iload 6, 2) := by decide +kernel
theorem d_Mo_addBorder_102 : decode prog_10_method_36_code 102 = .ok (.ireturn, 1) := by decide +kernel
theorem d_Mo_isAxis_0 : decode prog_10_method_10_code 0 = .ok (.iload_n 0, 1) := by decide +kernel
theorem d_Mo_isAxis_1 : decode prog_10_method_10_code 1 = .ok (.iconst 0, 1) := by decide +kernel
theorem d_Mo_isAxis_2 : decode prog_10_method_10_code 2 = .ok (.iconst 1, 1) := by decide +kernel
theorem d_Mo_isAxis_3 : decode prog_10_method_10_code 3 = .ok (.invokestatic 47, 3) := by decide +kernel
theorem d_Mo_isAxis_6 : decode prog_10_method_10_code 6 = .ok (.ireturn, 1) := by decide +kernel
theorem d_Mo_in_0 : decode prog_10_method_4_code 0 = .ok (.iload_n 0, 1) := by decide +kernel
theorem d_Mo_in_1 : decode prog_10_method_4_code 1 = .ok (.iload_n 1, 1) := by decide +kernel
theorem d_Mo_in_2 : decode prog_10_method_4_code 2 = .ok (.if_icmp .lt 12, 3) := by decide +kernel
theorem d_Mo_in_5 : decode prog_10_method_4_code 5 = .ok (.iload_n 0, 1) := by decide +kernel
theorem d_Mo_in_6 : decode prog_10_method_4_code 6 = .ok (.iload_n 2, 1) := by decide +kernel
theorem d_Mo_in_7 : decode prog_10_method_4_code 7 = .ok (.if_icmp .gt 7, 3) := by decide +kernel
theorem d_Mo_in_10 : decode prog_10_method_4_code 10 = .ok (.iconst 1, 1) := by decide +kernel
theorem d_Mo_in_11 : decode prog_10_method_4_code 11 = .ok (.goto 4, 3) := by decide +kernel
theorem d_Mo_in_14 : decode prog_10_method_4_code 14 = .ok (.iconst 0, 1) := by decide +kernel
theorem d_Mo_in_15 : decode prog_10_method_4_code 15 = .ok (.ireturn, 1) := by decide +kernel
theorem d_Mo_isReach_0 : decode prog_10_method_29_code 0 = .ok (.iload_n 0, 1) := by decide +kernel
theorem d_Mo_isReach_1 : decode prog_10_method_29_code 1 = .ok (.iconst 0, 1) := by decide +kernel
theorem d_Mo_isReach_2 : decode prog_10_method_29_code 2 = .ok (.iconst 1, 1) := by decide +kernel
theorem d_Mo_isReach_3 : decode prog_10_method_29_code 3 = .ok (.invokestatic 47, 3) := by decide +kernel
theorem d_Mo_isReach_6 : decode prog_10_method_29_code 6 = .ok (.ifCond .eq 17, 3) := by decide +kernel
theorem d_Mo_isReach_9 : decode prog_10_method_29_code 9 = .ok (.iload_n 1, 1) := by decide +kernel
theorem d_Mo_isReach_10 : decode prog_10_method_29_code 10 = .ok (.iload_n 0, 1) := by decide +kernel
theorem d_Mo_isReach_11 : decode prog_10_method_29_code 11 = .ok (.bipush 100, 2) := by decide +kernel
theorem d_Mo_isReach_13 : decode prog_10_method_29_code 13 = .ok (.invokestatic 47, 3) := by decide +kernel
theorem d_Mo_isReach_16 : decode prog_10_method_29_code 16 = .ok (.ifCond .eq 7, 3) := by decide +kernel
theorem d_Mo_isReach_19 : decode prog_10_method_29_code 19 = .ok (.iconst 1, 1) := by decide +kernel
theorem d_Mo_isReach_20 : decode prog_10_method_29_code 20 = .ok (.goto 4, 3) := by decide +kernel
theorem d_Mo_isReach_23 : decode prog_10_method_29_code 23 = .ok (.iconst 0, 1) := by decide +kernel
theorem d_Mo_isReach_24 : decode prog_10_method_29_code 24 = .ok (.ireturn, 1) := by decide +kernel
theorem d_Mo_isInside_0 : decode prog_10_method_30_code 0 = .ok (.iload_n 0, 1) := by decide +kernel
theorem d_Mo_isInside_1 : decode prog_10_method_30_code 1 = .ok (.iload_n 1, 1) := by decide +kernel
theorem d_Mo_isInside_2 : decode prog_10_method_30_code 2 = .ok (.isub, 1) := by decide +kernel
theorem d_Mo_isInside_3 : decode prog_10_method_30_code 3 = .ok (.ifCond .lt 16, 3) := by decide +kernel
theorem d_Mo_isInside_6 : decode prog_10_method_30_code 6 = .ok (.iload_n 0, 1) := by decide +kernel
theorem d_Mo_isInside_7 : decode prog_10_method_30_code 7 = .ok (.iload_n 1, 1) := by decide +kernel
theorem d_Mo_isInside_8 : decode prog_10_method_30_code 8 = .ok (.iadd, 1) := by decide +kernel
theorem d_Mo_isInside_9 : decode prog_10_method_30_code 9 = .ok (.sipush 1000, 3) := by decide +kernel
theorem d_Mo_isInside_12 : decode prog_10_method_30_code 12 = .ok (.if_icmp .gt 7, 3) := by decide +kernel
theorem d_Mo_isInside_15 : decode prog_10_method_30_code 15 = .ok (.iconst 1, 1) := by decide +kernel
theorem d_Mo_isInside_16 : decode prog_10_method_30_code 16 = .ok (.goto 4, 3) := by decide +kernel
theorem d_Mo_isInside_19 : decode prog_10_method_30_code 19 = .ok (.iconst 0, 1) := by decide +kernel
theorem d_Mo_isInside_20 : decode prog_10_method_30_code 20 = .ok (.ireturn, 1) := by decide +kernel
theorem d_Mo_isOccupied_0 : decode prog_10_method_31_code 0 = .ok (.iconst 0, 1) := by decide +kernel
theorem d_Mo_isOccupied_1 : decode prog_10_method_31_code 1 = .ok (.istore 5, 2) := by decide +kernel
theorem d_Mo_isOccupied_3 : decode prog_10_method_31_code 3 = .ok (.iconst 0, 1) := by decide +kernel
theorem d_Mo_isOccupied_4 : decode prog_10_method_31_code 4 = .ok (.istore 6, 2) := by decide +kernel
theorem d_Mo_isOccupied_6 : decode prog_10_method_31_code 6 = .ok (.iload 6, 2) := by decide +kernel
theorem d_Mo_isOccupied_8 : decode prog_10_method_31_code 8 = .ok (.aload_n 0, 1) := by decide +kernel
theorem d_Mo_isOccupied_9 : decode prog_10_method_31_code 9 = .ok (.iload_n 1, 1) := by decide +kernel
theorem d_Mo_isOccupied_10 : decode prog_10_method_31_code 10 = .ok (.invokevirtual 55, 3) := by decide +kernel
theorem d_Mo_isOccupied_13 : decode prog_10_method_31_code 13 = .ok (.if_icmp .ge 53, 3) := by decide +kernel
theorem d_Mo_isOccupied_16 : decode prog_10_method_31_code 16 = .ok (.iload 5, 2) := by decide +kernel
theorem d_Mo_isOccupied_18 : decode prog_10_method_31_code 18 = .ok (.ifCond .ne 35, 3) := by decide +kernel
theorem d_Mo_isOccupied_21 : decode prog_10_method_31_code 21 = .ok (.iload 6, 2) := by decide +kernel
theorem d_Mo_isOccupied_23 : decode prog_10_method_31_code 23 = .ok (.iload 4, 2) := by decide +kernel
theorem d_Mo_isOccupied_25 : decode prog_10_method_31_code 25 = .ok (.if_icmp .eq 32, 3) := by decide +kernel
theorem d_Mo_isOccupied_28 : decode prog_10_method_31_code 28 = .ok (.iload_n 2, 1) := by decide +kernel
theorem d_Mo_isOccupied_29 : decode prog_10_method_31_code 29 = .ok (.aload_n 0, 1) := by decide +kernel
theorem d_Mo_isOccupied_30 : decode prog_10_method_31_code 30 = .ok (.iload_n 1, 1) := by decide +kernel
theorem d_Mo_isOccupied_31 : decode prog_10_method_31_code 31 = .ok (.iload 6, 2) := by decide +kernel
theorem d_Mo_isOccupied_33 : decode prog_10_method_31_code 33 = .ok (.iconst 0, 1) := by decide +kernel
theorem d_Mo_isOccupied_34 : decode prog_10_method_31_code 34 = .ok (.invokevirtual 63, 3) := by decide +kernel
theorem d_Mo_isOccupied_37 : decode prog_10_method_31_code 37 = .ok (.invokestatic 85, 3) := by decide +kernel
theorem d_Mo_isOccupied_40 : decode prog_10_method_31_code 40 = .ok (.iload_n 3, 1) := by decide +kernel
theorem d_Mo_isOccupied_41 : decode prog_10_method_31_code 41 = .ok (.aload_n 0, 1) := by decide +kernel
theorem d_Mo_isOccupied_42 : decode prog_10_method_31_code 42 = .ok (.iload_n 1, 1) := by decide +kernel
theorem d_Mo_isOccupied_43 : decode prog_10_method_31_code 43 = .ok (.iload 6, 2) := by decide +kernel
theorem d_Mo_isOccupied_45 : decode prog_10_method_31_code 45 = .ok (.iconst 2, 1) := by decide +kernel
theorem d_Mo_isOccupied_46 : decode prog_10_method_31_code 46 = .ok (.invokevirtual 63, 3) := by decide +kernel
theorem d_Mo_isOccupied_49 : decode prog_10_method_31_code 49 = .ok (.iadd, 1) := by decide +kernel
theorem d_Mo_isOccupied_50 : decode prog_10_method_31_code 50 = .ok (.if_icmp .gt 7, 3) := by decide +kernel
theorem d_Mo_isOccupied_53 : decode prog_10_method_31_code 53 = .ok (.iconst 1, 1) := by decide +kernel
theorem d_Mo_isOccupied_54 : decode prog_10_method_31_code 54 = .ok (.goto 4, 3) := by decide +kernel
theorem d_Mo_isOccupied_57 : decode prog_10_method_31_code 57 = .ok (.iconst 0, 1) := by decide +kernel
theorem d_Mo_isOccupied_58 : decode prog_10_method_31_code 58 = .ok (.istore 5, 2) := by decide +kernel
theorem d_Mo_isOccupied_60 : decode prog_10_method_31_code 60 = .ok (.iinc 6 1, 3) := by decide +kernel
theorem d_Mo_isOccupied_63 : decode prog_10_method_31_code 63 = .ok (.goto (-57), 3) := by decide +kernel
theorem d_Mo_isOccupied_66 : decode prog_10_method_31_code 66 = .ok (.iload 5, 2) := by decide +kernel
theorem d_Mo_isOccupied_68 : decode prog_10_method_31_code 68 = .ok (.ireturn, 1) := by decide +kernel
theorem d_Mo_borders_0 : decode prog_10_method_11_code 0 = .ok (.aload_n 0, 1) := by decide +kernel
theorem d_Mo_borders_1 : decode prog_10_method_11_code 1 = .ok (.getfield 7, 3) := by decide +kernel
theorem d_Mo_borders_4 : decode prog_10_method_11_code 4 = .ok (.iconst 0, 1) := by decide +kernel
theorem d_Mo_borders_5 : decode prog_10_method_11_code 5 = .ok (.bipush 19, 2) := by decide +kernel
theorem d_Mo_borders_7 : decode prog_10_method_11_code 7 = .ok (.iload_n 1, 1) := by decide +kernel
theorem d_Mo_borders_8 : decode prog_10_method_11_code 8 = .ok (.imul, 1) := by decide +kernel
theorem d_Mo_borders_9 : decode prog_10_method_11_code 9 = .ok (.iadd, 1) := by decide +kernel
theorem d_Mo_borders_10 : decode prog_10_method_11_code 10 = .ok (.iaload, 1) := by decide +kernel
theorem d_Mo_borders_11 : decode prog_10_method_11_code 11 = .ok (.ireturn, 1) := by decide +kernel
theorem d_Mo_ofBorder_0 : decode prog_10_method_12_code 0 = .ok (.aload_n 0, 1) := by decide +kernel
theorem d_Mo_ofBorder_1 : decode prog_10_method_12_code 1 = .ok (.getfield 7, 3) := by decide +kernel
theorem d_Mo_ofBorder_4 : decode prog_10_method_12_code 4 = .ok (.iconst 0, 1) := by decide +kernel
theorem d_Mo_ofBorder_5 : decode prog_10_method_12_code 5 = .ok (.bipush 19, 2) := by decide +kernel
theorem d_Mo_ofBorder_7 : decode prog_10_method_12_code 7 = .ok (.iload_n 1, 1) := by decide +kernel
theorem d_Mo_ofBorder_8 : decode prog_10_method_12_code 8 = .ok (.imul, 1) := by decide +kernel
theorem d_Mo_ofBorder_9 : decode prog_10_method_12_code 9 = .ok (.iadd, 1) := by decide +kernel
theorem d_Mo_ofBorder_10 : decode prog_10_method_12_code 10 = .ok (.iconst 1, 1) := by decide +kernel
theorem d_Mo_ofBorder_11 : decode prog_10_method_12_code 11 = .ok (.iadd, 1) := by decide +kernel
theorem d_Mo_ofBorder_12 : decode prog_10_method_12_code 12 = .ok (.iconst 3, 1) := by decide +kernel
theorem d_Mo_ofBorder_13 : decode prog_10_method_12_code 13 = .ok (.iload_n 2, 1) := by decide +kernel
theorem d_Mo_ofBorder_14 : decode prog_10_method_12_code 14 = .ok (.imul, 1) := by decide +kernel
theorem d_Mo_ofBorder_15 : decode prog_10_method_12_code 15 = .ok (.iadd, 1) := by decide +kernel
theorem d_Mo_ofBorder_16 : decode prog_10_method_12_code 16 = .ok (.iload_n 3, 1) := by decide +kernel
theorem d_Mo_ofBorder_17 : decode prog_10_method_12_code 17 = .ok (.iadd, 1) := by decide +kernel
theorem d_Mo_ofBorder_18 : decode prog_10_method_12_code 18 = .ok (.iaload, 1) := by decide +kernel
theorem d_Mo_ofBorder_19 : decode prog_10_method_12_code 19 = .ok (.ireturn, 1) := by decide +kernel
theorem d_Mo_apart_0 : decode prog_10_method_5_code 0 = .ok (.iload_n 0, 1) := by decide +kernel
theorem d_Mo_apart_1 : decode prog_10_method_5_code 1 = .ok (.iload_n 1, 1) := by decide +kernel
theorem d_Mo_apart_2 : decode prog_10_method_5_code 2 = .ok (.if_icmp .ge 9, 3) := by decide +kernel
theorem d_Mo_apart_5 : decode prog_10_method_5_code 5 = .ok (.iload_n 1, 1) := by decide +kernel
theorem d_Mo_apart_6 : decode prog_10_method_5_code 6 = .ok (.iload_n 0, 1) := by decide +kernel
theorem d_Mo_apart_7 : decode prog_10_method_5_code 7 = .ok (.isub, 1) := by decide +kernel
theorem d_Mo_apart_8 : decode prog_10_method_5_code 8 = .ok (.goto 6, 3) := by decide +kernel
theorem d_Mo_apart_11 : decode prog_10_method_5_code 11 = .ok (.iload_n 0, 1) := by decide +kernel
theorem d_Mo_apart_12 : decode prog_10_method_5_code 12 = .ok (.iload_n 1, 1) := by decide +kernel
theorem d_Mo_apart_13 : decode prog_10_method_5_code 13 = .ok (.isub, 1) := by decide +kernel
theorem d_Mo_apart_14 : decode prog_10_method_5_code 14 = .ok (.ireturn, 1) := by decide +kernel
theorem d_Mo_act_0 : decode prog_10_method_6_code 0 = .ok (.aload_n 0, 1) := by decide +kernel
theorem d_Mo_act_1 : decode prog_10_method_6_code 1 = .ok (.getfield 44, 3) := by decide +kernel
theorem d_Mo_act_4 : decode prog_10_method_6_code 4 = .ok (.iconst 5, 1) := by decide +kernel
theorem d_Mo_act_5 : decode prog_10_method_6_code 5 = .ok (.if_icmp .ne 44, 3) := by decide +kernel
theorem d_Mo_act_8 : decode prog_10_method_6_code 8 = .ok (.iconst 0, 1) := by decide +kernel
theorem d_Mo_act_9 : decode prog_10_method_6_code 9 = .ok (.istore_n 1, 1) := by decide +kernel
theorem d_Mo_act_10 : decode prog_10_method_6_code 10 = .ok (.iload_n 1, 1) := by decide +kernel
theorem d_Mo_act_11 : decode prog_10_method_6_code 11 = .ok (.sipush 4480, 3) := by decide +kernel
theorem d_Mo_act_14 : decode prog_10_method_6_code 14 = .ok (.if_icmp .ge 25, 3) := by decide +kernel
theorem d_Mo_act_17 : decode prog_10_method_6_code 17 = .ok (.aload_n 0, 1) := by decide +kernel
theorem d_Mo_act_18 : decode prog_10_method_6_code 18 = .ok (.getfield 16, 3) := by decide +kernel
theorem d_Mo_act_21 : decode prog_10_method_6_code 21 = .ok (.iload_n 1, 1) := by decide +kernel
theorem d_Mo_act_22 : decode prog_10_method_6_code 22 = .ok (.aload_n 0, 1) := by decide +kernel
theorem d_Mo_act_23 : decode prog_10_method_6_code 23 = .ok (.getfield 16, 3) := by decide +kernel
theorem d_Mo_act_26 : decode prog_10_method_6_code 26 = .ok (.iload_n 1, 1) := by decide +kernel
theorem d_Mo_act_27 : decode prog_10_method_6_code 27 = .ok (.sipush 1120, 3) := by decide +kernel
theorem d_Mo_act_30 : decode prog_10_method_6_code 30 = .ok (.iadd, 1) := by decide +kernel
theorem d_Mo_act_31 : decode prog_10_method_6_code 31 = .ok (.iaload, 1) := by decide +kernel
theorem d_Mo_act_32 : decode prog_10_method_6_code 32 = .ok (.iastore, 1) := by decide +kernel
theorem d_Mo_act_33 : decode prog_10_method_6_code 33 = .ok (.iinc 1 1, 3) := by decide +kernel
theorem d_Mo_act_36 : decode prog_10_method_6_code 36 = .ok (.goto (-26), 3) := by decide +kernel
theorem d_Mo_act_39 : decode prog_10_method_6_code 39 = .ok (.aload_n 0, 1) := by decide +kernel
theorem d_Mo_act_40 : decode prog_10_method_6_code 40 = .ok (.dup, 1) := by decide +kernel
theorem d_Mo_act_41 : decode prog_10_method_6_code 41 = .ok (.getfield 44, 3) := by decide +kernel
theorem d_Mo_act_44 : decode prog_10_method_6_code 44 = .ok (.iconst 1, 1) := by decide +kernel
theorem d_Mo_act_45 : decode prog_10_method_6_code 45 = .ok (.isub, 1) := by decide +kernel
theorem d_Mo_act_46 : decode prog_10_method_6_code 46 = .ok (.putfield 44, 3) := by decide +kernel
theorem d_Mo_act_49 : decode prog_10_method_6_code 49 = .ok (.iconst 0, 1) := by decide +kernel
theorem d_Mo_act_50 : decode prog_10_method_6_code 50 = .ok (.istore_n 1, 1) := by decide +kernel
theorem d_Mo_act_51 : decode prog_10_method_6_code 51 = .ok (.iload_n 1, 1) := by decide +kernel
theorem d_Mo_act_52 : decode prog_10_method_6_code 52 = .ok (.sipush 1120, 3) := by decide +kernel
theorem d_Mo_act_55 : decode prog_10_method_6_code 55 = .ok (.if_icmp .ge 30, 3) := by decide +kernel
theorem d_Mo_act_58 : decode prog_10_method_6_code 58 = .ok (.aload_n 0, 1) := by decide +kernel
theorem d_Mo_act_59 : decode prog_10_method_6_code 59 = .ok (.getfield 16, 3) := by decide +kernel
theorem d_Mo_act_62 : decode prog_10_method_6_code 62 = .ok (.sipush 1120, 3) := by decide +kernel
theorem d_Mo_act_65 : decode prog_10_method_6_code 65 = .ok (.aload_n 0, 1) := by decide +kernel
theorem d_Mo_act_66 : decode prog_10_method_6_code 66 = .ok (.getfield 44, 3) := by decide +kernel
theorem d_Mo_act_69 : decode prog_10_method_6_code 69 = .ok (.imul, 1) := by decide +kernel
theorem d_Mo_act_70 : decode prog_10_method_6_code 70 = .ok (.iload_n 1, 1) := by decide +kernel
theorem d_Mo_act_71 : decode prog_10_method_6_code 71 = .ok (.iadd, 1) := by decide +kernel
theorem d_Mo_act_72 : decode prog_10_method_6_code 72 = .ok (.aload_n 0, 1) := by decide +kernel
theorem d_Mo_act_73 : decode prog_10_method_6_code 73 = .ok (.getfield 7, 3) := by decide +kernel
theorem d_Mo_act_76 : decode prog_10_method_6_code 76 = .ok (.iload_n 1, 1) := by decide +kernel
theorem d_Mo_act_77 : decode prog_10_method_6_code 77 = .ok (.iaload, 1) := by decide +kernel
theorem d_Mo_act_78 : decode prog_10_method_6_code 78 = .ok (.iastore, 1) := by decide +kernel
theorem d_Mo_act_79 : decode prog_10_method_6_code 79 = .ok (.iinc 1 1, 3) := by decide +kernel
theorem d_Mo_act_82 : decode prog_10_method_6_code 82 = .ok (.goto (-31), 3) := by decide +kernel
theorem d_Mo_act_85 : decode prog_10_method_6_code 85 = .ok (.aload_n 0, 1) := by decide +kernel
theorem d_Mo_act_86 : decode prog_10_method_6_code 86 = .ok (.dup, 1) := by decide +kernel
theorem d_Mo_act_87 : decode prog_10_method_6_code 87 = .ok (.getfield 44, 3) := by decide +kernel
theorem d_Mo_act_90 : decode prog_10_method_6_code 90 = .ok (.iconst 1, 1) := by decide +kernel
theorem d_Mo_act_91 : decode prog_10_method_6_code 91 = .ok (.iadd, 1) := by decide +kernel
theorem d_Mo_act_92 : decode prog_10_method_6_code 92 = .ok (.putfield 44, 3) := by decide +kernel
theorem d_Mo_act_95 : decode prog_10_method_6_code 95 = .ok (.return_, 1) := by decide +kernel
theorem d_Mo_allGains_0 : decode prog_10_method_18_code 0 = .ok (.iconst 0, 1) := by decide +kernel
theorem d_Mo_allGains_1 : decode prog_10_method_18_code 1 = .ok (.istore_n 1, 1) := by decide +kernel
theorem d_Mo_allGains_2 : decode prog_10_method_18_code 2 = .ok (.iconst 0, 1) := by decide +kernel
theorem d_Mo_allGains_3 : decode prog_10_method_18_code 3 = .ok (.istore_n 2, 1) := by decide +kernel
theorem d_Mo_allGains_4 : decode prog_10_method_18_code 4 = .ok (.iload_n 2, 1) := by decide +kernel
theorem d_Mo_allGains_5 : decode prog_10_method_18_code 5 = .ok (.aload_n 0, 1) := by decide +kernel
theorem d_Mo_allGains_6 : decode prog_10_method_18_code 6 = .ok (.iconst 0, 1) := by decide +kernel
theorem d_Mo_allGains_7 : decode prog_10_method_18_code 7 = .ok (.invokevirtual 55, 3) := by decide +kernel
theorem d_Mo_allGains_10 : decode prog_10_method_18_code 10 = .ok (.if_icmp .gt 65, 3) := by decide +kernel
theorem d_Mo_allGains_13 : decode prog_10_method_18_code 13 = .ok (.iconst 0, 1) := by decide +kernel
theorem d_Mo_allGains_14 : decode prog_10_method_18_code 14 = .ok (.istore_n 3, 1) := by decide +kernel
theorem d_Mo_allGains_15 : decode prog_10_method_18_code 15 = .ok (.iload_n 3, 1) := by decide +kernel
theorem d_Mo_allGains_16 : decode prog_10_method_18_code 16 = .ok (.aload_n 0, 1) := by decide +kernel
theorem d_Mo_allGains_17 : decode prog_10_method_18_code 17 = .ok (.iconst 1, 1) := by decide +kernel
theorem d_Mo_allGains_18 : decode prog_10_method_18_code 18 = .ok (.invokevirtual 55, 3) := by decide +kernel
theorem d_Mo_allGains_21 : decode prog_10_method_18_code 21 = .ok (.if_icmp .gt 48, 3) := by decide +kernel
theorem d_Mo_allGains_24 : decode prog_10_method_18_code 24 = .ok (.iload_n 1, 1) := by decide +kernel
theorem d_Mo_allGains_25 : decode prog_10_method_18_code 25 = .ok (.aload_n 0, 1) := by decide +kernel
theorem d_Mo_allGains_26 : decode prog_10_method_18_code 26 = .ok (.getfield 7, 3) := by decide +kernel
theorem d_Mo_allGains_29 : decode prog_10_method_18_code 29 = .ok (.iload_n 2, 1) := by decide +kernel
theorem d_Mo_allGains_30 : decode prog_10_method_18_code 30 = .ok (.iload_n 3, 1) := by decide +kernel
theorem d_Mo_allGains_31 : decode prog_10_method_18_code 31 = .ok (.invokestatic 59, 3) := by decide +kernel
theorem d_Mo_allGains_34 : decode prog_10_method_18_code 34 = .ok (.iaload, 1) := by decide +kernel
theorem d_Mo_allGains_35 : decode prog_10_method_18_code 35 = .ok (.aload_n 0, 1) := by decide +kernel
theorem d_Mo_allGains_36 : decode prog_10_method_18_code 36 = .ok (.getfield 7, 3) := by decide +kernel
theorem d_Mo_allGains_39 : decode prog_10_method_18_code 39 = .ok (.iload_n 2, 1) := by decide +kernel
theorem d_Mo_allGains_40 : decode prog_10_method_18_code 40 = .ok (.iload_n 3, 1) := by decide +kernel
theorem d_Mo_allGains_41 : decode prog_10_method_18_code 41 = .ok (.invokestatic 59, 3) := by decide +kernel
theorem d_Mo_allGains_44 : decode prog_10_method_18_code 44 = .ok (.iconst 1, 1) := by decide +kernel
theorem d_Mo_allGains_45 : decode prog_10_method_18_code 45 = .ok (.iadd, 1) := by decide +kernel
theorem d_Mo_allGains_46 : decode prog_10_method_18_code 46 = .ok (.iaload, 1) := by decide +kernel
theorem d_Mo_allGains_47 : decode prog_10_method_18_code 47 = .ok (.iadd, 1) := by decide +kernel
theorem d_Mo_allGains_48 : decode prog_10_method_18_code 48 = .ok (.aload_n 0, 1) := by decide +kernel
theorem d_Mo_allGains_49 : decode prog_10_method_18_code 49 = .ok (.getfield 7, 3) := by decide +kernel
theorem d_Mo_allGains_52 : decode prog_10_method_18_code 52 = .ok (.iload_n 2, 1) := by decide +kernel
theorem d_Mo_allGains_53 : decode prog_10_method_18_code 53 = .ok (.iload_n 3, 1) := by decide +kernel
theorem d_Mo_allGains_54 : decode prog_10_method_18_code 54 = .ok (.invokestatic 59, 3) := by decide +kernel
theorem d_Mo_allGains_57 : decode prog_10_method_18_code 57 = .ok (.iconst 2, 1) := by decide +kernel
theorem d_Mo_allGains_58 : decode prog_10_method_18_code 58 = .ok (.iadd, 1) := by decide +kernel
theorem d_Mo_allGains_59 : decode prog_10_method_18_code 59 = .ok (.iaload, 1) := by decide +kernel
theorem d_Mo_allGains_60 : decode prog_10_method_18_code 60 = .ok (.iadd, 1) := by decide +kernel
theorem d_Mo_allGains_61 : decode prog_10_method_18_code 61 = .ok (.iadd, 1) := by decide +kernel
theorem d_Mo_allGains_62 : decode prog_10_method_18_code 62 = .ok (.istore_n 1, 1) := by decide +kernel
theorem d_Mo_allGains_63 : decode prog_10_method_18_code 63 = .ok (.iinc 3 1, 3) := by decide +kernel
theorem d_Mo_allGains_66 : decode prog_10_method_18_code 66 = .ok (.goto (-51), 3) := by decide +kernel
theorem d_Mo_allGains_69 : decode prog_10_method_18_code 69 = .ok (.iinc 2 1, 3) := by decide +kernel
theorem d_Mo_allGains_72 : decode prog_10_method_18_code 72 = .ok (.goto (-68), 3) := by decide +kernel
theorem d_Mo_allGains_75 : decode prog_10_method_18_code 75 = .ok (.iload_n 1, 1) := by decide +kernel
theorem d_Mo_allGains_76 : decode prog_10_method_18_code 76 = .ok (.ireturn, 1) := by decide +kernel
theorem d_Mo_at_0 : decode prog_10_method_15_code 0 = .ok (.bipush 38, 2) := by decide +kernel
theorem d_Mo_at_2 : decode prog_10_method_15_code 2 = .ok (.iconst 4, 1) := by decide +kernel
theorem d_Mo_at_3 : decode prog_10_method_15_code 3 = .ok (.bipush 7, 2) := by decide +kernel
theorem d_Mo_at_5 : decode prog_10_method_15_code 5 = .ok (.iload_n 0, 1) := by decide +kernel
theorem d_Mo_at_6 : decode prog_10_method_15_code 6 = .ok (.imul, 1) := by decide +kernel
theorem d_Mo_at_7 : decode prog_10_method_15_code 7 = .ok (.iload_n 1, 1) := by decide +kernel
theorem d_Mo_at_8 : decode prog_10_method_15_code 8 = .ok (.iadd, 1) := by decide +kernel
theorem d_Mo_at_9 : decode prog_10_method_15_code 9 = .ok (.imul, 1) := by decide +kernel
theorem d_Mo_at_10 : decode prog_10_method_15_code 10 = .ok (.iadd, 1) := by decide +kernel
theorem d_Mo_at_11 : decode prog_10_method_15_code 11 = .ok (.ireturn, 1) := by decide +kernel
theorem d_Mo_insert_0 : decode prog_10_method_34_code 0 = .ok (.aload_n 0, 1) := by decide +kernel
theorem d_Mo_insert_1 : decode prog_10_method_34_code 1 = .ok (.iload_n 1, 1) := by decide +kernel
theorem d_Mo_insert_2 : decode prog_10_method_34_code 2 = .ok (.invokevirtual 55, 3) := by decide +kernel
theorem d_Mo_insert_5 : decode prog_10_method_34_code 5 = .ok (.istore 5, 2) := by decide +kernel
theorem d_Mo_insert_7 : decode prog_10_method_34_code 7 = .ok (.iload 5, 2) := by decide +kernel
theorem d_Mo_insert_9 : decode prog_10_method_34_code 9 = .ok (.istore 6, 2) := by decide +kernel
theorem d_Mo_insert_11 : decode prog_10_method_34_code 11 = .ok (.iload 6, 2) := by decide +kernel
theorem d_Mo_insert_13 : decode prog_10_method_34_code 13 = .ok (.ifCond .le 60, 3) := by decide +kernel
theorem d_Mo_insert_16 : decode prog_10_method_34_code 16 = .ok (.aload_n 0, 1) := by decide +kernel
theorem d_Mo_insert_17 : decode prog_10_method_34_code 17 = .ok (.iload_n 1, 1) := by decide +kernel
theorem d_Mo_insert_18 : decode prog_10_method_34_code 18 = .ok (.iload 6, 2) := by decide +kernel
theorem d_Mo_insert_20 : decode prog_10_method_34_code 20 = .ok (.iconst 1, 1) := by decide +kernel
theorem d_Mo_insert_21 : decode prog_10_method_34_code 21 = .ok (.isub, 1) := by decide +kernel
theorem d_Mo_insert_22 : decode prog_10_method_34_code 22 = .ok (.iconst 0, 1) := by decide +kernel
theorem d_Mo_insert_23 : decode prog_10_method_34_code 23 = .ok (.invokevirtual 63, 3) := by decide +kernel
theorem d_Mo_insert_26 : decode prog_10_method_34_code 26 = .ok (.iload_n 2, 1) := by decide +kernel
theorem d_Mo_insert_27 : decode prog_10_method_34_code 27 = .ok (.if_icmp .le 46, 3) := by decide +kernel
theorem d_Mo_insert_30 : decode prog_10_method_34_code 30 = .ok (.aload_n 0, 1) := by decide +kernel
theorem d_Mo_insert_31 : decode prog_10_method_34_code 31 = .ok (.iload_n 1, 1) := by decide +kernel
theorem d_Mo_insert_32 : decode prog_10_method_34_code 32 = .ok (.iload 6, 2) := by decide +kernel
theorem d_Mo_insert_34 : decode prog_10_method_34_code 34 = .ok (.aload_n 0, 1) := by decide +kernel
theorem d_Mo_insert_35 : decode prog_10_method_34_code 35 = .ok (.iload_n 1, 1) := by decide +kernel
theorem d_Mo_insert_36 : decode prog_10_method_34_code 36 = .ok (.iload 6, 2) := by decide +kernel
theorem d_Mo_insert_38 : decode prog_10_method_34_code 38 = .ok (.iconst 1, 1) := by decide +kernel
theorem d_Mo_insert_39 : decode prog_10_method_34_code 39 = .ok (.isub, 1) := by decide +kernel
theorem d_Mo_insert_40 : decode prog_10_method_34_code 40 = .ok (.iconst 0, 1) := by decide +kernel
theorem d_Mo_insert_41 : decode prog_10_method_34_code 41 = .ok (.invokevirtual 63, 3) := by decide +kernel
theorem d_Mo_insert_44 : decode prog_10_method_34_code 44 = .ok (.aload_n 0, 1) := by decide +kernel
theorem d_Mo_insert_45 : decode prog_10_method_34_code 45 = .ok (.iload_n 1, 1) := by decide +kernel
theorem d_Mo_insert_46 : decode prog_10_method_34_code 46 = .ok (.iload 6, 2) := by decide +kernel
theorem d_Mo_insert_48 : decode prog_10_method_34_code 48 = .ok (.iconst 1, 1) := by decide +kernel
theorem d_Mo_insert_49 : decode prog_10_method_34_code 49 = .ok (.isub, 1) := by decide +kernel
theorem d_Mo_insert_50 : decode prog_10_method_34_code 50 = .ok (.iconst 1, 1) := by decide +kernel
theorem d_Mo_insert_51 : decode prog_10_method_34_code 51 = .ok (.invokevirtual 63, 3) := by decide +kernel
theorem d_Mo_insert_54 : decode prog_10_method_34_code 54 = .ok (.aload_n 0, 1) := by decide +kernel
theorem d_Mo_insert_55 : decode prog_10_method_34_code 55 = .ok (.iload_n 1, 1) := by decide +kernel
theorem d_Mo_insert_56 : decode prog_10_method_34_code 56 = .ok (.iload 6, 2) := by decide +kernel
theorem d_Mo_insert_58 : decode prog_10_method_34_code 58 = .ok (.iconst 1, 1) := by decide +kernel
theorem d_Mo_insert_59 : decode prog_10_method_34_code 59 = .ok (.isub, 1) := by decide +kernel
theorem d_Mo_insert_60 : decode prog_10_method_34_code 60 = .ok (.iconst 2, 1) := by decide +kernel
theorem d_Mo_insert_61 : decode prog_10_method_34_code 61 = .ok (.invokevirtual 63, 3) := by decide +kernel
theorem d_Mo_insert_64 : decode prog_10_method_34_code 64 = .ok (.invokevirtual 92, 3) := by decide +kernel
theorem d_Mo_insert_67 : decode prog_10_method_34_code 67 = .ok (.iinc 6 (-1), 3) := by decide +kernel
theorem d_Mo_insert_70 : decode prog_10_method_34_code 70 = .ok (.goto (-59), 3) := by decide +kernel
theorem d_Mo_insert_73 : decode prog_10_method_34_code 73 = .ok (.aload_n 0, 1) := by decide +kernel
theorem d_Mo_insert_74 : decode prog_10_method_34_code 74 = .ok (.iload_n 1, 1) := by decide +kernel
theorem d_Mo_insert_75 : decode prog_10_method_34_code 75 = .ok (.iload 6, 2) := by decide +kernel
theorem d_Mo_insert_77 : decode prog_10_method_34_code 77 = .ok (.iload_n 2, 1) := by decide +kernel
theorem d_Mo_insert_78 : decode prog_10_method_34_code 78 = .ok (.iload_n 3, 1) := by decide +kernel
theorem d_Mo_insert_79 : decode prog_10_method_34_code 79 = .ok (.iload 4, 2) := by decide +kernel
theorem d_Mo_insert_81 : decode prog_10_method_34_code 81 = .ok (.invokevirtual 92, 3) := by decide +kernel
theorem d_Mo_insert_84 : decode prog_10_method_34_code 84 = .ok (.iload 5, 2) := by decide +kernel
theorem d_Mo_insert_86 : decode prog_10_method_34_code 86 = .ok (.istore 7, 2) := by decide +kernel
theorem d_Mo_insert_88 : decode prog_10_method_34_code 88 = .ok (.iload 7, 2) := by decide +kernel
theorem d_Mo_insert_90 : decode prog_10_method_34_code 90 = .ok (.iload 6, 2) := by decide +kernel
theorem d_Mo_insert_92 : decode prog_10_method_34_code 92 = .ok (.if_icmp .lt 20, 3) := by decide +kernel
theorem d_Mo_insert_95 : decode prog_10_method_34_code 95 = .ok (.aload_n 0, 1) := by decide +kernel
theorem d_Mo_insert_96 : decode prog_10_method_34_code 96 = .ok (.iload_n 1, 1) := by decide +kernel
theorem d_Mo_insert_97 : decode prog_10_method_34_code 97 = .ok (.iload 7, 2) := by decide +kernel
theorem d_Mo_insert_99 : decode prog_10_method_34_code 99 = .ok (.iload 7, 2) := by decide +kernel
theorem d_Mo_insert_101 : decode prog_10_method_34_code 101 = .ok (.iconst 1, 1) := by decide +kernel
theorem d_Mo_insert_102 : decode prog_10_method_34_code 102 = .ok (.iadd, 1) := by decide +kernel
theorem d_Mo_insert_103 : decode prog_10_method_34_code 103 = .ok (.invokevirtual 96, 3) := by decide +kernel
theorem d_Mo_insert_106 : decode prog_10_method_34_code 106 = .ok (.iinc 7 (-1), 3) := by decide +kernel
theorem d_Mo_insert_109 : decode prog_10_method_34_code 109 = .ok (.goto (-21), 3) := by decide +kernel
theorem d_Mo_insert_112 : decode prog_10_method_34_code 112 = .ok (.aload_n 0, 1) := by decide +kernel
theorem d_Mo_insert_113 : decode prog_10_method_34_code 113 = .ok (.getfield 7, 3) := by decide +kernel
theorem d_Mo_insert_116 : decode prog_10_method_34_code 116 = .ok (.iconst 0, 1) := by decide +kernel
theorem d_Mo_insert_117 : decode prog_10_method_34_code 117 = .ok (.bipush 19, 2) := by decide +kernel
theorem d_Mo_insert_119 : decode prog_10_method_34_code 119 = .ok (.iload_n 1, 1) := by decide +kernel
theorem d_Mo_insert_120 : decode prog_10_method_34_code 120 = .ok (.imul, 1) := by decide +kernel
theorem d_Mo_insert_121 : decode prog_10_method_34_code 121 = .ok (.iadd, 1) := by decide +kernel
theorem d_Mo_insert_122 : decode prog_10_method_34_code 122 = .ok (.dup2, 1) := by decide +kernel
theorem d_Mo_insert_123 : decode prog_10_method_34_code 123 = .ok (.iaload, 1) := by decide +kernel
theorem d_Mo_insert_124 : decode prog_10_method_34_code 124 = .ok (.iconst 1, 1) := by decide +kernel
theorem d_Mo_insert_125 : decode prog_10_method_34_code 125 = .ok (.iadd, 1) := by decide +kernel
theorem d_Mo_insert_126 : decode prog_10_method_34_code 126 = .ok (.iastore, 1) := by decide +kernel
theorem d_Mo_insert_127 : decode prog_10_method_34_code 127 = .ok (.iload 6, 2) := by decide +kernel
theorem d_Mo_insert_129 : decode prog_10_method_34_code 129 = .ok (.ireturn, 1) := by decide +kernel
theorem d_Mo_setBorder_0 : decode prog_10_method_13_code 0 = .ok (.iconst 0, 1) := by decide +kernel
theorem d_Mo_setBorder_1 : decode prog_10_method_13_code 1 = .ok (.bipush 19, 2) := by decide +kernel
theorem d_Mo_setBorder_3 : decode prog_10_method_13_code 3 = .ok (.iload_n 1, 1) := by decide +kernel
theorem d_Mo_setBorder_4 : decode prog_10_method_13_code 4 = .ok (.imul, 1) := by decide +kernel
theorem d_Mo_setBorder_5 : decode prog_10_method_13_code 5 = .ok (.iadd, 1) := by decide +kernel
theorem d_Mo_setBorder_6 : decode prog_10_method_13_code 6 = .ok (.iconst 1, 1) := by decide +kernel
theorem d_Mo_setBorder_7 : decode prog_10_method_13_code 7 = .ok (.iadd, 1) := by decide +kernel
theorem d_Mo_setBorder_8 : decode prog_10_method_13_code 8 = .ok (.iconst 3, 1) := by decide +kernel
theorem d_Mo_setBorder_9 : decode prog_10_method_13_code 9 = .ok (.iload_n 2, 1) := by decide +kernel
theorem d_Mo_setBorder_10 : decode prog_10_method_13_code 10 = .ok (.imul, 1) := by decide +kernel
theorem d_Mo_setBorder_11 : decode prog_10_method_13_code 11 = .ok (.iadd, 1) := by decide +kernel
theorem d_Mo_setBorder_12 : decode prog_10_method_13_code 12 = .ok (.istore 6, 2) := by decide +kernel
theorem d_Mo_setBorder_14 : decode prog_10_method_13_code 14 = .ok (.aload_n 0, 1) := by decide +kernel
theorem d_Mo_setBorder_15 : decode prog_10_method_13_code 15 = .ok (.getfield 7, 3) := by decide +kernel
theorem d_Mo_setBorder_18 : decode prog_10_method_13_code 18 = .ok (.iload 6, 2) := by decide +kernel
theorem d_Mo_setBorder_20 : decode prog_10_method_13_code 20 = .ok (.iconst 0, 1) := by decide +kernel
theorem d_Mo_setBorder_21 : decode prog_10_method_13_code 21 = .ok (.iadd, 1) := by decide +kernel
theorem d_Mo_setBorder_22 : decode prog_10_method_13_code 22 = .ok (.iload_n 3, 1) := by decide +kernel
theorem d_Mo_setBorder_23 : decode prog_10_method_13_code 23 = .ok (.iastore, 1) := by decide +kernel
theorem d_Mo_setBorder_24 : decode prog_10_method_13_code 24 = .ok (.aload_n 0, 1) := by decide +kernel
theorem d_Mo_setBorder_25 : decode prog_10_method_13_code 25 = .ok (.getfield 7, 3) := by decide +kernel
theorem d_Mo_setBorder_28 : decode prog_10_method_13_code 28 = .ok (.iload 6, 2) := by decide +kernel
theorem d_Mo_setBorder_30 : decode prog_10_method_13_code 30 = .ok (.iconst 1, 1) := by decide +kernel
theorem d_Mo_setBorder_31 : decode prog_10_method_13_code 31 = .ok (.iadd, 1) := by decide +kernel
theorem d_Mo_setBorder_32 : decode prog_10_method_13_code 32 = .ok (.iload 4, 2) := by decide +kernel
theorem d_Mo_setBorder_34 : decode prog_10_method_13_code 34 = .ok (.iastore, 1) := by decide +kernel
theorem d_Mo_setBorder_35 : decode prog_10_method_13_code 35 = .ok (.aload_n 0, 1) := by decide +kernel
theorem d_Mo_setBorder_36 : decode prog_10_method_13_code 36 = .ok (.getfield 7, 3) := by decide +kernel
theorem d_Mo_setBorder_39 : decode prog_10_method_13_code 39 = .ok (.iload 6, 2) := by decide +kernel
theorem d_Mo_setBorder_41 : decode prog_10_method_13_code 41 = .ok (.iconst 2, 1) := by decide +kernel
theorem d_Mo_setBorder_42 : decode prog_10_method_13_code 42 = .ok (.iadd, 1) := by decide +kernel
theorem d_Mo_setBorder_43 : decode prog_10_method_13_code 43 = .ok (.iload 5, 2) := by decide +kernel
theorem d_Mo_setBorder_45 : decode prog_10_method_13_code 45 = .ok (.iastore, 1) := by decide +kernel
theorem d_Mo_setBorder_46 : decode prog_10_method_13_code 46 = .ok (.return_, 1) := by decide +kernel
theorem d_Mo_copyStrip_0 : decode prog_10_method_33_code 0 = .ok (.iconst 0, 1) := by decide +kernel
theorem d_Mo_copyStrip_1 : decode prog_10_method_33_code 1 = .ok (.istore 4, 2) := by decide +kernel
theorem d_Mo_copyStrip_3 : decode prog_10_method_33_code 3 = .ok (.iload 4, 2) := by decide +kernel
theorem d_Mo_copyStrip_5 : decode prog_10_method_33_code 5 = .ok (.bipush 7, 2) := by decide +kernel
theorem d_Mo_copyStrip_7 : decode prog_10_method_33_code 7 = .ok (.if_icmp .ge 53, 3) := by decide +kernel
theorem d_Mo_copyStrip_10 : decode prog_10_method_33_code 10 = .ok (.aload_n 0, 1) := by decide +kernel
theorem d_Mo_copyStrip_11 : decode prog_10_method_33_code 11 = .ok (.iload_n 1, 1) := by decide +kernel
theorem d_Mo_copyStrip_12 : decode prog_10_method_33_code 12 = .ok (.ifCond .ne 7, 3) := by decide +kernel
theorem d_Mo_copyStrip_15 : decode prog_10_method_33_code 15 = .ok (.iload_n 2, 1) := by decide +kernel
theorem d_Mo_copyStrip_16 : decode prog_10_method_33_code 16 = .ok (.goto 5, 3) := by decide +kernel
theorem d_Mo_copyStrip_19 : decode prog_10_method_33_code 19 = .ok (.iload 4, 2) := by decide +kernel
theorem d_Mo_copyStrip_21 : decode prog_10_method_33_code 21 = .ok (.iload_n 1, 1) := by decide +kernel
theorem d_Mo_copyStrip_22 : decode prog_10_method_33_code 22 = .ok (.ifCond .ne 8, 3) := by decide +kernel
theorem d_Mo_copyStrip_25 : decode prog_10_method_33_code 25 = .ok (.iload 4, 2) := by decide +kernel
theorem d_Mo_copyStrip_27 : decode prog_10_method_33_code 27 = .ok (.goto 4, 3) := by decide +kernel
theorem d_Mo_copyStrip_30 : decode prog_10_method_33_code 30 = .ok (.iload_n 2, 1) := by decide +kernel
theorem d_Mo_copyStrip_31 : decode prog_10_method_33_code 31 = .ok (.iload_n 1, 1) := by decide +kernel
theorem d_Mo_copyStrip_32 : decode prog_10_method_33_code 32 = .ok (.ifCond .ne 7, 3) := by decide +kernel
theorem d_Mo_copyStrip_35 : decode prog_10_method_33_code 35 = .ok (.iload_n 3, 1) := by decide +kernel
theorem d_Mo_copyStrip_36 : decode prog_10_method_33_code 36 = .ok (.goto 5, 3) := by decide +kernel
theorem d_Mo_copyStrip_39 : decode prog_10_method_33_code 39 = .ok (.iload 4, 2) := by decide +kernel
theorem d_Mo_copyStrip_41 : decode prog_10_method_33_code 41 = .ok (.iload_n 1, 1) := by decide +kernel
theorem d_Mo_copyStrip_42 : decode prog_10_method_33_code 42 = .ok (.ifCond .ne 8, 3) := by decide +kernel
theorem d_Mo_copyStrip_45 : decode prog_10_method_33_code 45 = .ok (.iload 4, 2) := by decide +kernel
theorem d_Mo_copyStrip_47 : decode prog_10_method_33_code 47 = .ok (.goto 4, 3) := by decide +kernel
theorem d_Mo_copyStrip_50 : decode prog_10_method_33_code 50 = .ok (.iload_n 3, 1) := by decide +kernel
theorem d_Mo_copyStrip_51 : decode prog_10_method_33_code 51 = .ok (.invokevirtual 88, 3) := by decide +kernel
theorem d_Mo_copyStrip_54 : decode prog_10_method_33_code 54 = .ok (.iinc 4 1, 3) := by decide +kernel
theorem d_Mo_copyStrip_57 : decode prog_10_method_33_code 57 = .ok (.goto (-54), 3) := by decide +kernel
theorem d_Mo_copyStrip_60 : decode prog_10_method_33_code 60 = .ok (.return_, 1) := by decide +kernel
theorem d_Mo_copyRegion_0 : decode prog_10_method_32_code 0 = .ok (.iconst 0, 1) := by decide +kernel
theorem d_Mo_copyRegion_1 : decode prog_10_method_32_code 1 = .ok (.istore 5, 2) := by decide +kernel
theorem d_Mo_copyRegion_3 : decode prog_10_method_32_code 3 = .ok (.iload 5, 2) := by decide +kernel
theorem d_Mo_copyRegion_5 : decode prog_10_method_32_code 5 = .ok (.iconst 4, 1) := by decide +kernel
theorem d_Mo_copyRegion_6 : decode prog_10_method_32_code 6 = .ok (.if_icmp .ge 36, 3) := by decide +kernel
theorem d_Mo_copyRegion_9 : decode prog_10_method_32_code 9 = .ok (.aload_n 0, 1) := by decide +kernel
theorem d_Mo_copyRegion_10 : decode prog_10_method_32_code 10 = .ok (.getfield 7, 3) := by decide +kernel
theorem d_Mo_copyRegion_13 : decode prog_10_method_32_code 13 = .ok (.iload_n 3, 1) := by decide +kernel
theorem d_Mo_copyRegion_14 : decode prog_10_method_32_code 14 = .ok (.iload 4, 2) := by decide +kernel
theorem d_Mo_copyRegion_16 : decode prog_10_method_32_code 16 = .ok (.invokestatic 59, 3) := by decide +kernel
theorem d_Mo_copyRegion_19 : decode prog_10_method_32_code 19 = .ok (.iload 5, 2) := by decide +kernel
theorem d_Mo_copyRegion_21 : decode prog_10_method_32_code 21 = .ok (.iadd, 1) := by decide +kernel
theorem d_Mo_copyRegion_22 : decode prog_10_method_32_code 22 = .ok (.aload_n 0, 1) := by decide +kernel
theorem d_Mo_copyRegion_23 : decode prog_10_method_32_code 23 = .ok (.getfield 7, 3) := by decide +kernel
theorem d_Mo_copyRegion_26 : decode prog_10_method_32_code 26 = .ok (.iload_n 1, 1) := by decide +kernel
theorem d_Mo_copyRegion_27 : decode prog_10_method_32_code 27 = .ok (.iload_n 2, 1) := by decide +kernel
theorem d_Mo_copyRegion_28 : decode prog_10_method_32_code 28 = .ok (.invokestatic 59, 3) := by decide +kernel
theorem d_Mo_copyRegion_31 : decode prog_10_method_32_code 31 = .ok (.iload 5, 2) := by decide +kernel
theorem d_Mo_copyRegion_33 : decode prog_10_method_32_code 33 = .ok (.iadd, 1) := by decide +kernel
theorem d_Mo_copyRegion_34 : decode prog_10_method_32_code 34 = .ok (.iaload, 1) := by decide +kernel
theorem d_Mo_copyRegion_35 : decode prog_10_method_32_code 35 = .ok (.iastore, 1) := by decide +kernel
theorem d_Mo_copyRegion_36 : decode prog_10_method_32_code 36 = .ok (.iinc 5 1, 3) := by decide +kernel
theorem d_Mo_copyRegion_39 : decode prog_10_method_32_code 39 = .ok (.goto (-36), 3) := by decide +kernel
theorem d_Mo_copyRegion_42 : decode prog_10_method_32_code 42 = .ok (.return_, 1) := by decide +kernel
theorem d_Mo_settle_0 : decode prog_10_method_35_code 0 = .ok (.aload_n 0, 1) := by decide +kernel
theorem d_Mo_settle_1 : decode prog_10_method_35_code 1 = .ok (.getfield 7, 3) := by decide +kernel
theorem d_Mo_settle_4 : decode prog_10_method_35_code 4 = .ok (.sipush 253, 3) := by decide +kernel
theorem d_Mo_settle_7 : decode prog_10_method_35_code 7 = .ok (.dup2, 1) := by decide +kernel
theorem d_Mo_settle_8 : decode prog_10_method_35_code 8 = .ok (.iaload, 1) := by decide +kernel
theorem d_Mo_settle_9 : decode prog_10_method_35_code 9 = .ok (.aload_n 0, 1) := by decide +kernel
theorem d_Mo_settle_10 : decode prog_10_method_35_code 10 = .ok (.invokevirtual 99, 3) := by decide +kernel
theorem d_Mo_settle_13 : decode prog_10_method_35_code 13 = .ok (.iload_n 1, 1) := by decide +kernel
theorem d_Mo_settle_14 : decode prog_10_method_35_code 14 = .ok (.isub, 1) := by decide +kernel
theorem d_Mo_settle_15 : decode prog_10_method_35_code 15 = .ok (.iadd, 1) := by decide +kernel
theorem d_Mo_settle_16 : decode prog_10_method_35_code 16 = .ok (.iastore, 1) := by decide +kernel
theorem d_Mo_settle_17 : decode prog_10_method_35_code 17 = .ok (.aload_n 0, 1) := by decide +kernel
theorem d_Mo_settle_18 : decode prog_10_method_35_code 18 = .ok (.invokevirtual 102, 3) := by decide +kernel
theorem d_Mo_settle_21 : decode prog_10_method_35_code 21 = .ok (.return_, 1) := by decide +kernel
theorem d_Mo_findZones_0 : decode prog_10_method_22_code 0 = .ok (.aload_n 0, 1) := by decide +kernel
theorem d_Mo_findZones_1 : decode prog_10_method_22_code 1 = .ok (.getfield 7, 3) := by decide +kernel
theorem d_Mo_findZones_4 : decode prog_10_method_22_code 4 = .ok (.sipush 236, 3) := by decide +kernel
theorem d_Mo_findZones_7 : decode prog_10_method_22_code 7 = .ok (.aload_n 0, 1) := by decide +kernel
theorem d_Mo_findZones_8 : decode prog_10_method_22_code 8 = .ok (.iconst 0, 1) := by decide +kernel
theorem d_Mo_findZones_9 : decode prog_10_method_22_code 9 = .ok (.aload_n 0, 1) := by decide +kernel
theorem d_Mo_findZones_10 : decode prog_10_method_22_code 10 = .ok (.getfield 7, 3) := by decide +kernel
theorem d_Mo_findZones_13 : decode prog_10_method_22_code 13 = .ok (.sipush 234, 3) := by decide +kernel
theorem d_Mo_findZones_16 : decode prog_10_method_22_code 16 = .ok (.iaload, 1) := by decide +kernel
theorem d_Mo_findZones_17 : decode prog_10_method_22_code 17 = .ok (.invokevirtual 68, 3) := by decide +kernel
theorem d_Mo_findZones_20 : decode prog_10_method_22_code 20 = .ok (.iastore, 1) := by decide +kernel
theorem d_Mo_findZones_21 : decode prog_10_method_22_code 21 = .ok (.aload_n 0, 1) := by decide +kernel
theorem d_Mo_findZones_22 : decode prog_10_method_22_code 22 = .ok (.getfield 7, 3) := by decide +kernel
theorem d_Mo_findZones_25 : decode prog_10_method_22_code 25 = .ok (.sipush 237, 3) := by decide +kernel
theorem d_Mo_findZones_28 : decode prog_10_method_22_code 28 = .ok (.aload_n 0, 1) := by decide +kernel
theorem d_Mo_findZones_29 : decode prog_10_method_22_code 29 = .ok (.iconst 1, 1) := by decide +kernel
theorem d_Mo_findZones_30 : decode prog_10_method_22_code 30 = .ok (.aload_n 0, 1) := by decide +kernel
theorem d_Mo_findZones_31 : decode prog_10_method_22_code 31 = .ok (.getfield 7, 3) := by decide +kernel
theorem d_Mo_findZones_34 : decode prog_10_method_22_code 34 = .ok (.sipush 235, 3) := by decide +kernel
theorem d_Mo_findZones_37 : decode prog_10_method_22_code 37 = .ok (.iaload, 1) := by decide +kernel
theorem d_Mo_findZones_38 : decode prog_10_method_22_code 38 = .ok (.invokevirtual 68, 3) := by decide +kernel
theorem d_Mo_findZones_41 : decode prog_10_method_22_code 41 = .ok (.iastore, 1) := by decide +kernel
theorem d_Mo_findZones_42 : decode prog_10_method_22_code 42 = .ok (.return_, 1) := by decide +kernel
theorem d_Mo_zoneOf_0 : decode prog_10_method_21_code 0 = .ok (.iconst 0, 1) := by decide +kernel
theorem d_Mo_zoneOf_1 : decode prog_10_method_21_code 1 = .ok (.istore_n 3, 1) := by decide +kernel
theorem d_Mo_zoneOf_2 : decode prog_10_method_21_code 2 = .ok (.iconst 0, 1) := by decide +kernel
theorem d_Mo_zoneOf_3 : decode prog_10_method_21_code 3 = .ok (.istore 4, 2) := by decide +kernel
theorem d_Mo_zoneOf_5 : decode prog_10_method_21_code 5 = .ok (.iload 4, 2) := by decide +kernel
theorem d_Mo_zoneOf_7 : decode prog_10_method_21_code 7 = .ok (.aload_n 0, 1) := by decide +kernel
theorem d_Mo_zoneOf_8 : decode prog_10_method_21_code 8 = .ok (.iload_n 1, 1) := by decide +kernel
theorem d_Mo_zoneOf_9 : decode prog_10_method_21_code 9 = .ok (.invokevirtual 55, 3) := by decide +kernel
theorem d_Mo_zoneOf_12 : decode prog_10_method_21_code 12 = .ok (.if_icmp .ge 40, 3) := by decide +kernel
theorem d_Mo_zoneOf_15 : decode prog_10_method_21_code 15 = .ok (.iload_n 3, 1) := by decide +kernel
theorem d_Mo_zoneOf_16 : decode prog_10_method_21_code 16 = .ok (.aload_n 0, 1) := by decide +kernel
theorem d_Mo_zoneOf_17 : decode prog_10_method_21_code 17 = .ok (.iload_n 1, 1) := by decide +kernel
theorem d_Mo_zoneOf_18 : decode prog_10_method_21_code 18 = .ok (.iload 4, 2) := by decide +kernel
theorem d_Mo_zoneOf_20 : decode prog_10_method_21_code 20 = .ok (.iconst 1, 1) := by decide +kernel
theorem d_Mo_zoneOf_21 : decode prog_10_method_21_code 21 = .ok (.invokevirtual 63, 3) := by decide +kernel
theorem d_Mo_zoneOf_24 : decode prog_10_method_21_code 24 = .ok (.ifCond .ne 19, 3) := by decide +kernel
theorem d_Mo_zoneOf_27 : decode prog_10_method_21_code 27 = .ok (.aload_n 0, 1) := by decide +kernel
theorem d_Mo_zoneOf_28 : decode prog_10_method_21_code 28 = .ok (.iload_n 1, 1) := by decide +kernel
theorem d_Mo_zoneOf_29 : decode prog_10_method_21_code 29 = .ok (.iload 4, 2) := by decide +kernel
theorem d_Mo_zoneOf_31 : decode prog_10_method_21_code 31 = .ok (.iconst 0, 1) := by decide +kernel
theorem d_Mo_zoneOf_32 : decode prog_10_method_21_code 32 = .ok (.invokevirtual 63, 3) := by decide +kernel
theorem d_Mo_zoneOf_35 : decode prog_10_method_21_code 35 = .ok (.iload_n 2, 1) := by decide +kernel
theorem d_Mo_zoneOf_36 : decode prog_10_method_21_code 36 = .ok (.if_icmp .gt 7, 3) := by decide +kernel
theorem d_Mo_zoneOf_39 : decode prog_10_method_21_code 39 = .ok (.iconst 1, 1) := by decide +kernel
theorem d_Mo_zoneOf_40 : decode prog_10_method_21_code 40 = .ok (.goto 4, 3) := by decide +kernel
theorem d_Mo_zoneOf_43 : decode prog_10_method_21_code 43 = .ok (.iconst 0, 1) := by decide +kernel
theorem d_Mo_zoneOf_44 : decode prog_10_method_21_code 44 = .ok (.iadd, 1) := by decide +kernel
theorem d_Mo_zoneOf_45 : decode prog_10_method_21_code 45 = .ok (.istore_n 3, 1) := by decide +kernel
theorem d_Mo_zoneOf_46 : decode prog_10_method_21_code 46 = .ok (.iinc 4 1, 3) := by decide +kernel
theorem d_Mo_zoneOf_49 : decode prog_10_method_21_code 49 = .ok (.goto (-44), 3) := by decide +kernel
theorem d_Mo_zoneOf_52 : decode prog_10_method_21_code 52 = .ok (.iload_n 3, 1) := by decide +kernel
theorem d_Mo_zoneOf_53 : decode prog_10_method_21_code 53 = .ok (.ireturn, 1) := by decide +kernel
theorem d_Mo_removeBorder_0 : decode prog_10_method_37_code 0 = .ok (.aload_n 0, 1) := by decide +kernel
theorem d_Mo_removeBorder_1 : decode prog_10_method_37_code 1 = .ok (.iconst 0, 1) := by decide +kernel
theorem d_Mo_removeBorder_2 : decode prog_10_method_37_code 2 = .ok (.putfield 37, 3) := by decide +kernel
theorem d_Mo_removeBorder_5 : decode prog_10_method_37_code 5 = .ok (.aload_n 0, 1) := by decide +kernel
theorem d_Mo_removeBorder_6 : decode prog_10_method_37_code 6 = .ok (.iload_n 1, 1) := by decide +kernel
theorem d_Mo_removeBorder_7 : decode prog_10_method_37_code 7 = .ok (.iload_n 2, 1) := by decide +kernel
theorem d_Mo_removeBorder_8 : decode prog_10_method_37_code 8 = .ok (.invokevirtual 130, 3) := by decide +kernel
theorem d_Mo_removeBorder_11 : decode prog_10_method_37_code 11 = .ok (.ifCond .ne 6, 3) := by decide +kernel
theorem d_Mo_removeBorder_14 : decode prog_10_method_37_code 14 = .ok (.ldc 112, 2) := by decide +kernel
theorem d_Mo_removeBorder_16 : decode prog_10_method_37_code 16 = .ok (.ireturn, 1) := by decide +kernel
theorem d_Mo_removeBorder_17 : decode prog_10_method_37_code 17 = .ok (.aload_n 0, 1) := by decide +kernel
theorem d_Mo_removeBorder_18 : decode prog_10_method_37_code 18 = .ok (.invokevirtual 119, 3) := by decide +kernel
theorem d_Mo_removeBorder_21 : decode prog_10_method_37_code 21 = .ok (.aload_n 0, 1) := by decide +kernel
theorem d_Mo_removeBorder_22 : decode prog_10_method_37_code 22 = .ok (.invokevirtual 99, 3) := by decide +kernel
theorem d_Mo_removeBorder_25 : decode prog_10_method_37_code 25 = .ok (.istore_n 3, 1) := by decide +kernel
theorem d_Mo_removeBorder_26 : decode prog_10_method_37_code 26 = .ok (.aload_n 0, 1) := by decide +kernel
theorem d_Mo_removeBorder_27 : decode prog_10_method_37_code 27 = .ok (.iload_n 1, 1) := by decide +kernel
theorem d_Mo_removeBorder_28 : decode prog_10_method_37_code 28 = .ok (.invokevirtual 55, 3) := by decide +kernel
theorem d_Mo_removeBorder_31 : decode prog_10_method_37_code 31 = .ok (.istore 4, 2) := by decide +kernel
theorem d_Mo_removeBorder_33 : decode prog_10_method_37_code 33 = .ok (.iload_n 2, 1) := by decide +kernel
theorem d_Mo_removeBorder_34 : decode prog_10_method_37_code 34 = .ok (.istore 5, 2) := by decide +kernel
theorem d_Mo_removeBorder_36 : decode prog_10_method_37_code 36 = .ok (.iload 5, 2) := by decide +kernel
theorem d_Mo_removeBorder_38 : decode prog_10_method_37_code 38 = .ok (.iconst 1, 1) := by decide +kernel
theorem d_Mo_removeBorder_39 : decode prog_10_method_37_code 39 = .ok (.iadd, 1) := by decide +kernel
theorem d_Mo_removeBorder_40 : decode prog_10_method_37_code 40 = .ok (.iload 4, 2) := by decide +kernel
theorem d_Mo_removeBorder_42 : decode prog_10_method_37_code 42 = .ok (.if_icmp .ge 46, 3) := by decide +kernel
theorem d_Mo_removeBorder_45 : decode prog_10_method_37_code 45 = .ok (.aload_n 0, 1) := by decide +kernel
theorem d_Mo_removeBorder_46 : decode prog_10_method_37_code 46 = .ok (.iload_n 1, 1) := by decide +kernel
theorem d_Mo_removeBorder_47 : decode prog_10_method_37_code 47 = .ok (.iload 5, 2) := by decide +kernel
theorem d_Mo_removeBorder_49 : decode prog_10_method_37_code 49 = .ok (.aload_n 0, 1) := by decide +kernel
theorem d_Mo_removeBorder_50 : decode prog_10_method_37_code 50 = .ok (.iload_n 1, 1) := by decide +kernel
theorem d_Mo_removeBorder_51 : decode prog_10_method_37_code 51 = .ok (.iload 5, 2) := by decide +kernel
theorem d_Mo_removeBorder_53 : decode prog_10_method_37_code 53 = .ok (.iconst 1, 1) := by decide +kernel
theorem d_Mo_removeBorder_54 : decode prog_10_method_37_code 54 = .ok (.iadd, 1) := by decide +kernel
theorem d_Mo_removeBorder_55 : decode prog_10_method_37_code 55 = .ok (.iconst 0, 1) := by decide +kernel
theorem d_Mo_removeBorder_56 : decode prog_10_method_37_code 56 = .ok (.invokevirtual 63, 3) := by decide +kernel
theorem d_Mo_removeBorder_59 : decode prog_10_method_37_code 59 = .ok (.aload_n 0, 1) := by decide +kernel
theorem d_Mo_removeBorder_60 : decode prog_10_method_37_code 60 = .ok (.iload_n 1, 1) := by decide +kernel
theorem d_Mo_removeBorder_61 : decode prog_10_method_37_code 61 = .ok (.iload 5, 2) := by decide +kernel
theorem d_Mo_removeBorder_63 : decode prog_10_method_37_code 63 = .ok (.iconst 1, 1) := by decide +kernel
theorem d_Mo_removeBorder_64 : decode prog_10_method_37_code 64 = .ok (.iadd, 1) := by decide +kernel
theorem d_Mo_removeBorder_65 : decode prog_10_method_37_code 65 = .ok (.iconst 1, 1) := by decide +kernel
theorem d_Mo_removeBorder_66 : decode prog_10_method_37_code 66 = .ok (.invokevirtual 63, 3) := by decide +kernel
theorem d_Mo_removeBorder_69 : decode prog_10_method_37_code 69 = .ok (.aload_n 0, 1) := by decide +kernel
theorem d_Mo_removeBorder_70 : decode prog_10_method_37_code 70 = .ok (.iload_n 1, 1) := by decide +kernel
theorem d_Mo_removeBorder_71 : decode prog_10_method_37_code 71 = .ok (.iload 5, 2) := by decide +kernel
theorem d_Mo_removeBorder_73 : decode prog_10_method_37_code 73 = .ok (.iconst 1, 1) := by decide +kernel
theorem d_Mo_removeBorder_74 : decode prog_10_method_37_code 74 = .ok (.iadd, 1) := by decide +kernel
theorem d_Mo_removeBorder_75 : decode prog_10_method_37_code 75 = .ok (.iconst 2, 1) := by decide +kernel
theorem d_Mo_removeBorder_76 : decode prog_10_method_37_code 76 = .ok (.invokevirtual 63, 3) := by decide +kernel
theorem d_Mo_removeBorder_79 : decode prog_10_method_37_code 79 = .ok (.invokevirtual 92, 3) := by decide +kernel
theorem d_Mo_removeBorder_82 : decode prog_10_method_37_code 82 = .ok (.iinc 5 1, 3) := by decide +kernel
theorem d_Mo_removeBorder_85 : decode prog_10_method_37_code 85 = .ok (.goto (-49), 3) := by decide +kernel
theorem d_Mo_removeBorder_88 : decode prog_10_method_37_code 88 = .ok (.iload_n 2, 1) := by decide +kernel
theorem d_Mo_removeBorder_89 : decode prog_10_method_37_code 89 = .ok (.iconst 1, 1) := by decide +kernel
theorem d_Mo_removeBorder_90 : decode prog_10_method_37_code 90 = .ok (.iadd, 1) := by decide +kernel
theorem d_Mo_removeBorder_91 : decode prog_10_method_37_code 91 = .ok (.istore 5, 2) := by decide +kernel
theorem d_Mo_removeBorder_93 : decode prog_10_method_37_code 93 = .ok (.iload 5, 2) := by decide +kernel
theorem d_Mo_removeBorder_95 : decode prog_10_method_37_code 95 = .ok (.iload 4, 2) := by decide +kernel
theorem d_Mo_removeBorder_97 : decode prog_10_method_37_code 97 = .ok (.if_icmp .ge 20, 3) := by decide +kernel
theorem d_Mo_removeBorder_100 : decode prog_10_method_37_code 100 = .ok (.aload_n 0, 1) := by decide +kernel
theorem d_Mo_removeBorder_101 : decode prog_10_method_37_code 101 = .ok (.iload_n 1, 1) := by decide +kernel
theorem d_Mo_removeBorder_102 : decode prog_10_method_37_code 102 = .ok (.iload 5, 2) := by decide +kernel
theorem d_Mo_removeBorder_104 : decode prog_10_method_37_code 104 = .ok (.iconst 1, 1) := by decide +kernel
theorem d_Mo_removeBorder_105 : decode prog_10_method_37_code 105 = .ok (.iadd, 1) := by decide +kernel
theorem d_Mo_removeBorder_106 : decode prog_10_method_37_code 106 = .ok (.iload 5, 2) := by decide +kernel
theorem d_Mo_removeBorder_108 : decode prog_10_method_37_code 108 = .ok (.invokevirtual 96, 3) := by decide +kernel
theorem d_Mo_removeBorder_111 : decode prog_10_method_37_code 111 = .ok (.iinc 5 1, 3) := by decide +kernel
theorem d_Mo_removeBorder_114 : decode prog_10_method_37_code 114 = .ok (.goto (-21), 3) := by decide +kernel
theorem d_Mo_removeBorder_117 : decode prog_10_method_37_code 117 = .ok (.aload_n 0, 1) := by decide +kernel
theorem d_Mo_removeBorder_118 : decode prog_10_method_37_code 118 = .ok (.getfield 7, 3) := by decide +kernel
theorem d_Mo_removeBorder_121 : decode prog_10_method_37_code 121 = .ok (.iconst 0, 1) := by decide +kernel
theorem d_Mo_removeBorder_122 : decode prog_10_method_37_code 122 = .ok (.bipush 19, 2) := by decide +kernel
theorem d_Mo_removeBorder_124 : decode prog_10_method_37_code 124 = .ok (.iload_n 1, 1) := by decide +kernel
theorem d_Mo_removeBorder_125 : decode prog_10_method_37_code 125 = .ok (.imul, 1) := by decide +kernel
theorem d_Mo_removeBorder_126 : decode prog_10_method_37_code 126 = .ok (.iadd, 1) := by decide +kernel
theorem d_Mo_removeBorder_127 : decode prog_10_method_37_code 127 = .ok (.dup2, 1) := by decide +kernel
theorem d_Mo_removeBorder_128 : decode prog_10_method_37_code 128 = .ok (.iaload, 1) := by decide +kernel
theorem d_Mo_removeBorder_129 : decode prog_10_method_37_code 129 = .ok (.iconst 1, 1) := by decide +kernel
theorem d_Mo_removeBorder_130 : decode prog_10_method_37_code 130 = .ok (.isub, 1) := by decide +kernel
theorem d_Mo_removeBorder_131 : decode prog_10_method_37_code 131 = .ok (.iastore, 1) := by decide +kernel
theorem d_Mo_removeBorder_132 : decode prog_10_method_37_code 132 = .ok (.aload_n 0, 1) := by decide +kernel
theorem d_Mo_removeBorder_133 : decode prog_10_method_37_code 133 = .ok (.iload_n 3, 1) := by decide +kernel
theorem d_Mo_removeBorder_134 : decode prog_10_method_37_code 134 = .ok (.invokevirtual 126, 3) := by decide +kernel
theorem d_Mo_removeBorder_137 : decode prog_10_method_37_code 137 = .ok (.aload_n 0, 1) := by decide +kernel
theorem d_Mo_removeBorder_138 : decode prog_10_method_37_code 138 = .ok (.iload_n 1, 1) := by decide +kernel
theorem d_Mo_removeBorder_139 : decode prog_10_method_37_code 139 = .ok (.invokevirtual 55, 3) := by decide +kernel
theorem d_Mo_removeBorder_142 : decode prog_10_method_37_code 142 = .ok (.ireturn, 1) := by decide +kernel
theorem d_Mo_isBorder_0 : decode prog_10_method_14_code 0 = .ok (.iload_n 1, 1) := by decide +kernel
theorem d_Mo_isBorder_1 : decode prog_10_method_14_code 1 = .ok (.invokestatic 51, 3) := by decide +kernel
theorem d_Mo_isBorder_4 : decode prog_10_method_14_code 4 = .ok (.ifCond .eq 22, 3) := by decide +kernel
theorem d_Mo_isBorder_7 : decode prog_10_method_14_code 7 = .ok (.iload_n 2, 1) := by decide +kernel
theorem d_Mo_isBorder_8 : decode prog_10_method_14_code 8 = .ok (.iconst 0, 1) := by decide +kernel
theorem d_Mo_isBorder_9 : decode prog_10_method_14_code 9 = .ok (.aload_n 0, 1) := by decide +kernel
theorem d_Mo_isBorder_10 : decode prog_10_method_14_code 10 = .ok (.iload_n 1, 1) := by decide +kernel
theorem d_Mo_isBorder_11 : decode prog_10_method_14_code 11 = .ok (.invokevirtual 55, 3) := by decide +kernel
theorem d_Mo_isBorder_14 : decode prog_10_method_14_code 14 = .ok (.iconst 1, 1) := by decide +kernel
theorem d_Mo_isBorder_15 : decode prog_10_method_14_code 15 = .ok (.isub, 1) := by decide +kernel
theorem d_Mo_isBorder_16 : decode prog_10_method_14_code 16 = .ok (.invokestatic 47, 3) := by decide +kernel
theorem d_Mo_isBorder_19 : decode prog_10_method_14_code 19 = .ok (.ifCond .eq 7, 3) := by decide +kernel
theorem d_Mo_isBorder_22 : decode prog_10_method_14_code 22 = .ok (.iconst 1, 1) := by decide +kernel
theorem d_Mo_isBorder_23 : decode prog_10_method_14_code 23 = .ok (.goto 4, 3) := by decide +kernel
theorem d_Mo_isBorder_26 : decode prog_10_method_14_code 26 = .ok (.iconst 0, 1) := by decide +kernel
theorem d_Mo_isBorder_27 : decode prog_10_method_14_code 27 = .ok (.ireturn, 1) := by decide +kernel
theorem d_Mo_setReach_0 : decode prog_10_method_38_code 0 = .ok (.aload_n 0, 1) := by decide +kernel
theorem d_Mo_setReach_1 : decode prog_10_method_38_code 1 = .ok (.iconst 0, 1) := by decide +kernel
theorem d_Mo_setReach_2 : decode prog_10_method_38_code 2 = .ok (.putfield 37, 3) := by decide +kernel
theorem d_Mo_setReach_5 : decode prog_10_method_38_code 5 = .ok (.aload_n 0, 1) := by decide +kernel
theorem d_Mo_setReach_6 : decode prog_10_method_38_code 6 = .ok (.iload_n 1, 1) := by decide +kernel
theorem d_Mo_setReach_7 : decode prog_10_method_38_code 7 = .ok (.iload_n 2, 1) := by decide +kernel
theorem d_Mo_setReach_8 : decode prog_10_method_38_code 8 = .ok (.invokevirtual 130, 3) := by decide +kernel
theorem d_Mo_setReach_11 : decode prog_10_method_38_code 11 = .ok (.ifCond .eq 31, 3) := by decide +kernel
theorem d_Mo_setReach_14 : decode prog_10_method_38_code 14 = .ok (.aload_n 0, 1) := by decide +kernel
theorem d_Mo_setReach_15 : decode prog_10_method_38_code 15 = .ok (.iload_n 1, 1) := by decide +kernel
theorem d_Mo_setReach_16 : decode prog_10_method_38_code 16 = .ok (.iload_n 2, 1) := by decide +kernel
theorem d_Mo_setReach_17 : decode prog_10_method_38_code 17 = .ok (.iconst 1, 1) := by decide +kernel
theorem d_Mo_setReach_18 : decode prog_10_method_38_code 18 = .ok (.invokevirtual 63, 3) := by decide +kernel
theorem d_Mo_setReach_21 : decode prog_10_method_38_code 21 = .ok (.iload_n 3, 1) := by decide +kernel
theorem d_Mo_setReach_22 : decode prog_10_method_38_code 22 = .ok (.invokestatic 105, 3) := by decide +kernel
theorem d_Mo_setReach_25 : decode prog_10_method_38_code 25 = .ok (.ifCond .eq 17, 3) := by decide +kernel
theorem d_Mo_setReach_28 : decode prog_10_method_38_code 28 = .ok (.aload_n 0, 1) := by decide +kernel
theorem d_Mo_setReach_29 : decode prog_10_method_38_code 29 = .ok (.iload_n 1, 1) := by decide +kernel
theorem d_Mo_setReach_30 : decode prog_10_method_38_code 30 = .ok (.iload_n 2, 1) := by decide +kernel
theorem d_Mo_setReach_31 : decode prog_10_method_38_code 31 = .ok (.iconst 0, 1) := by decide +kernel
theorem d_Mo_setReach_32 : decode prog_10_method_38_code 32 = .ok (.invokevirtual 63, 3) := by decide +kernel
theorem d_Mo_setReach_35 : decode prog_10_method_38_code 35 = .ok (.iload_n 3, 1) := by decide +kernel
theorem d_Mo_setReach_36 : decode prog_10_method_38_code 36 = .ok (.invokestatic 109, 3) := by decide +kernel
theorem d_Mo_setReach_39 : decode prog_10_method_38_code 39 = .ok (.ifCond .ne 6, 3) := by decide +kernel
theorem d_Mo_setReach_42 : decode prog_10_method_38_code 42 = .ok (.ldc 112, 2) := by decide +kernel
theorem d_Mo_setReach_44 : decode prog_10_method_38_code 44 = .ok (.ireturn, 1) := by decide +kernel
theorem d_Mo_setReach_45 : decode prog_10_method_38_code 45 = .ok (.aload_n 0, 1) := by decide +kernel
theorem d_Mo_setReach_46 : decode prog_10_method_38_code 46 = .ok (.iload_n 1, 1) := by decide +kernel
theorem d_Mo_setReach_47 : decode prog_10_method_38_code 47 = .ok (.aload_n 0, 1) := by decide +kernel
theorem d_Mo_setReach_48 : decode prog_10_method_38_code 48 = .ok (.iload_n 1, 1) := by decide +kernel
theorem d_Mo_setReach_49 : decode prog_10_method_38_code 49 = .ok (.iload_n 2, 1) := by decide +kernel
theorem d_Mo_setReach_50 : decode prog_10_method_38_code 50 = .ok (.iconst 0, 1) := by decide +kernel
theorem d_Mo_setReach_51 : decode prog_10_method_38_code 51 = .ok (.invokevirtual 63, 3) := by decide +kernel
theorem d_Mo_setReach_54 : decode prog_10_method_38_code 54 = .ok (.iload_n 3, 1) := by decide +kernel
theorem d_Mo_setReach_55 : decode prog_10_method_38_code 55 = .ok (.iload_n 2, 1) := by decide +kernel
theorem d_Mo_setReach_56 : decode prog_10_method_38_code 56 = .ok (.invokevirtual 113, 3) := by decide +kernel
theorem d_Mo_setReach_59 : decode prog_10_method_38_code 59 = .ok (.ifCond .eq 6, 3) := by decide +kernel
theorem d_Mo_setReach_62 : decode prog_10_method_38_code 62 = .ok (.ldc 117, 2) := by decide +kernel
theorem d_Mo_setReach_64 : decode prog_10_method_38_code 64 = .ok (.ireturn, 1) := by decide +kernel
theorem d_Mo_setReach_65 : decode prog_10_method_38_code 65 = .ok (.aload_n 0, 1) := by decide +kernel
theorem d_Mo_setReach_66 : decode prog_10_method_38_code 66 = .ok (.invokevirtual 119, 3) := by decide +kernel
theorem d_Mo_setReach_69 : decode prog_10_method_38_code 69 = .ok (.aload_n 0, 1) := by decide +kernel
theorem d_Mo_setReach_70 : decode prog_10_method_38_code 70 = .ok (.iload_n 1, 1) := by decide +kernel
theorem d_Mo_setReach_71 : decode prog_10_method_38_code 71 = .ok (.iload_n 2, 1) := by decide +kernel
theorem d_Mo_setReach_72 : decode prog_10_method_38_code 72 = .ok (.iconst 2, 1) := by decide +kernel
theorem d_Mo_setReach_73 : decode prog_10_method_38_code 73 = .ok (.invokevirtual 63, 3) := by decide +kernel
theorem d_Mo_setReach_76 : decode prog_10_method_38_code 76 = .ok (.istore 4, 2) := by decide +kernel
theorem d_Mo_setReach_78 : decode prog_10_method_38_code 78 = .ok (.aload_n 0, 1) := by decide +kernel
theorem d_Mo_setReach_79 : decode prog_10_method_38_code 79 = .ok (.iload_n 1, 1) := by decide +kernel
theorem d_Mo_setReach_80 : decode prog_10_method_38_code 80 = .ok (.iload_n 2, 1) := by decide +kernel
theorem d_Mo_setReach_81 : decode prog_10_method_38_code 81 = .ok (.aload_n 0, 1) := by decide +kernel
theorem d_Mo_setReach_82 : decode prog_10_method_38_code 82 = .ok (.iload_n 1, 1) := by decide +kernel
theorem d_Mo_setReach_83 : decode prog_10_method_38_code 83 = .ok (.iload_n 2, 1) := by decide +kernel
theorem d_Mo_setReach_84 : decode prog_10_method_38_code 84 = .ok (.iconst 0, 1) := by decide +kernel
theorem d_Mo_setReach_85 : decode prog_10_method_38_code 85 = .ok (.invokevirtual 63, 3) := by decide +kernel
theorem d_Mo_setReach_88 : decode prog_10_method_38_code 88 = .ok (.aload_n 0, 1) := by decide +kernel
theorem d_Mo_setReach_89 : decode prog_10_method_38_code 89 = .ok (.iload_n 1, 1) := by decide +kernel
theorem d_Mo_setReach_90 : decode prog_10_method_38_code 90 = .ok (.iload_n 2, 1) := by decide +kernel
theorem d_Mo_setReach_91 : decode prog_10_method_38_code 91 = .ok (.iconst 1, 1) := by decide +kernel
theorem d_Mo_setReach_92 : decode prog_10_method_38_code 92 = .ok (.invokevirtual 63, 3) := by decide +kernel
theorem d_Mo_setReach_95 : decode prog_10_method_38_code 95 = .ok (.iload_n 3, 1) := by decide +kernel
theorem d_Mo_setReach_96 : decode prog_10_method_38_code 96 = .ok (.invokevirtual 92, 3) := by decide +kernel
theorem d_Mo_setReach_99 : decode prog_10_method_38_code 99 = .ok (.aload_n 0, 1) := by decide +kernel
theorem d_Mo_setReach_100 : decode prog_10_method_38_code 100 = .ok (.invokevirtual 102, 3) := by decide +kernel
theorem d_Mo_setReach_103 : decode prog_10_method_38_code 103 = .ok (.iload 4, 2) := by decide +kernel
theorem d_Mo_setReach_105 : decode prog_10_method_38_code 105 = .ok (.ireturn, 1) := by decide +kernel
theorem d_Mo_setOperator_0 : decode prog_10_method_40_code 0 = .ok (.aload_n 0, 1) := by decide +kernel
theorem d_Mo_setOperator_1 : decode prog_10_method_40_code 1 = .ok (.iconst 0, 1) := by decide +kernel
theorem d_Mo_setOperator_2 : decode prog_10_method_40_code 2 = .ok (.putfield 37, 3) := by decide +kernel
theorem d_Mo_setOperator_5 : decode prog_10_method_40_code 5 = .ok (.iload_n 2, 1) := by decide +kernel
theorem d_Mo_setOperator_6 : decode prog_10_method_40_code 6 = .ok (.ifCond .ne 14, 3) := by decide +kernel
theorem d_Mo_setOperator_9 : decode prog_10_method_40_code 9 = .ok (.iload_n 3, 1) := by decide +kernel
theorem d_Mo_setOperator_10 : decode prog_10_method_40_code 10 = .ok (.iconst 1, 1) := by decide +kernel
theorem d_Mo_setOperator_11 : decode prog_10_method_40_code 11 = .ok (.sipush 9999, 3) := by decide +kernel
theorem d_Mo_setOperator_14 : decode prog_10_method_40_code 14 = .ok (.invokestatic 47, 3) := by decide +kernel
theorem d_Mo_setOperator_17 : decode prog_10_method_40_code 17 = .ok (.goto 23, 3) := by decide +kernel
theorem d_Mo_setOperator_20 : decode prog_10_method_40_code 20 = .ok (.iload_n 2, 1) := by decide +kernel
theorem d_Mo_setOperator_21 : decode prog_10_method_40_code 21 = .ok (.iconst 1, 1) := by decide +kernel
theorem d_Mo_setOperator_22 : decode prog_10_method_40_code 22 = .ok (.if_icmp .ne 17, 3) := by decide +kernel
theorem d_Mo_setOperator_25 : decode prog_10_method_40_code 25 = .ok (.iload_n 3, 1) := by decide +kernel
theorem d_Mo_setOperator_26 : decode prog_10_method_40_code 26 = .ok (.iconst 0, 1) := by decide +kernel
theorem d_Mo_setOperator_27 : decode prog_10_method_40_code 27 = .ok (.ldc 133, 2) := by decide +kernel
theorem d_Mo_setOperator_29 : decode prog_10_method_40_code 29 = .ok (.invokestatic 47, 3) := by decide +kernel
theorem d_Mo_setOperator_32 : decode prog_10_method_40_code 32 = .ok (.ifCond .eq 7, 3) := by decide +kernel
theorem d_Mo_setOperator_35 : decode prog_10_method_40_code 35 = .ok (.iconst 1, 1) := by decide +kernel
theorem d_Mo_setOperator_36 : decode prog_10_method_40_code 36 = .ok (.goto 4, 3) := by decide +kernel
theorem d_Mo_setOperator_39 : decode prog_10_method_40_code 39 = .ok (.iconst 0, 1) := by decide +kernel
theorem d_Mo_setOperator_40 : decode prog_10_method_40_code 40 = .ok (.istore 4, 2) := by decide +kernel
theorem d_Mo_setOperator_42 : decode prog_10_method_40_code 42 = .ok (.iload_n 1, 1) := by decide +kernel
theorem d_Mo_setOperator_43 : decode prog_10_method_40_code 43 = .ok (.invokestatic 134, 3) := by decide +kernel
theorem d_Mo_setOperator_46 : decode prog_10_method_40_code 46 = .ok (.ifCond .eq 8, 3) := by decide +kernel
theorem d_Mo_setOperator_49 : decode prog_10_method_40_code 49 = .ok (.iload 4, 2) := by decide +kernel
theorem d_Mo_setOperator_51 : decode prog_10_method_40_code 51 = .ok (.ifCond .ne 6, 3) := by decide +kernel
theorem d_Mo_setOperator_54 : decode prog_10_method_40_code 54 = .ok (.ldc 112, 2) := by decide +kernel
theorem d_Mo_setOperator_56 : decode prog_10_method_40_code 56 = .ok (.ireturn, 1) := by decide +kernel
theorem d_Mo_setOperator_57 : decode prog_10_method_40_code 57 = .ok (.aload_n 0, 1) := by decide +kernel
theorem d_Mo_setOperator_58 : decode prog_10_method_40_code 58 = .ok (.invokevirtual 119, 3) := by decide +kernel
theorem d_Mo_setOperator_61 : decode prog_10_method_40_code 61 = .ok (.aload_n 0, 1) := by decide +kernel
theorem d_Mo_setOperator_62 : decode prog_10_method_40_code 62 = .ok (.getfield 7, 3) := by decide +kernel
theorem d_Mo_setOperator_65 : decode prog_10_method_40_code 65 = .ok (.sipush 241, 3) := by decide +kernel
theorem d_Mo_setOperator_68 : decode prog_10_method_40_code 68 = .ok (.iconst 3, 1) := by decide +kernel
theorem d_Mo_setOperator_69 : decode prog_10_method_40_code 69 = .ok (.iload_n 1, 1) := by decide +kernel
theorem d_Mo_setOperator_70 : decode prog_10_method_40_code 70 = .ok (.imul, 1) := by decide +kernel
theorem d_Mo_setOperator_71 : decode prog_10_method_40_code 71 = .ok (.iadd, 1) := by decide +kernel
theorem d_Mo_setOperator_72 : decode prog_10_method_40_code 72 = .ok (.iload_n 2, 1) := by decide +kernel
theorem d_Mo_setOperator_73 : decode prog_10_method_40_code 73 = .ok (.iadd, 1) := by decide +kernel
theorem d_Mo_setOperator_74 : decode prog_10_method_40_code 74 = .ok (.iaload, 1) := by decide +kernel
theorem d_Mo_setOperator_75 : decode prog_10_method_40_code 75 = .ok (.istore 5, 2) := by decide +kernel
theorem d_Mo_setOperator_77 : decode prog_10_method_40_code 77 = .ok (.aload_n 0, 1) := by decide +kernel
theorem d_Mo_setOperator_78 : decode prog_10_method_40_code 78 = .ok (.getfield 7, 3) := by decide +kernel
theorem d_Mo_setOperator_81 : decode prog_10_method_40_code 81 = .ok (.sipush 241, 3) := by decide +kernel
theorem d_Mo_setOperator_84 : decode prog_10_method_40_code 84 = .ok (.iconst 3, 1) := by decide +kernel
theorem d_Mo_setOperator_85 : decode prog_10_method_40_code 85 = .ok (.iload_n 1, 1) := by decide +kernel
theorem d_Mo_setOperator_86 : decode prog_10_method_40_code 86 = .ok (.imul, 1) := by decide +kernel
theorem d_Mo_setOperator_87 : decode prog_10_method_40_code 87 = .ok (.iadd, 1) := by decide +kernel
theorem d_Mo_setOperator_88 : decode prog_10_method_40_code 88 = .ok (.iload_n 2, 1) := by decide +kernel
theorem d_Mo_setOperator_89 : decode prog_10_method_40_code 89 = .ok (.iadd, 1) := by decide +kernel
theorem d_Mo_setOperator_90 : decode prog_10_method_40_code 90 = .ok (.iload_n 3, 1) := by decide +kernel
theorem d_Mo_setOperator_91 : decode prog_10_method_40_code 91 = .ok (.iastore, 1) := by decide +kernel
theorem d_Mo_setOperator_92 : decode prog_10_method_40_code 92 = .ok (.iload 5, 2) := by decide +kernel
theorem d_Mo_setOperator_94 : decode prog_10_method_40_code 94 = .ok (.ireturn, 1) := by decide +kernel
theorem d_Mo_isOperator_0 : decode prog_10_method_39_code 0 = .ok (.iload_n 0, 1) := by decide +kernel
theorem d_Mo_isOperator_1 : decode prog_10_method_39_code 1 = .ok (.iconst 0, 1) := by decide +kernel
theorem d_Mo_isOperator_2 : decode prog_10_method_39_code 2 = .ok (.iconst 2, 1) := by decide +kernel
theorem d_Mo_isOperator_3 : decode prog_10_method_39_code 3 = .ok (.invokestatic 47, 3) := by decide +kernel
theorem d_Mo_isOperator_6 : decode prog_10_method_39_code 6 = .ok (.ireturn, 1) := by decide +kernel
theorem d_Mo_edit_0 : decode prog_10_method_44_code 0 = .ok (.aload_n 0, 1) := by decide +kernel
theorem d_Mo_edit_1 : decode prog_10_method_44_code 1 = .ok (.iconst 0, 1) := by decide +kernel
theorem d_Mo_edit_2 : decode prog_10_method_44_code 2 = .ok (.putfield 37, 3) := by decide +kernel
theorem d_Mo_edit_5 : decode prog_10_method_44_code 5 = .ok (.aload_n 0, 1) := by decide +kernel
theorem d_Mo_edit_6 : decode prog_10_method_44_code 6 = .ok (.iload_n 1, 1) := by decide +kernel
theorem d_Mo_edit_7 : decode prog_10_method_44_code 7 = .ok (.iload_n 2, 1) := by decide +kernel
theorem d_Mo_edit_8 : decode prog_10_method_44_code 8 = .ok (.iload_n 3, 1) := by decide +kernel
theorem d_Mo_edit_9 : decode prog_10_method_44_code 9 = .ok (.iload 4, 2) := by decide +kernel
theorem d_Mo_edit_11 : decode prog_10_method_44_code 11 = .ok (.iload 5, 2) := by decide +kernel
theorem d_Mo_edit_13 : decode prog_10_method_44_code 13 = .ok (.invokevirtual 140, 3) := by decide +kernel
theorem d_Mo_edit_16 : decode prog_10_method_44_code 16 = .ok (.ifCond .ne 6, 3) := by decide +kernel
theorem d_Mo_edit_19 : decode prog_10_method_44_code 19 = .ok (.ldc 112, 2) := by decide +kernel
theorem d_Mo_edit_21 : decode prog_10_method_44_code 21 = .ok (.ireturn, 1) := by decide +kernel
theorem d_Mo_edit_22 : decode prog_10_method_44_code 22 = .ok (.aload_n 0, 1) := by decide +kernel
theorem d_Mo_edit_23 : decode prog_10_method_44_code 23 = .ok (.iload_n 1, 1) := by decide +kernel
theorem d_Mo_edit_24 : decode prog_10_method_44_code 24 = .ok (.iload_n 2, 1) := by decide +kernel
theorem d_Mo_edit_25 : decode prog_10_method_44_code 25 = .ok (.iload_n 3, 1) := by decide +kernel
theorem d_Mo_edit_26 : decode prog_10_method_44_code 26 = .ok (.iload 4, 2) := by decide +kernel
theorem d_Mo_edit_28 : decode prog_10_method_44_code 28 = .ok (.iload 5, 2) := by decide +kernel
theorem d_Mo_edit_30 : decode prog_10_method_44_code 30 = .ok (.invokevirtual 144, 3) := by decide +kernel
theorem d_Mo_edit_33 : decode prog_10_method_44_code 33 = .ok (.ifCond .eq 6, 3) := by decide +kernel
theorem d_Mo_edit_36 : decode prog_10_method_44_code 36 = .ok (.ldc 117, 2) := by decide +kernel
theorem d_Mo_edit_38 : decode prog_10_method_44_code 38 = .ok (.ireturn, 1) := by decide +kernel
theorem d_Mo_edit_39 : decode prog_10_method_44_code 39 = .ok (.aload_n 0, 1) := by decide +kernel
theorem d_Mo_edit_40 : decode prog_10_method_44_code 40 = .ok (.invokevirtual 119, 3) := by decide +kernel
theorem d_Mo_edit_43 : decode prog_10_method_44_code 43 = .ok (.aload_n 0, 1) := by decide +kernel
theorem d_Mo_edit_44 : decode prog_10_method_44_code 44 = .ok (.getfield 7, 3) := by decide +kernel
theorem d_Mo_edit_47 : decode prog_10_method_44_code 47 = .ok (.iload_n 2, 1) := by decide +kernel
theorem d_Mo_edit_48 : decode prog_10_method_44_code 48 = .ok (.iload_n 3, 1) := by decide +kernel
theorem d_Mo_edit_49 : decode prog_10_method_44_code 49 = .ok (.invokestatic 59, 3) := by decide +kernel
theorem d_Mo_edit_52 : decode prog_10_method_44_code 52 = .ok (.iload 4, 2) := by decide +kernel
theorem d_Mo_edit_54 : decode prog_10_method_44_code 54 = .ok (.iadd, 1) := by decide +kernel
theorem d_Mo_edit_55 : decode prog_10_method_44_code 55 = .ok (.iaload, 1) := by decide +kernel
theorem d_Mo_edit_56 : decode prog_10_method_44_code 56 = .ok (.istore 6, 2) := by decide +kernel
theorem d_Mo_edit_58 : decode prog_10_method_44_code 58 = .ok (.aload_n 0, 1) := by decide +kernel
theorem d_Mo_edit_59 : decode prog_10_method_44_code 59 = .ok (.iload_n 1, 1) := by decide +kernel
theorem d_Mo_edit_60 : decode prog_10_method_44_code 60 = .ok (.iload_n 2, 1) := by decide +kernel
theorem d_Mo_edit_61 : decode prog_10_method_44_code 61 = .ok (.iload_n 3, 1) := by decide +kernel
theorem d_Mo_edit_62 : decode prog_10_method_44_code 62 = .ok (.iload 4, 2) := by decide +kernel
theorem d_Mo_edit_64 : decode prog_10_method_44_code 64 = .ok (.iload 5, 2) := by decide +kernel
theorem d_Mo_edit_66 : decode prog_10_method_44_code 66 = .ok (.invokevirtual 148, 3) := by decide +kernel
theorem d_Mo_edit_69 : decode prog_10_method_44_code 69 = .ok (.iload 6, 2) := by decide +kernel
theorem d_Mo_edit_71 : decode prog_10_method_44_code 71 = .ok (.ireturn, 1) := by decide +kernel
theorem d_Mo_isEdit_0 : decode prog_10_method_43_code 0 = .ok (.iload_n 1, 1) := by decide +kernel
theorem d_Mo_isEdit_1 : decode prog_10_method_43_code 1 = .ok (.invokestatic 134, 3) := by decide +kernel
theorem d_Mo_isEdit_4 : decode prog_10_method_43_code 4 = .ok (.ifCond .eq 38, 3) := by decide +kernel
theorem d_Mo_isEdit_7 : decode prog_10_method_43_code 7 = .ok (.aload_n 0, 1) := by decide +kernel
theorem d_Mo_isEdit_8 : decode prog_10_method_43_code 8 = .ok (.iload_n 2, 1) := by decide +kernel
theorem d_Mo_isEdit_9 : decode prog_10_method_43_code 9 = .ok (.iload_n 3, 1) := by decide +kernel
theorem d_Mo_isEdit_10 : decode prog_10_method_43_code 10 = .ok (.invokevirtual 137, 3) := by decide +kernel
theorem d_Mo_isEdit_13 : decode prog_10_method_43_code 13 = .ok (.ifCond .eq 29, 3) := by decide +kernel
theorem d_Mo_isEdit_16 : decode prog_10_method_43_code 16 = .ok (.iload 4, 2) := by decide +kernel
theorem d_Mo_isEdit_18 : decode prog_10_method_43_code 18 = .ok (.iconst 0, 1) := by decide +kernel
theorem d_Mo_isEdit_19 : decode prog_10_method_43_code 19 = .ok (.iconst 2, 1) := by decide +kernel
theorem d_Mo_isEdit_20 : decode prog_10_method_43_code 20 = .ok (.invokestatic 47, 3) := by decide +kernel
theorem d_Mo_isEdit_23 : decode prog_10_method_43_code 23 = .ok (.ifCond .eq 19, 3) := by decide +kernel
theorem d_Mo_isEdit_26 : decode prog_10_method_43_code 26 = .ok (.iload 5, 2) := by decide +kernel
theorem d_Mo_isEdit_28 : decode prog_10_method_43_code 28 = .ok (.iconst 0, 1) := by decide +kernel
theorem d_Mo_isEdit_29 : decode prog_10_method_43_code 29 = .ok (.sipush 9999, 3) := by decide +kernel
theorem d_Mo_isEdit_32 : decode prog_10_method_43_code 32 = .ok (.invokestatic 47, 3) := by decide +kernel
theorem d_Mo_isEdit_35 : decode prog_10_method_43_code 35 = .ok (.ifCond .eq 7, 3) := by decide +kernel
theorem d_Mo_isEdit_38 : decode prog_10_method_43_code 38 = .ok (.iconst 1, 1) := by decide +kernel
theorem d_Mo_isEdit_39 : decode prog_10_method_43_code 39 = .ok (.goto 4, 3) := by decide +kernel
theorem d_Mo_isEdit_42 : decode prog_10_method_43_code 42 = .ok (.iconst 0, 1) := by decide +kernel
theorem d_Mo_isEdit_43 : decode prog_10_method_43_code 43 = .ok (.ireturn, 1) := by decide +kernel
theorem d_Mo_isRegion_0 : decode prog_10_method_16_code 0 = .ok (.iload_n 1, 1) := by decide +kernel
theorem d_Mo_isRegion_1 : decode prog_10_method_16_code 1 = .ok (.iconst 0, 1) := by decide +kernel
theorem d_Mo_isRegion_2 : decode prog_10_method_16_code 2 = .ok (.aload_n 0, 1) := by decide +kernel
theorem d_Mo_isRegion_3 : decode prog_10_method_16_code 3 = .ok (.iconst 0, 1) := by decide +kernel
theorem d_Mo_isRegion_4 : decode prog_10_method_16_code 4 = .ok (.invokevirtual 55, 3) := by decide +kernel
theorem d_Mo_isRegion_7 : decode prog_10_method_16_code 7 = .ok (.invokestatic 47, 3) := by decide +kernel
theorem d_Mo_isRegion_10 : decode prog_10_method_16_code 10 = .ok (.ifCond .eq 20, 3) := by decide +kernel
theorem d_Mo_isRegion_13 : decode prog_10_method_16_code 13 = .ok (.iload_n 2, 1) := by decide +kernel
theorem d_Mo_isRegion_14 : decode prog_10_method_16_code 14 = .ok (.iconst 0, 1) := by decide +kernel
theorem d_Mo_isRegion_15 : decode prog_10_method_16_code 15 = .ok (.aload_n 0, 1) := by decide +kernel
theorem d_Mo_isRegion_16 : decode prog_10_method_16_code 16 = .ok (.iconst 1, 1) := by decide +kernel
theorem d_Mo_isRegion_17 : decode prog_10_method_16_code 17 = .ok (.invokevirtual 55, 3) := by decide +kernel
theorem d_Mo_isRegion_20 : decode prog_10_method_16_code 20 = .ok (.invokestatic 47, 3) := by decide +kernel
theorem d_Mo_isRegion_23 : decode prog_10_method_16_code 23 = .ok (.ifCond .eq 7, 3) := by decide +kernel
theorem d_Mo_isRegion_26 : decode prog_10_method_16_code 26 = .ok (.iconst 1, 1) := by decide +kernel
theorem d_Mo_isRegion_27 : decode prog_10_method_16_code 27 = .ok (.goto 4, 3) := by decide +kernel
theorem d_Mo_isRegion_30 : decode prog_10_method_16_code 30 = .ok (.iconst 0, 1) := by decide +kernel
theorem d_Mo_isRegion_31 : decode prog_10_method_16_code 31 = .ok (.ireturn, 1) := by decide +kernel
theorem d_Mo_refusalOf_0 : decode prog_10_method_41_code 0 = .ok (.aload_n 0, 1) := by decide +kernel
theorem d_Mo_refusalOf_1 : decode prog_10_method_41_code 1 = .ok (.getfield 7, 3) := by decide +kernel
theorem d_Mo_refusalOf_4 : decode prog_10_method_41_code 4 = .ok (.iload_n 2, 1) := by decide +kernel
theorem d_Mo_refusalOf_5 : decode prog_10_method_41_code 5 = .ok (.iload_n 3, 1) := by decide +kernel
theorem d_Mo_refusalOf_6 : decode prog_10_method_41_code 6 = .ok (.invokestatic 59, 3) := by decide +kernel
theorem d_Mo_refusalOf_9 : decode prog_10_method_41_code 9 = .ok (.iconst 3, 1) := by decide +kernel
theorem d_Mo_refusalOf_10 : decode prog_10_method_41_code 10 = .ok (.iadd, 1) := by decide +kernel
theorem d_Mo_refusalOf_11 : decode prog_10_method_41_code 11 = .ok (.iaload, 1) := by decide +kernel
theorem d_Mo_refusalOf_12 : decode prog_10_method_41_code 12 = .ok (.istore 6, 2) := by decide +kernel
theorem d_Mo_refusalOf_14 : decode prog_10_method_41_code 14 = .ok (.aload_n 0, 1) := by decide +kernel
theorem d_Mo_refusalOf_15 : decode prog_10_method_41_code 15 = .ok (.getfield 7, 3) := by decide +kernel
theorem d_Mo_refusalOf_18 : decode prog_10_method_41_code 18 = .ok (.iload_n 2, 1) := by decide +kernel
theorem d_Mo_refusalOf_19 : decode prog_10_method_41_code 19 = .ok (.iload_n 3, 1) := by decide +kernel
theorem d_Mo_refusalOf_20 : decode prog_10_method_41_code 20 = .ok (.invokestatic 59, 3) := by decide +kernel
theorem d_Mo_refusalOf_23 : decode prog_10_method_41_code 23 = .ok (.iload 4, 2) := by decide +kernel
theorem d_Mo_refusalOf_25 : decode prog_10_method_41_code 25 = .ok (.iadd, 1) := by decide +kernel
theorem d_Mo_refusalOf_26 : decode prog_10_method_41_code 26 = .ok (.iaload, 1) := by decide +kernel
theorem d_Mo_refusalOf_27 : decode prog_10_method_41_code 27 = .ok (.iload 5, 2) := by decide +kernel
theorem d_Mo_refusalOf_29 : decode prog_10_method_41_code 29 = .ok (.invokestatic 85, 3) := by decide +kernel
theorem d_Mo_refusalOf_32 : decode prog_10_method_41_code 32 = .ok (.istore 7, 2) := by decide +kernel
theorem d_Mo_refusalOf_34 : decode prog_10_method_41_code 34 = .ok (.iload 6, 2) := by decide +kernel
theorem d_Mo_refusalOf_36 : decode prog_10_method_41_code 36 = .ok (.iconst (-1), 1) := by decide +kernel
theorem d_Mo_refusalOf_37 : decode prog_10_method_41_code 37 = .ok (.if_icmp .eq 11, 3) := by decide +kernel
theorem d_Mo_refusalOf_40 : decode prog_10_method_41_code 40 = .ok (.iload 6, 2) := by decide +kernel
theorem d_Mo_refusalOf_42 : decode prog_10_method_41_code 42 = .ok (.iload_n 1, 1) := by decide +kernel
theorem d_Mo_refusalOf_43 : decode prog_10_method_41_code 43 = .ok (.if_icmp .eq 5, 3) := by decide +kernel
theorem d_Mo_refusalOf_46 : decode prog_10_method_41_code 46 = .ok (.iconst 1, 1) := by decide +kernel
theorem d_Mo_refusalOf_47 : decode prog_10_method_41_code 47 = .ok (.ireturn, 1) := by decide +kernel
theorem d_Mo_refusalOf_48 : decode prog_10_method_41_code 48 = .ok (.iload 7, 2) := by decide +kernel
theorem d_Mo_refusalOf_50 : decode prog_10_method_41_code 50 = .ok (.aload_n 0, 1) := by decide +kernel
theorem d_Mo_refusalOf_51 : decode prog_10_method_41_code 51 = .ok (.getfield 7, 3) := by decide +kernel
theorem d_Mo_refusalOf_54 : decode prog_10_method_41_code 54 = .ok (.sipush 241, 3) := by decide +kernel
theorem d_Mo_refusalOf_57 : decode prog_10_method_41_code 57 = .ok (.iconst 3, 1) := by decide +kernel
theorem d_Mo_refusalOf_58 : decode prog_10_method_41_code 58 = .ok (.iload_n 1, 1) := by decide +kernel
theorem d_Mo_refusalOf_59 : decode prog_10_method_41_code 59 = .ok (.imul, 1) := by decide +kernel
theorem d_Mo_refusalOf_60 : decode prog_10_method_41_code 60 = .ok (.iadd, 1) := by decide +kernel
theorem d_Mo_refusalOf_61 : decode prog_10_method_41_code 61 = .ok (.iconst 0, 1) := by decide +kernel
theorem d_Mo_refusalOf_62 : decode prog_10_method_41_code 62 = .ok (.iadd, 1) := by decide +kernel
theorem d_Mo_refusalOf_63 : decode prog_10_method_41_code 63 = .ok (.iaload, 1) := by decide +kernel
theorem d_Mo_refusalOf_64 : decode prog_10_method_41_code 64 = .ok (.if_icmp .le 7, 3) := by decide +kernel
theorem d_Mo_refusalOf_67 : decode prog_10_method_41_code 67 = .ok (.iconst 2, 1) := by decide +kernel
theorem d_Mo_refusalOf_68 : decode prog_10_method_41_code 68 = .ok (.goto 27, 3) := by decide +kernel
theorem d_Mo_refusalOf_71 : decode prog_10_method_41_code 71 = .ok (.iload 7, 2) := by decide +kernel
theorem d_Mo_refusalOf_73 : decode prog_10_method_41_code 73 = .ok (.aload_n 0, 1) := by decide +kernel
theorem d_Mo_refusalOf_74 : decode prog_10_method_41_code 74 = .ok (.getfield 7, 3) := by decide +kernel
theorem d_Mo_refusalOf_77 : decode prog_10_method_41_code 77 = .ok (.sipush 241, 3) := by decide +kernel
theorem d_Mo_refusalOf_80 : decode prog_10_method_41_code 80 = .ok (.iconst 3, 1) := by decide +kernel
theorem d_Mo_refusalOf_81 : decode prog_10_method_41_code 81 = .ok (.iload_n 1, 1) := by decide +kernel
theorem d_Mo_refusalOf_82 : decode prog_10_method_41_code 82 = .ok (.imul, 1) := by decide +kernel
theorem d_Mo_refusalOf_83 : decode prog_10_method_41_code 83 = .ok (.iadd, 1) := by decide +kernel
theorem d_Mo_refusalOf_84 : decode prog_10_method_41_code 84 = .ok (.iconst 1, 1) := by decide +kernel
theorem d_Mo_refusalOf_85 : decode prog_10_method_41_code 85 = .ok (.iadd, 1) := by decide +kernel
theorem d_Mo_refusalOf_86 : decode prog_10_method_41_code 86 = .ok (.iaload, 1) := by decide +kernel
theorem d_Mo_refusalOf_87 : decode prog_10_method_41_code 87 = .ok (.if_icmp .le 7, 3) := by decide +kernel
theorem d_Mo_refusalOf_90 : decode prog_10_method_41_code 90 = .ok (.iconst 3, 1) := by decide +kernel
theorem d_Mo_refusalOf_91 : decode prog_10_method_41_code 91 = .ok (.goto 4, 3) := by decide +kernel
theorem d_Mo_refusalOf_94 : decode prog_10_method_41_code 94 = .ok (.iconst 0, 1) := by decide +kernel
theorem d_Mo_refusalOf_95 : decode prog_10_method_41_code 95 = .ok (.ireturn, 1) := by decide +kernel
theorem d_Mo_change_0 : decode prog_10_method_42_code 0 = .ok (.aload_n 0, 1) := by decide +kernel
theorem d_Mo_change_1 : decode prog_10_method_42_code 1 = .ok (.getfield 7, 3) := by decide +kernel
theorem d_Mo_change_4 : decode prog_10_method_42_code 4 = .ok (.iload_n 2, 1) := by decide +kernel
theorem d_Mo_change_5 : decode prog_10_method_42_code 5 = .ok (.iload_n 3, 1) := by decide +kernel
theorem d_Mo_change_6 : decode prog_10_method_42_code 6 = .ok (.invokestatic 59, 3) := by decide +kernel
theorem d_Mo_change_9 : decode prog_10_method_42_code 9 = .ok (.iload 4, 2) := by decide +kernel
theorem d_Mo_change_11 : decode prog_10_method_42_code 11 = .ok (.iadd, 1) := by decide +kernel
theorem d_Mo_change_12 : decode prog_10_method_42_code 12 = .ok (.iaload, 1) := by decide +kernel
theorem d_Mo_change_13 : decode prog_10_method_42_code 13 = .ok (.istore 6, 2) := by decide +kernel
theorem d_Mo_change_15 : decode prog_10_method_42_code 15 = .ok (.aload_n 0, 1) := by decide +kernel
theorem d_Mo_change_16 : decode prog_10_method_42_code 16 = .ok (.getfield 7, 3) := by decide +kernel
theorem d_Mo_change_19 : decode prog_10_method_42_code 19 = .ok (.sipush 241, 3) := by decide +kernel
theorem d_Mo_change_22 : decode prog_10_method_42_code 22 = .ok (.iconst 3, 1) := by decide +kernel
theorem d_Mo_change_23 : decode prog_10_method_42_code 23 = .ok (.iload_n 1, 1) := by decide +kernel
theorem d_Mo_change_24 : decode prog_10_method_42_code 24 = .ok (.imul, 1) := by decide +kernel
theorem d_Mo_change_25 : decode prog_10_method_42_code 25 = .ok (.iadd, 1) := by decide +kernel
theorem d_Mo_change_26 : decode prog_10_method_42_code 26 = .ok (.iconst 1, 1) := by decide +kernel
theorem d_Mo_change_27 : decode prog_10_method_42_code 27 = .ok (.iadd, 1) := by decide +kernel
theorem d_Mo_change_28 : decode prog_10_method_42_code 28 = .ok (.dup2, 1) := by decide +kernel
theorem d_Mo_change_29 : decode prog_10_method_42_code 29 = .ok (.iaload, 1) := by decide +kernel
theorem d_Mo_change_30 : decode prog_10_method_42_code 30 = .ok (.iload 6, 2) := by decide +kernel
theorem d_Mo_change_32 : decode prog_10_method_42_code 32 = .ok (.iload 5, 2) := by decide +kernel
theorem d_Mo_change_34 : decode prog_10_method_42_code 34 = .ok (.invokestatic 85, 3) := by decide +kernel
theorem d_Mo_change_37 : decode prog_10_method_42_code 37 = .ok (.isub, 1) := by decide +kernel
theorem d_Mo_change_38 : decode prog_10_method_42_code 38 = .ok (.iastore, 1) := by decide +kernel
theorem d_Mo_change_39 : decode prog_10_method_42_code 39 = .ok (.aload_n 0, 1) := by decide +kernel
theorem d_Mo_change_40 : decode prog_10_method_42_code 40 = .ok (.getfield 7, 3) := by decide +kernel
theorem d_Mo_change_43 : decode prog_10_method_42_code 43 = .ok (.sipush 241, 3) := by decide +kernel
theorem d_Mo_change_46 : decode prog_10_method_42_code 46 = .ok (.iconst 3, 1) := by decide +kernel
theorem d_Mo_change_47 : decode prog_10_method_42_code 47 = .ok (.iload_n 1, 1) := by decide +kernel
theorem d_Mo_change_48 : decode prog_10_method_42_code 48 = .ok (.imul, 1) := by decide +kernel
theorem d_Mo_change_49 : decode prog_10_method_42_code 49 = .ok (.iadd, 1) := by decide +kernel
theorem d_Mo_change_50 : decode prog_10_method_42_code 50 = .ok (.iconst 2, 1) := by decide +kernel
theorem d_Mo_change_51 : decode prog_10_method_42_code 51 = .ok (.iadd, 1) := by decide +kernel
theorem d_Mo_change_52 : decode prog_10_method_42_code 52 = .ok (.dup2, 1) := by decide +kernel
theorem d_Mo_change_53 : decode prog_10_method_42_code 53 = .ok (.iaload, 1) := by decide +kernel
theorem d_Mo_change_54 : decode prog_10_method_42_code 54 = .ok (.iconst 1, 1) := by decide +kernel
theorem d_Mo_change_55 : decode prog_10_method_42_code 55 = .ok (.iadd, 1) := by decide +kernel
theorem d_Mo_change_56 : decode prog_10_method_42_code 56 = .ok (.iastore, 1) := by decide +kernel
theorem d_Mo_change_57 : decode prog_10_method_42_code 57 = .ok (.aload_n 0, 1) := by decide +kernel
theorem d_Mo_change_58 : decode prog_10_method_42_code 58 = .ok (.getfield 7, 3) := by decide +kernel
theorem d_Mo_change_61 : decode prog_10_method_42_code 61 = .ok (.sipush 250, 3) := by decide +kernel
theorem d_Mo_change_64 : decode prog_10_method_42_code 64 = .ok (.iload_n 1, 1) := by decide +kernel
theorem d_Mo_change_65 : decode prog_10_method_42_code 65 = .ok (.iadd, 1) := by decide +kernel
theorem d_Mo_change_66 : decode prog_10_method_42_code 66 = .ok (.dup2, 1) := by decide +kernel
theorem d_Mo_change_67 : decode prog_10_method_42_code 67 = .ok (.iaload, 1) := by decide +kernel
theorem d_Mo_change_68 : decode prog_10_method_42_code 68 = .ok (.iload 5, 2) := by decide +kernel
theorem d_Mo_change_70 : decode prog_10_method_42_code 70 = .ok (.iload 6, 2) := by decide +kernel
theorem d_Mo_change_72 : decode prog_10_method_42_code 72 = .ok (.isub, 1) := by decide +kernel
theorem d_Mo_change_73 : decode prog_10_method_42_code 73 = .ok (.iadd, 1) := by decide +kernel
theorem d_Mo_change_74 : decode prog_10_method_42_code 74 = .ok (.iastore, 1) := by decide +kernel
theorem d_Mo_change_75 : decode prog_10_method_42_code 75 = .ok (.aload_n 0, 1) := by decide +kernel
theorem d_Mo_change_76 : decode prog_10_method_42_code 76 = .ok (.getfield 7, 3) := by decide +kernel
theorem d_Mo_change_79 : decode prog_10_method_42_code 79 = .ok (.iload_n 2, 1) := by decide +kernel
theorem d_Mo_change_80 : decode prog_10_method_42_code 80 = .ok (.iload_n 3, 1) := by decide +kernel
theorem d_Mo_change_81 : decode prog_10_method_42_code 81 = .ok (.invokestatic 59, 3) := by decide +kernel
theorem d_Mo_change_84 : decode prog_10_method_42_code 84 = .ok (.iload 4, 2) := by decide +kernel
theorem d_Mo_change_86 : decode prog_10_method_42_code 86 = .ok (.iadd, 1) := by decide +kernel
theorem d_Mo_change_87 : decode prog_10_method_42_code 87 = .ok (.iload 5, 2) := by decide +kernel
theorem d_Mo_change_89 : decode prog_10_method_42_code 89 = .ok (.iastore, 1) := by decide +kernel
theorem d_Mo_change_90 : decode prog_10_method_42_code 90 = .ok (.return_, 1) := by decide +kernel
theorem d_Mo_scale_0 : decode prog_10_method_45_code 0 = .ok (.aload_n 0, 1) := by decide +kernel
theorem d_Mo_scale_1 : decode prog_10_method_45_code 1 = .ok (.iconst 0, 1) := by decide +kernel
theorem d_Mo_scale_2 : decode prog_10_method_45_code 2 = .ok (.putfield 37, 3) := by decide +kernel
theorem d_Mo_scale_5 : decode prog_10_method_45_code 5 = .ok (.iload_n 1, 1) := by decide +kernel
theorem d_Mo_scale_6 : decode prog_10_method_45_code 6 = .ok (.invokestatic 134, 3) := by decide +kernel
theorem d_Mo_scale_9 : decode prog_10_method_45_code 9 = .ok (.ifCond .eq 23, 3) := by decide +kernel
theorem d_Mo_scale_12 : decode prog_10_method_45_code 12 = .ok (.iload_n 2, 1) := by decide +kernel
theorem d_Mo_scale_13 : decode prog_10_method_45_code 13 = .ok (.iconst 0, 1) := by decide +kernel
theorem d_Mo_scale_14 : decode prog_10_method_45_code 14 = .ok (.iconst 2, 1) := by decide +kernel
theorem d_Mo_scale_15 : decode prog_10_method_45_code 15 = .ok (.invokestatic 47, 3) := by decide +kernel
theorem d_Mo_scale_18 : decode prog_10_method_45_code 18 = .ok (.ifCond .eq 14, 3) := by decide +kernel
theorem d_Mo_scale_21 : decode prog_10_method_45_code 21 = .ok (.iload_n 3, 1) := by decide +kernel
theorem d_Mo_scale_22 : decode prog_10_method_45_code 22 = .ok (.iconst 0, 1) := by decide +kernel
theorem d_Mo_scale_23 : decode prog_10_method_45_code 23 = .ok (.sipush 1000, 3) := by decide +kernel
theorem d_Mo_scale_26 : decode prog_10_method_45_code 26 = .ok (.invokestatic 47, 3) := by decide +kernel
theorem d_Mo_scale_29 : decode prog_10_method_45_code 29 = .ok (.ifCond .ne 6, 3) := by decide +kernel
theorem d_Mo_scale_32 : decode prog_10_method_45_code 32 = .ok (.ldc 112, 2) := by decide +kernel
theorem d_Mo_scale_34 : decode prog_10_method_45_code 34 = .ok (.ireturn, 1) := by decide +kernel
theorem d_Mo_scale_35 : decode prog_10_method_45_code 35 = .ok (.aload_n 0, 1) := by decide +kernel
theorem d_Mo_scale_36 : decode prog_10_method_45_code 36 = .ok (.invokevirtual 119, 3) := by decide +kernel
theorem d_Mo_scale_39 : decode prog_10_method_45_code 39 = .ok (.iconst 0, 1) := by decide +kernel
theorem d_Mo_scale_40 : decode prog_10_method_45_code 40 = .ok (.istore 4, 2) := by decide +kernel
theorem d_Mo_scale_42 : decode prog_10_method_45_code 42 = .ok (.iconst 0, 1) := by decide +kernel
theorem d_Mo_scale_43 : decode prog_10_method_45_code 43 = .ok (.istore 5, 2) := by decide +kernel
theorem d_Mo_scale_45 : decode prog_10_method_45_code 45 = .ok (.iload 5, 2) := by decide +kernel
theorem d_Mo_scale_47 : decode prog_10_method_45_code 47 = .ok (.aload_n 0, 1) := by decide +kernel
theorem d_Mo_scale_48 : decode prog_10_method_45_code 48 = .ok (.iconst 0, 1) := by decide +kernel
theorem d_Mo_scale_49 : decode prog_10_method_45_code 49 = .ok (.invokevirtual 55, 3) := by decide +kernel
theorem d_Mo_scale_52 : decode prog_10_method_45_code 52 = .ok (.if_icmp .gt 97, 3) := by decide +kernel
theorem d_Mo_scale_55 : decode prog_10_method_45_code 55 = .ok (.iconst 0, 1) := by decide +kernel
theorem d_Mo_scale_56 : decode prog_10_method_45_code 56 = .ok (.istore 6, 2) := by decide +kernel
theorem d_Mo_scale_58 : decode prog_10_method_45_code 58 = .ok (.iload 6, 2) := by decide +kernel
theorem d_Mo_scale_60 : decode prog_10_method_45_code 60 = .ok (.aload_n 0, 1) := by decide +kernel
theorem d_Mo_scale_61 : decode prog_10_method_45_code 61 = .ok (.iconst 1, 1) := by decide +kernel
theorem d_Mo_scale_62 : decode prog_10_method_45_code 62 = .ok (.invokevirtual 55, 3) := by decide +kernel
theorem d_Mo_scale_65 : decode prog_10_method_45_code 65 = .ok (.if_icmp .gt 78, 3) := by decide +kernel
theorem d_Mo_scale_68 : decode prog_10_method_45_code 68 = .ok (.aload_n 0, 1) := by decide +kernel
theorem d_Mo_scale_69 : decode prog_10_method_45_code 69 = .ok (.getfield 7, 3) := by decide +kernel
theorem d_Mo_scale_72 : decode prog_10_method_45_code 72 = .ok (.iload 5, 2) := by decide +kernel
theorem d_Mo_scale_74 : decode prog_10_method_45_code 74 = .ok (.iload 6, 2) := by decide +kernel
theorem d_Mo_scale_76 : decode prog_10_method_45_code 76 = .ok (.invokestatic 59, 3) := by decide +kernel
theorem d_Mo_scale_79 : decode prog_10_method_45_code 79 = .ok (.iload_n 2, 1) := by decide +kernel
theorem d_Mo_scale_80 : decode prog_10_method_45_code 80 = .ok (.iadd, 1) := by decide +kernel
theorem d_Mo_scale_81 : decode prog_10_method_45_code 81 = .ok (.iaload, 1) := by decide +kernel
theorem d_Mo_scale_82 : decode prog_10_method_45_code 82 = .ok (.iload_n 3, 1) := by decide +kernel
theorem d_Mo_scale_83 : decode prog_10_method_45_code 83 = .ok (.imul, 1) := by decide +kernel
theorem d_Mo_scale_84 : decode prog_10_method_45_code 84 = .ok (.bipush 100, 2) := by decide +kernel
theorem d_Mo_scale_86 : decode prog_10_method_45_code 86 = .ok (.idiv, 1) := by decide +kernel
theorem d_Mo_scale_87 : decode prog_10_method_45_code 87 = .ok (.istore 7, 2) := by decide +kernel
theorem d_Mo_scale_89 : decode prog_10_method_45_code 89 = .ok (.iload 7, 2) := by decide +kernel
theorem d_Mo_scale_91 : decode prog_10_method_45_code 91 = .ok (.sipush 9999, 3) := by decide +kernel
theorem d_Mo_scale_94 : decode prog_10_method_45_code 94 = .ok (.if_icmp .le 9, 3) := by decide +kernel
theorem d_Mo_scale_97 : decode prog_10_method_45_code 97 = .ok (.sipush 9999, 3) := by decide +kernel
theorem d_Mo_scale_100 : decode prog_10_method_45_code 100 = .ok (.goto 5, 3) := by decide +kernel
theorem d_Mo_scale_103 : decode prog_10_method_45_code 103 = .ok (.iload 7, 2) := by decide +kernel
theorem d_Mo_scale_105 : decode prog_10_method_45_code 105 = .ok (.istore 7, 2) := by decide +kernel
theorem d_Mo_scale_107 : decode prog_10_method_45_code 107 = .ok (.aload_n 0, 1) := by decide +kernel
theorem d_Mo_scale_108 : decode prog_10_method_45_code 108 = .ok (.iload_n 1, 1) := by decide +kernel
theorem d_Mo_scale_109 : decode prog_10_method_45_code 109 = .ok (.iload 5, 2) := by decide +kernel
theorem d_Mo_scale_111 : decode prog_10_method_45_code 111 = .ok (.iload 6, 2) := by decide +kernel
theorem d_Mo_scale_113 : decode prog_10_method_45_code 113 = .ok (.iload_n 2, 1) := by decide +kernel
theorem d_Mo_scale_114 : decode prog_10_method_45_code 114 = .ok (.iload 7, 2) := by decide +kernel
theorem d_Mo_scale_116 : decode prog_10_method_45_code 116 = .ok (.invokevirtual 144, 3) := by decide +kernel
theorem d_Mo_scale_119 : decode prog_10_method_45_code 119 = .ok (.ifCond .ne 18, 3) := by decide +kernel
theorem d_Mo_scale_122 : decode prog_10_method_45_code 122 = .ok (.aload_n 0, 1) := by decide +kernel
theorem d_Mo_scale_123 : decode prog_10_method_45_code 123 = .ok (.iload_n 1, 1) := by decide +kernel
theorem d_Mo_scale_124 : decode prog_10_method_45_code 124 = .ok (.iload 5, 2) := by decide +kernel
theorem d_Mo_scale_126 : decode prog_10_method_45_code 126 = .ok (.iload 6, 2) := by decide +kernel
theorem d_Mo_scale_128 : decode prog_10_method_45_code 128 = .ok (.iload_n 2, 1) := by decide +kernel
theorem d_Mo_scale_129 : decode prog_10_method_45_code 129 = .ok (.iload 7, 2) := by decide +kernel
theorem d_Mo_scale_131 : decode prog_10_method_45_code 131 = .ok (.invokevirtual 148, 3) := by decide +kernel
theorem d_Mo_scale_134 : decode prog_10_method_45_code 134 = .ok (.iinc 4 1, 3) := by decide +kernel
theorem d_Mo_scale_137 : decode prog_10_method_45_code 137 = .ok (.iinc 6 1, 3) := by decide +kernel
theorem d_Mo_scale_140 : decode prog_10_method_45_code 140 = .ok (.goto (-82), 3) := by decide +kernel
theorem d_Mo_scale_143 : decode prog_10_method_45_code 143 = .ok (.iinc 5 1, 3) := by decide +kernel
theorem d_Mo_scale_146 : decode prog_10_method_45_code 146 = .ok (.goto (-101), 3) := by decide +kernel
theorem d_Mo_scale_149 : decode prog_10_method_45_code 149 = .ok (.iload 4, 2) := by decide +kernel
theorem d_Mo_scale_151 : decode prog_10_method_45_code 151 = .ok (.ireturn, 1) := by decide +kernel
theorem d_Mo_lock_0 : decode prog_10_method_47_code 0 = .ok (.aload_n 0, 1) := by decide +kernel
theorem d_Mo_lock_1 : decode prog_10_method_47_code 1 = .ok (.iconst 0, 1) := by decide +kernel
theorem d_Mo_lock_2 : decode prog_10_method_47_code 2 = .ok (.putfield 37, 3) := by decide +kernel
theorem d_Mo_lock_5 : decode prog_10_method_47_code 5 = .ok (.iload_n 1, 1) := by decide +kernel
theorem d_Mo_lock_6 : decode prog_10_method_47_code 6 = .ok (.invokestatic 134, 3) := by decide +kernel
theorem d_Mo_lock_9 : decode prog_10_method_47_code 9 = .ok (.ifCond .eq 22, 3) := by decide +kernel
theorem d_Mo_lock_12 : decode prog_10_method_47_code 12 = .ok (.aload_n 0, 1) := by decide +kernel
theorem d_Mo_lock_13 : decode prog_10_method_47_code 13 = .ok (.iload_n 2, 1) := by decide +kernel
theorem d_Mo_lock_14 : decode prog_10_method_47_code 14 = .ok (.iload_n 3, 1) := by decide +kernel
theorem d_Mo_lock_15 : decode prog_10_method_47_code 15 = .ok (.invokevirtual 137, 3) := by decide +kernel
theorem d_Mo_lock_18 : decode prog_10_method_47_code 18 = .ok (.ifCond .eq 13, 3) := by decide +kernel
theorem d_Mo_lock_21 : decode prog_10_method_47_code 21 = .ok (.iload 4, 2) := by decide +kernel
theorem d_Mo_lock_23 : decode prog_10_method_47_code 23 = .ok (.iconst 0, 1) := by decide +kernel
theorem d_Mo_lock_24 : decode prog_10_method_47_code 24 = .ok (.iconst 1, 1) := by decide +kernel
theorem d_Mo_lock_25 : decode prog_10_method_47_code 25 = .ok (.invokestatic 47, 3) := by decide +kernel
theorem d_Mo_lock_28 : decode prog_10_method_47_code 28 = .ok (.ifCond .ne 6, 3) := by decide +kernel
theorem d_Mo_lock_31 : decode prog_10_method_47_code 31 = .ok (.ldc 112, 2) := by decide +kernel
theorem d_Mo_lock_33 : decode prog_10_method_47_code 33 = .ok (.ireturn, 1) := by decide +kernel
theorem d_Mo_lock_34 : decode prog_10_method_47_code 34 = .ok (.aload_n 0, 1) := by decide +kernel
theorem d_Mo_lock_35 : decode prog_10_method_47_code 35 = .ok (.getfield 7, 3) := by decide +kernel
theorem d_Mo_lock_38 : decode prog_10_method_47_code 38 = .ok (.iload_n 2, 1) := by decide +kernel
theorem d_Mo_lock_39 : decode prog_10_method_47_code 39 = .ok (.iload_n 3, 1) := by decide +kernel
theorem d_Mo_lock_40 : decode prog_10_method_47_code 40 = .ok (.invokestatic 59, 3) := by decide +kernel
theorem d_Mo_lock_43 : decode prog_10_method_47_code 43 = .ok (.iconst 3, 1) := by decide +kernel
theorem d_Mo_lock_44 : decode prog_10_method_47_code 44 = .ok (.iadd, 1) := by decide +kernel
theorem d_Mo_lock_45 : decode prog_10_method_47_code 45 = .ok (.iaload, 1) := by decide +kernel
theorem d_Mo_lock_46 : decode prog_10_method_47_code 46 = .ok (.iload 4, 2) := by decide +kernel
theorem d_Mo_lock_48 : decode prog_10_method_47_code 48 = .ok (.iconst 1, 1) := by decide +kernel
theorem d_Mo_lock_49 : decode prog_10_method_47_code 49 = .ok (.if_icmp .ne 7, 3) := by decide +kernel
theorem d_Mo_lock_52 : decode prog_10_method_47_code 52 = .ok (.iconst (-1), 1) := by decide +kernel
theorem d_Mo_lock_53 : decode prog_10_method_47_code 53 = .ok (.goto 4, 3) := by decide +kernel
theorem d_Mo_lock_56 : decode prog_10_method_47_code 56 = .ok (.iload_n 1, 1) := by decide +kernel
theorem d_Mo_lock_57 : decode prog_10_method_47_code 57 = .ok (.if_icmp .eq 6, 3) := by decide +kernel
theorem d_Mo_lock_60 : decode prog_10_method_47_code 60 = .ok (.ldc 117, 2) := by decide +kernel
theorem d_Mo_lock_62 : decode prog_10_method_47_code 62 = .ok (.ireturn, 1) := by decide +kernel
theorem d_Mo_lock_63 : decode prog_10_method_47_code 63 = .ok (.aload_n 0, 1) := by decide +kernel
theorem d_Mo_lock_64 : decode prog_10_method_47_code 64 = .ok (.invokevirtual 119, 3) := by decide +kernel
theorem d_Mo_lock_67 : decode prog_10_method_47_code 67 = .ok (.aload_n 0, 1) := by decide +kernel
theorem d_Mo_lock_68 : decode prog_10_method_47_code 68 = .ok (.getfield 7, 3) := by decide +kernel
theorem d_Mo_lock_71 : decode prog_10_method_47_code 71 = .ok (.iload_n 2, 1) := by decide +kernel
theorem d_Mo_lock_72 : decode prog_10_method_47_code 72 = .ok (.iload_n 3, 1) := by decide +kernel
theorem d_Mo_lock_73 : decode prog_10_method_47_code 73 = .ok (.invokestatic 59, 3) := by decide +kernel
theorem d_Mo_lock_76 : decode prog_10_method_47_code 76 = .ok (.iconst 3, 1) := by decide +kernel
theorem d_Mo_lock_77 : decode prog_10_method_47_code 77 = .ok (.iadd, 1) := by decide +kernel
theorem d_Mo_lock_78 : decode prog_10_method_47_code 78 = .ok (.iload 4, 2) := by decide +kernel
theorem d_Mo_lock_80 : decode prog_10_method_47_code 80 = .ok (.iconst 1, 1) := by decide +kernel
theorem d_Mo_lock_81 : decode prog_10_method_47_code 81 = .ok (.if_icmp .ne 7, 3) := by decide +kernel
theorem d_Mo_lock_84 : decode prog_10_method_47_code 84 = .ok (.iload_n 1, 1) := by decide +kernel
theorem d_Mo_lock_85 : decode prog_10_method_47_code 85 = .ok (.goto 4, 3) := by decide +kernel
theorem d_Mo_lock_88 : decode prog_10_method_47_code 88 = .ok (.iconst (-1), 1) := by decide +kernel
theorem d_Mo_lock_89 : decode prog_10_method_47_code 89 = .ok (.iastore, 1) := by decide +kernel
theorem d_Mo_lock_90 : decode prog_10_method_47_code 90 = .ok (.aload_n 0, 1) := by decide +kernel
theorem d_Mo_lock_91 : decode prog_10_method_47_code 91 = .ok (.iload_n 1, 1) := by decide +kernel
theorem d_Mo_lock_92 : decode prog_10_method_47_code 92 = .ok (.invokevirtual 151, 3) := by decide +kernel
theorem d_Mo_lock_95 : decode prog_10_method_47_code 95 = .ok (.ireturn, 1) := by decide +kernel
theorem d_Mo_locksOf_0 : decode prog_10_method_46_code 0 = .ok (.iconst 0, 1) := by decide +kernel
theorem d_Mo_locksOf_1 : decode prog_10_method_46_code 1 = .ok (.istore_n 2, 1) := by decide +kernel
theorem d_Mo_locksOf_2 : decode prog_10_method_46_code 2 = .ok (.iconst 0, 1) := by decide +kernel
theorem d_Mo_locksOf_3 : decode prog_10_method_46_code 3 = .ok (.istore_n 3, 1) := by decide +kernel
theorem d_Mo_locksOf_4 : decode prog_10_method_46_code 4 = .ok (.iload_n 3, 1) := by decide +kernel
theorem d_Mo_locksOf_5 : decode prog_10_method_46_code 5 = .ok (.aload_n 0, 1) := by decide +kernel
theorem d_Mo_locksOf_6 : decode prog_10_method_46_code 6 = .ok (.iconst 0, 1) := by decide +kernel
theorem d_Mo_locksOf_7 : decode prog_10_method_46_code 7 = .ok (.invokevirtual 55, 3) := by decide +kernel
theorem d_Mo_locksOf_10 : decode prog_10_method_46_code 10 = .ok (.if_icmp .gt 53, 3) := by decide +kernel
theorem d_Mo_locksOf_13 : decode prog_10_method_46_code 13 = .ok (.iconst 0, 1) := by decide +kernel
theorem d_Mo_locksOf_14 : decode prog_10_method_46_code 14 = .ok (.istore 4, 2) := by decide +kernel
theorem d_Mo_locksOf_16 : decode prog_10_method_46_code 16 = .ok (.iload 4, 2) := by decide +kernel
theorem d_Mo_locksOf_18 : decode prog_10_method_46_code 18 = .ok (.aload_n 0, 1) := by decide +kernel
theorem d_Mo_locksOf_19 : decode prog_10_method_46_code 19 = .ok (.iconst 1, 1) := by decide +kernel
theorem d_Mo_locksOf_20 : decode prog_10_method_46_code 20 = .ok (.invokevirtual 55, 3) := by decide +kernel
theorem d_Mo_locksOf_23 : decode prog_10_method_46_code 23 = .ok (.if_icmp .gt 34, 3) := by decide +kernel
theorem d_Mo_locksOf_26 : decode prog_10_method_46_code 26 = .ok (.iload_n 2, 1) := by decide +kernel
theorem d_Mo_locksOf_27 : decode prog_10_method_46_code 27 = .ok (.aload_n 0, 1) := by decide +kernel
theorem d_Mo_locksOf_28 : decode prog_10_method_46_code 28 = .ok (.getfield 7, 3) := by decide +kernel
theorem d_Mo_locksOf_31 : decode prog_10_method_46_code 31 = .ok (.iload_n 3, 1) := by decide +kernel
theorem d_Mo_locksOf_32 : decode prog_10_method_46_code 32 = .ok (.iload 4, 2) := by decide +kernel
theorem d_Mo_locksOf_34 : decode prog_10_method_46_code 34 = .ok (.invokestatic 59, 3) := by decide +kernel
theorem d_Mo_locksOf_37 : decode prog_10_method_46_code 37 = .ok (.iconst 3, 1) := by decide +kernel
theorem d_Mo_locksOf_38 : decode prog_10_method_46_code 38 = .ok (.iadd, 1) := by decide +kernel
theorem d_Mo_locksOf_39 : decode prog_10_method_46_code 39 = .ok (.iaload, 1) := by decide +kernel
theorem d_Mo_locksOf_40 : decode prog_10_method_46_code 40 = .ok (.iload_n 1, 1) := by decide +kernel
theorem d_Mo_locksOf_41 : decode prog_10_method_46_code 41 = .ok (.if_icmp .ne 7, 3) := by decide +kernel
theorem d_Mo_locksOf_44 : decode prog_10_method_46_code 44 = .ok (.iconst 1, 1) := by decide +kernel
theorem d_Mo_locksOf_45 : decode prog_10_method_46_code 45 = .ok (.goto 4, 3) := by decide +kernel
theorem d_Mo_locksOf_48 : decode prog_10_method_46_code 48 = .ok (.iconst 0, 1) := by decide +kernel
theorem d_Mo_locksOf_49 : decode prog_10_method_46_code 49 = .ok (.iadd, 1) := by decide +kernel
theorem d_Mo_locksOf_50 : decode prog_10_method_46_code 50 = .ok (.istore_n 2, 1) := by decide +kernel
theorem d_Mo_locksOf_51 : decode prog_10_method_46_code 51 = .ok (.iinc 4 1, 3) := by decide +kernel
theorem d_Mo_locksOf_54 : decode prog_10_method_46_code 54 = .ok (.goto (-38), 3) := by decide +kernel
theorem d_Mo_locksOf_57 : decode prog_10_method_46_code 57 = .ok (.iinc 3 1, 3) := by decide +kernel
theorem d_Mo_locksOf_60 : decode prog_10_method_46_code 60 = .ok (.goto (-56), 3) := by decide +kernel
theorem d_Mo_locksOf_63 : decode prog_10_method_46_code 63 = .ok (.iload_n 2, 1) := by decide +kernel
theorem d_Mo_locksOf_64 : decode prog_10_method_46_code 64 = .ok (.ireturn, 1) := by decide +kernel
theorem d_Mo_setMargin_0 : decode prog_10_method_48_code 0 = .ok (.aload_n 0, 1) := by decide +kernel
theorem d_Mo_setMargin_1 : decode prog_10_method_48_code 1 = .ok (.iconst 0, 1) := by decide +kernel
theorem d_Mo_setMargin_2 : decode prog_10_method_48_code 2 = .ok (.putfield 37, 3) := by decide +kernel
theorem d_Mo_setMargin_5 : decode prog_10_method_48_code 5 = .ok (.iload_n 1, 1) := by decide +kernel
theorem d_Mo_setMargin_6 : decode prog_10_method_48_code 6 = .ok (.iconst 0, 1) := by decide +kernel
theorem d_Mo_setMargin_7 : decode prog_10_method_48_code 7 = .ok (.bipush 50, 2) := by decide +kernel
theorem d_Mo_setMargin_9 : decode prog_10_method_48_code 9 = .ok (.invokestatic 47, 3) := by decide +kernel
theorem d_Mo_setMargin_12 : decode prog_10_method_48_code 12 = .ok (.ifCond .ne 6, 3) := by decide +kernel
theorem d_Mo_setMargin_15 : decode prog_10_method_48_code 15 = .ok (.ldc 112, 2) := by decide +kernel
theorem d_Mo_setMargin_17 : decode prog_10_method_48_code 17 = .ok (.ireturn, 1) := by decide +kernel
theorem d_Mo_setMargin_18 : decode prog_10_method_48_code 18 = .ok (.aload_n 0, 1) := by decide +kernel
theorem d_Mo_setMargin_19 : decode prog_10_method_48_code 19 = .ok (.invokevirtual 119, 3) := by decide +kernel
theorem d_Mo_setMargin_22 : decode prog_10_method_48_code 22 = .ok (.aload_n 0, 1) := by decide +kernel
theorem d_Mo_setMargin_23 : decode prog_10_method_48_code 23 = .ok (.getfield 7, 3) := by decide +kernel
theorem d_Mo_setMargin_26 : decode prog_10_method_48_code 26 = .ok (.sipush 238, 3) := by decide +kernel
theorem d_Mo_setMargin_29 : decode prog_10_method_48_code 29 = .ok (.iaload, 1) := by decide +kernel
theorem d_Mo_setMargin_30 : decode prog_10_method_48_code 30 = .ok (.istore_n 2, 1) := by decide +kernel
theorem d_Mo_setMargin_31 : decode prog_10_method_48_code 31 = .ok (.aload_n 0, 1) := by decide +kernel
theorem d_Mo_setMargin_32 : decode prog_10_method_48_code 32 = .ok (.getfield 7, 3) := by decide +kernel
theorem d_Mo_setMargin_35 : decode prog_10_method_48_code 35 = .ok (.sipush 238, 3) := by decide +kernel
theorem d_Mo_setMargin_38 : decode prog_10_method_48_code 38 = .ok (.iload_n 1, 1) := by decide +kernel
theorem d_Mo_setMargin_39 : decode prog_10_method_48_code 39 = .ok (.iastore, 1) := by decide +kernel
theorem d_Mo_setMargin_40 : decode prog_10_method_48_code 40 = .ok (.iload_n 2, 1) := by decide +kernel
theorem d_Mo_setMargin_41 : decode prog_10_method_48_code 41 = .ok (.ireturn, 1) := by decide +kernel
theorem d_Mo_move_0 : decode prog_10_method_56_code 0 = .ok (.aload_n 0, 1) := by decide +kernel
theorem d_Mo_move_1 : decode prog_10_method_56_code 1 = .ok (.iconst 0, 1) := by decide +kernel
theorem d_Mo_move_2 : decode prog_10_method_56_code 2 = .ok (.putfield 37, 3) := by decide +kernel
theorem d_Mo_move_5 : decode prog_10_method_56_code 5 = .ok (.iload_n 1, 1) := by decide +kernel
theorem d_Mo_move_6 : decode prog_10_method_56_code 6 = .ok (.invokestatic 179, 3) := by decide +kernel
theorem d_Mo_move_9 : decode prog_10_method_56_code 9 = .ok (.ifCond .eq 10, 3) := by decide +kernel
theorem d_Mo_move_12 : decode prog_10_method_56_code 12 = .ok (.iload_n 2, 1) := by decide +kernel
theorem d_Mo_move_13 : decode prog_10_method_56_code 13 = .ok (.invokestatic 179, 3) := by decide +kernel
theorem d_Mo_move_16 : decode prog_10_method_56_code 16 = .ok (.ifCond .ne 6, 3) := by decide +kernel
theorem d_Mo_move_19 : decode prog_10_method_56_code 19 = .ok (.ldc 112, 2) := by decide +kernel
theorem d_Mo_move_21 : decode prog_10_method_56_code 21 = .ok (.ireturn, 1) := by decide +kernel
theorem d_Mo_move_22 : decode prog_10_method_56_code 22 = .ok (.aload_n 0, 1) := by decide +kernel
theorem d_Mo_move_23 : decode prog_10_method_56_code 23 = .ok (.invokevirtual 119, 3) := by decide +kernel
theorem d_Mo_move_26 : decode prog_10_method_56_code 26 = .ok (.aload_n 0, 1) := by decide +kernel
theorem d_Mo_move_27 : decode prog_10_method_56_code 27 = .ok (.iload_n 1, 1) := by decide +kernel
theorem d_Mo_move_28 : decode prog_10_method_56_code 28 = .ok (.iload_n 2, 1) := by decide +kernel
theorem d_Mo_move_29 : decode prog_10_method_56_code 29 = .ok (.invokevirtual 182, 3) := by decide +kernel
theorem d_Mo_move_32 : decode prog_10_method_56_code 32 = .ok (.ireturn, 1) := by decide +kernel
theorem d_Mo_isCoordinate_0 : decode prog_10_method_55_code 0 = .ok (.iload_n 0, 1) := by decide +kernel
theorem d_Mo_isCoordinate_1 : decode prog_10_method_55_code 1 = .ok (.iconst 0, 1) := by decide +kernel
theorem d_Mo_isCoordinate_2 : decode prog_10_method_55_code 2 = .ok (.sipush 1000, 3) := by decide +kernel
theorem d_Mo_isCoordinate_5 : decode prog_10_method_55_code 5 = .ok (.invokestatic 47, 3) := by decide +kernel
theorem d_Mo_isCoordinate_8 : decode prog_10_method_55_code 8 = .ok (.ireturn, 1) := by decide +kernel
theorem d_Mo_moves_0 : decode prog_10_method_54_code 0 = .ok (.aload_n 0, 1) := by decide +kernel
theorem d_Mo_moves_1 : decode prog_10_method_54_code 1 = .ok (.iload_n 1, 1) := by decide +kernel
theorem d_Mo_moves_2 : decode prog_10_method_54_code 2 = .ok (.iload_n 2, 1) := by decide +kernel
theorem d_Mo_moves_3 : decode prog_10_method_54_code 3 = .ok (.invokevirtual 163, 3) := by decide +kernel
theorem d_Mo_moves_6 : decode prog_10_method_54_code 6 = .ok (.ifCond .eq 18, 3) := by decide +kernel
theorem d_Mo_moves_9 : decode prog_10_method_54_code 9 = .ok (.aload_n 0, 1) := by decide +kernel
theorem d_Mo_moves_10 : decode prog_10_method_54_code 10 = .ok (.getfield 7, 3) := by decide +kernel
theorem d_Mo_moves_13 : decode prog_10_method_54_code 13 = .ok (.sipush 239, 3) := by decide +kernel
theorem d_Mo_moves_16 : decode prog_10_method_54_code 16 = .ok (.dup2, 1) := by decide +kernel
theorem d_Mo_moves_17 : decode prog_10_method_54_code 17 = .ok (.iaload, 1) := by decide +kernel
theorem d_Mo_moves_18 : decode prog_10_method_54_code 18 = .ok (.iconst 1, 1) := by decide +kernel
theorem d_Mo_moves_19 : decode prog_10_method_54_code 19 = .ok (.iadd, 1) := by decide +kernel
theorem d_Mo_moves_20 : decode prog_10_method_54_code 20 = .ok (.iastore, 1) := by decide +kernel
theorem d_Mo_moves_21 : decode prog_10_method_54_code 21 = .ok (.ldc 67, 2) := by decide +kernel
theorem d_Mo_moves_23 : decode prog_10_method_54_code 23 = .ok (.ireturn, 1) := by decide +kernel
theorem d_Mo_moves_24 : decode prog_10_method_54_code 24 = .ok (.aload_n 0, 1) := by decide +kernel
theorem d_Mo_moves_25 : decode prog_10_method_54_code 25 = .ok (.invokevirtual 166, 3) := by decide +kernel
theorem d_Mo_moves_28 : decode prog_10_method_54_code 28 = .ok (.aload_n 0, 1) := by decide +kernel
theorem d_Mo_moves_29 : decode prog_10_method_54_code 29 = .ok (.iload_n 1, 1) := by decide +kernel
theorem d_Mo_moves_30 : decode prog_10_method_54_code 30 = .ok (.iload_n 2, 1) := by decide +kernel
theorem d_Mo_moves_31 : decode prog_10_method_54_code 31 = .ok (.invokevirtual 169, 3) := by decide +kernel
theorem d_Mo_moves_34 : decode prog_10_method_54_code 34 = .ok (.aload_n 0, 1) := by decide +kernel
theorem d_Mo_moves_35 : decode prog_10_method_54_code 35 = .ok (.getfield 7, 3) := by decide +kernel
theorem d_Mo_moves_38 : decode prog_10_method_54_code 38 = .ok (.sipush 240, 3) := by decide +kernel
theorem d_Mo_moves_41 : decode prog_10_method_54_code 41 = .ok (.dup2, 1) := by decide +kernel
theorem d_Mo_moves_42 : decode prog_10_method_54_code 42 = .ok (.iaload, 1) := by decide +kernel
theorem d_Mo_moves_43 : decode prog_10_method_54_code 43 = .ok (.iconst 1, 1) := by decide +kernel
theorem d_Mo_moves_44 : decode prog_10_method_54_code 44 = .ok (.iadd, 1) := by decide +kernel
theorem d_Mo_moves_45 : decode prog_10_method_54_code 45 = .ok (.iastore, 1) := by decide +kernel
theorem d_Mo_moves_46 : decode prog_10_method_54_code 46 = .ok (.aload_n 0, 1) := by decide +kernel
theorem d_Mo_moves_47 : decode prog_10_method_54_code 47 = .ok (.invokevirtual 173, 3) := by decide +kernel
theorem d_Mo_moves_50 : decode prog_10_method_54_code 50 = .ok (.istore_n 3, 1) := by decide +kernel
theorem d_Mo_moves_51 : decode prog_10_method_54_code 51 = .ok (.aload_n 0, 1) := by decide +kernel
theorem d_Mo_moves_52 : decode prog_10_method_54_code 52 = .ok (.invokevirtual 176, 3) := by decide +kernel
theorem d_Mo_moves_55 : decode prog_10_method_54_code 55 = .ok (.istore 4, 2) := by decide +kernel
theorem d_Mo_moves_57 : decode prog_10_method_54_code 57 = .ok (.aload_n 0, 1) := by decide +kernel
theorem d_Mo_moves_58 : decode prog_10_method_54_code 58 = .ok (.getfield 7, 3) := by decide +kernel
theorem d_Mo_moves_61 : decode prog_10_method_54_code 61 = .ok (.iload 4, 2) := by decide +kernel
theorem d_Mo_moves_63 : decode prog_10_method_54_code 63 = .ok (.iload_n 1, 1) := by decide +kernel
theorem d_Mo_moves_64 : decode prog_10_method_54_code 64 = .ok (.iastore, 1) := by decide +kernel
theorem d_Mo_moves_65 : decode prog_10_method_54_code 65 = .ok (.aload_n 0, 1) := by decide +kernel
theorem d_Mo_moves_66 : decode prog_10_method_54_code 66 = .ok (.getfield 7, 3) := by decide +kernel
theorem d_Mo_moves_69 : decode prog_10_method_54_code 69 = .ok (.iload 4, 2) := by decide +kernel
theorem d_Mo_moves_71 : decode prog_10_method_54_code 71 = .ok (.iconst 1, 1) := by decide +kernel
theorem d_Mo_moves_72 : decode prog_10_method_54_code 72 = .ok (.iadd, 1) := by decide +kernel
theorem d_Mo_moves_73 : decode prog_10_method_54_code 73 = .ok (.iload_n 2, 1) := by decide +kernel
theorem d_Mo_moves_74 : decode prog_10_method_54_code 74 = .ok (.iastore, 1) := by decide +kernel
theorem d_Mo_moves_75 : decode prog_10_method_54_code 75 = .ok (.aload_n 0, 1) := by decide +kernel
theorem d_Mo_moves_76 : decode prog_10_method_54_code 76 = .ok (.getfield 7, 3) := by decide +kernel
theorem d_Mo_moves_79 : decode prog_10_method_54_code 79 = .ok (.iload 4, 2) := by decide +kernel
theorem d_Mo_moves_81 : decode prog_10_method_54_code 81 = .ok (.iconst 2, 1) := by decide +kernel
theorem d_Mo_moves_82 : decode prog_10_method_54_code 82 = .ok (.iadd, 1) := by decide +kernel
theorem d_Mo_moves_83 : decode prog_10_method_54_code 83 = .ok (.aload_n 0, 1) := by decide +kernel
theorem d_Mo_moves_84 : decode prog_10_method_54_code 84 = .ok (.getfield 7, 3) := by decide +kernel
theorem d_Mo_moves_87 : decode prog_10_method_54_code 87 = .ok (.sipush 236, 3) := by decide +kernel
theorem d_Mo_moves_90 : decode prog_10_method_54_code 90 = .ok (.iaload, 1) := by decide +kernel
theorem d_Mo_moves_91 : decode prog_10_method_54_code 91 = .ok (.iastore, 1) := by decide +kernel
theorem d_Mo_moves_92 : decode prog_10_method_54_code 92 = .ok (.aload_n 0, 1) := by decide +kernel
theorem d_Mo_moves_93 : decode prog_10_method_54_code 93 = .ok (.getfield 7, 3) := by decide +kernel
theorem d_Mo_moves_96 : decode prog_10_method_54_code 96 = .ok (.iload 4, 2) := by decide +kernel
theorem d_Mo_moves_98 : decode prog_10_method_54_code 98 = .ok (.iconst 3, 1) := by decide +kernel
theorem d_Mo_moves_99 : decode prog_10_method_54_code 99 = .ok (.iadd, 1) := by decide +kernel
theorem d_Mo_moves_100 : decode prog_10_method_54_code 100 = .ok (.aload_n 0, 1) := by decide +kernel
theorem d_Mo_moves_101 : decode prog_10_method_54_code 101 = .ok (.getfield 7, 3) := by decide +kernel
theorem d_Mo_moves_104 : decode prog_10_method_54_code 104 = .ok (.sipush 237, 3) := by decide +kernel
theorem d_Mo_moves_107 : decode prog_10_method_54_code 107 = .ok (.iaload, 1) := by decide +kernel
theorem d_Mo_moves_108 : decode prog_10_method_54_code 108 = .ok (.iastore, 1) := by decide +kernel
theorem d_Mo_moves_109 : decode prog_10_method_54_code 109 = .ok (.aload_n 0, 1) := by decide +kernel
theorem d_Mo_moves_110 : decode prog_10_method_54_code 110 = .ok (.getfield 7, 3) := by decide +kernel
theorem d_Mo_moves_113 : decode prog_10_method_54_code 113 = .ok (.iload 4, 2) := by decide +kernel
theorem d_Mo_moves_115 : decode prog_10_method_54_code 115 = .ok (.iconst 4, 1) := by decide +kernel
theorem d_Mo_moves_116 : decode prog_10_method_54_code 116 = .ok (.iadd, 1) := by decide +kernel
theorem d_Mo_moves_117 : decode prog_10_method_54_code 117 = .ok (.aload_n 0, 1) := by decide +kernel
theorem d_Mo_moves_118 : decode prog_10_method_54_code 118 = .ok (.iconst 0, 1) := by decide +kernel
theorem d_Mo_moves_119 : decode prog_10_method_54_code 119 = .ok (.invokevirtual 157, 3) := by decide +kernel
theorem d_Mo_moves_122 : decode prog_10_method_54_code 122 = .ok (.iastore, 1) := by decide +kernel
theorem d_Mo_moves_123 : decode prog_10_method_54_code 123 = .ok (.aload_n 0, 1) := by decide +kernel
theorem d_Mo_moves_124 : decode prog_10_method_54_code 124 = .ok (.getfield 7, 3) := by decide +kernel
theorem d_Mo_moves_127 : decode prog_10_method_54_code 127 = .ok (.iload 4, 2) := by decide +kernel
theorem d_Mo_moves_129 : decode prog_10_method_54_code 129 = .ok (.iconst 5, 1) := by decide +kernel
theorem d_Mo_moves_130 : decode prog_10_method_54_code 130 = .ok (.iadd, 1) := by decide +kernel
theorem d_Mo_moves_131 : decode prog_10_method_54_code 131 = .ok (.aload_n 0, 1) := by decide +kernel
theorem d_Mo_moves_132 : decode prog_10_method_54_code 132 = .ok (.iconst 1, 1) := by decide +kernel
theorem d_Mo_moves_133 : decode prog_10_method_54_code 133 = .ok (.invokevirtual 157, 3) := by decide +kernel
theorem d_Mo_moves_136 : decode prog_10_method_54_code 136 = .ok (.iastore, 1) := by decide +kernel
theorem d_Mo_moves_137 : decode prog_10_method_54_code 137 = .ok (.aload_n 0, 1) := by decide +kernel
theorem d_Mo_moves_138 : decode prog_10_method_54_code 138 = .ok (.getfield 7, 3) := by decide +kernel
theorem d_Mo_moves_141 : decode prog_10_method_54_code 141 = .ok (.iload 4, 2) := by decide +kernel
theorem d_Mo_moves_143 : decode prog_10_method_54_code 143 = .ok (.bipush 6, 2) := by decide +kernel
theorem d_Mo_moves_145 : decode prog_10_method_54_code 145 = .ok (.iadd, 1) := by decide +kernel
theorem d_Mo_moves_146 : decode prog_10_method_54_code 146 = .ok (.aload_n 0, 1) := by decide +kernel
theorem d_Mo_moves_147 : decode prog_10_method_54_code 147 = .ok (.iconst 2, 1) := by decide +kernel
theorem d_Mo_moves_148 : decode prog_10_method_54_code 148 = .ok (.invokevirtual 157, 3) := by decide +kernel
theorem d_Mo_moves_151 : decode prog_10_method_54_code 151 = .ok (.iastore, 1) := by decide +kernel
theorem d_Mo_moves_152 : decode prog_10_method_54_code 152 = .ok (.aload_n 0, 1) := by decide +kernel
theorem d_Mo_moves_153 : decode prog_10_method_54_code 153 = .ok (.getfield 7, 3) := by decide +kernel
theorem d_Mo_moves_156 : decode prog_10_method_54_code 156 = .ok (.iload 4, 2) := by decide +kernel
theorem d_Mo_moves_158 : decode prog_10_method_54_code 158 = .ok (.bipush 7, 2) := by decide +kernel
theorem d_Mo_moves_160 : decode prog_10_method_54_code 160 = .ok (.iadd, 1) := by decide +kernel
theorem d_Mo_moves_161 : decode prog_10_method_54_code 161 = .ok (.iload_n 3, 1) := by decide +kernel
theorem d_Mo_moves_162 : decode prog_10_method_54_code 162 = .ok (.iastore, 1) := by decide +kernel
theorem d_Mo_moves_163 : decode prog_10_method_54_code 163 = .ok (.iload_n 3, 1) := by decide +kernel
theorem d_Mo_moves_164 : decode prog_10_method_54_code 164 = .ok (.ireturn, 1) := by decide +kernel
theorem d_Mo_isIgnored_0 : decode prog_10_method_49_code 0 = .ok (.iload_n 1, 1) := by decide +kernel
theorem d_Mo_isIgnored_1 : decode prog_10_method_49_code 1 = .ok (.aload_n 0, 1) := by decide +kernel
theorem d_Mo_isIgnored_2 : decode prog_10_method_49_code 2 = .ok (.getfield 7, 3) := by decide +kernel
theorem d_Mo_isIgnored_5 : decode prog_10_method_49_code 5 = .ok (.sipush 234, 3) := by decide +kernel
theorem d_Mo_isIgnored_8 : decode prog_10_method_49_code 8 = .ok (.iaload, 1) := by decide +kernel
theorem d_Mo_isIgnored_9 : decode prog_10_method_49_code 9 = .ok (.invokestatic 85, 3) := by decide +kernel
theorem d_Mo_isIgnored_12 : decode prog_10_method_49_code 12 = .ok (.aload_n 0, 1) := by decide +kernel
theorem d_Mo_isIgnored_13 : decode prog_10_method_49_code 13 = .ok (.getfield 7, 3) := by decide +kernel
theorem d_Mo_isIgnored_16 : decode prog_10_method_49_code 16 = .ok (.sipush 238, 3) := by decide +kernel
theorem d_Mo_isIgnored_19 : decode prog_10_method_49_code 19 = .ok (.iaload, 1) := by decide +kernel
theorem d_Mo_isIgnored_20 : decode prog_10_method_49_code 20 = .ok (.if_icmp .ge 30, 3) := by decide +kernel
theorem d_Mo_isIgnored_23 : decode prog_10_method_49_code 23 = .ok (.iload_n 2, 1) := by decide +kernel
theorem d_Mo_isIgnored_24 : decode prog_10_method_49_code 24 = .ok (.aload_n 0, 1) := by decide +kernel
theorem d_Mo_isIgnored_25 : decode prog_10_method_49_code 25 = .ok (.getfield 7, 3) := by decide +kernel
theorem d_Mo_isIgnored_28 : decode prog_10_method_49_code 28 = .ok (.sipush 235, 3) := by decide +kernel
theorem d_Mo_isIgnored_31 : decode prog_10_method_49_code 31 = .ok (.iaload, 1) := by decide +kernel
theorem d_Mo_isIgnored_32 : decode prog_10_method_49_code 32 = .ok (.invokestatic 85, 3) := by decide +kernel
theorem d_Mo_isIgnored_35 : decode prog_10_method_49_code 35 = .ok (.aload_n 0, 1) := by decide +kernel
theorem d_Mo_isIgnored_36 : decode prog_10_method_49_code 36 = .ok (.getfield 7, 3) := by decide +kernel
theorem d_Mo_isIgnored_39 : decode prog_10_method_49_code 39 = .ok (.sipush 238, 3) := by decide +kernel
theorem d_Mo_isIgnored_42 : decode prog_10_method_49_code 42 = .ok (.iaload, 1) := by decide +kernel
theorem d_Mo_isIgnored_43 : decode prog_10_method_49_code 43 = .ok (.if_icmp .ge 7, 3) := by decide +kernel
theorem d_Mo_isIgnored_46 : decode prog_10_method_49_code 46 = .ok (.iconst 1, 1) := by decide +kernel
theorem d_Mo_isIgnored_47 : decode prog_10_method_49_code 47 = .ok (.goto 4, 3) := by decide +kernel
theorem d_Mo_isIgnored_50 : decode prog_10_method_49_code 50 = .ok (.iconst 0, 1) := by decide +kernel
theorem d_Mo_isIgnored_51 : decode prog_10_method_49_code 51 = .ok (.ireturn, 1) := by decide +kernel
theorem d_Mo_noteValues_0 : decode prog_10_method_51_code 0 = .ok (.aload_n 0, 1) := by decide +kernel
theorem d_Mo_noteValues_1 : decode prog_10_method_51_code 1 = .ok (.invokevirtual 154, 3) := by decide +kernel
theorem d_Mo_noteValues_4 : decode prog_10_method_51_code 4 = .ok (.iconst 0, 1) := by decide +kernel
theorem d_Mo_noteValues_5 : decode prog_10_method_51_code 5 = .ok (.istore_n 1, 1) := by decide +kernel
theorem d_Mo_noteValues_6 : decode prog_10_method_51_code 6 = .ok (.iload_n 1, 1) := by decide +kernel
theorem d_Mo_noteValues_7 : decode prog_10_method_51_code 7 = .ok (.iconst 3, 1) := by decide +kernel
theorem d_Mo_noteValues_8 : decode prog_10_method_51_code 8 = .ok (.if_icmp .ge 20, 3) := by decide +kernel
theorem d_Mo_noteValues_11 : decode prog_10_method_51_code 11 = .ok (.aload_n 0, 1) := by decide +kernel
theorem d_Mo_noteValues_12 : decode prog_10_method_51_code 12 = .ok (.getfield 34, 3) := by decide +kernel
theorem d_Mo_noteValues_15 : decode prog_10_method_51_code 15 = .ok (.iload_n 1, 1) := by decide +kernel
theorem d_Mo_noteValues_16 : decode prog_10_method_51_code 16 = .ok (.aload_n 0, 1) := by decide +kernel
theorem d_Mo_noteValues_17 : decode prog_10_method_51_code 17 = .ok (.iload_n 1, 1) := by decide +kernel
theorem d_Mo_noteValues_18 : decode prog_10_method_51_code 18 = .ok (.invokevirtual 157, 3) := by decide +kernel
theorem d_Mo_noteValues_21 : decode prog_10_method_51_code 21 = .ok (.iastore, 1) := by decide +kernel
theorem d_Mo_noteValues_22 : decode prog_10_method_51_code 22 = .ok (.iinc 1 1, 3) := by decide +kernel
theorem d_Mo_noteValues_25 : decode prog_10_method_51_code 25 = .ok (.goto (-19), 3) := by decide +kernel
theorem d_Mo_noteValues_28 : decode prog_10_method_51_code 28 = .ok (.return_, 1) := by decide +kernel
theorem d_Mo_locatePoint_0 : decode prog_10_method_25_code 0 = .ok (.aload_n 0, 1) := by decide +kernel
theorem d_Mo_locatePoint_1 : decode prog_10_method_25_code 1 = .ok (.iconst 0, 1) := by decide +kernel
theorem d_Mo_locatePoint_2 : decode prog_10_method_25_code 2 = .ok (.aload_n 0, 1) := by decide +kernel
theorem d_Mo_locatePoint_3 : decode prog_10_method_25_code 3 = .ok (.getfield 7, 3) := by decide +kernel
theorem d_Mo_locatePoint_6 : decode prog_10_method_25_code 6 = .ok (.sipush 236, 3) := by decide +kernel
theorem d_Mo_locatePoint_9 : decode prog_10_method_25_code 9 = .ok (.iaload, 1) := by decide +kernel
theorem d_Mo_locatePoint_10 : decode prog_10_method_25_code 10 = .ok (.aload_n 0, 1) := by decide +kernel
theorem d_Mo_locatePoint_11 : decode prog_10_method_25_code 11 = .ok (.getfield 7, 3) := by decide +kernel
theorem d_Mo_locatePoint_14 : decode prog_10_method_25_code 14 = .ok (.sipush 234, 3) := by decide +kernel
theorem d_Mo_locatePoint_17 : decode prog_10_method_25_code 17 = .ok (.iaload, 1) := by decide +kernel
theorem d_Mo_locatePoint_18 : decode prog_10_method_25_code 18 = .ok (.invokevirtual 74, 3) := by decide +kernel
theorem d_Mo_locatePoint_21 : decode prog_10_method_25_code 21 = .ok (.aload_n 0, 1) := by decide +kernel
theorem d_Mo_locatePoint_22 : decode prog_10_method_25_code 22 = .ok (.iconst 1, 1) := by decide +kernel
theorem d_Mo_locatePoint_23 : decode prog_10_method_25_code 23 = .ok (.aload_n 0, 1) := by decide +kernel
theorem d_Mo_locatePoint_24 : decode prog_10_method_25_code 24 = .ok (.getfield 7, 3) := by decide +kernel
theorem d_Mo_locatePoint_27 : decode prog_10_method_25_code 27 = .ok (.sipush 237, 3) := by decide +kernel
theorem d_Mo_locatePoint_30 : decode prog_10_method_25_code 30 = .ok (.iaload, 1) := by decide +kernel
theorem d_Mo_locatePoint_31 : decode prog_10_method_25_code 31 = .ok (.aload_n 0, 1) := by decide +kernel
theorem d_Mo_locatePoint_32 : decode prog_10_method_25_code 32 = .ok (.getfield 7, 3) := by decide +kernel
theorem d_Mo_locatePoint_35 : decode prog_10_method_25_code 35 = .ok (.sipush 235, 3) := by decide +kernel
theorem d_Mo_locatePoint_38 : decode prog_10_method_25_code 38 = .ok (.iaload, 1) := by decide +kernel
theorem d_Mo_locatePoint_39 : decode prog_10_method_25_code 39 = .ok (.invokevirtual 74, 3) := by decide +kernel
theorem d_Mo_locatePoint_42 : decode prog_10_method_25_code 42 = .ok (.return_, 1) := by decide +kernel
theorem d_Mo_locate_0 : decode prog_10_method_24_code 0 = .ok (.iload_n 3, 1) := by decide +kernel
theorem d_Mo_locate_1 : decode prog_10_method_24_code 1 = .ok (.istore 4, 2) := by decide +kernel
theorem d_Mo_locate_3 : decode prog_10_method_24_code 3 = .ok (.iload_n 2, 1) := by decide +kernel
theorem d_Mo_locate_4 : decode prog_10_method_24_code 4 = .ok (.ifCond .ne 8, 3) := by decide +kernel
theorem d_Mo_locate_7 : decode prog_10_method_24_code 7 = .ok (.ldc 67, 2) := by decide +kernel
theorem d_Mo_locate_9 : decode prog_10_method_24_code 9 = .ok (.goto 11, 3) := by decide +kernel
theorem d_Mo_locate_12 : decode prog_10_method_24_code 12 = .ok (.aload_n 0, 1) := by decide +kernel
theorem d_Mo_locate_13 : decode prog_10_method_24_code 13 = .ok (.iload_n 1, 1) := by decide +kernel
theorem d_Mo_locate_14 : decode prog_10_method_24_code 14 = .ok (.iload_n 2, 1) := by decide +kernel
theorem d_Mo_locate_15 : decode prog_10_method_24_code 15 = .ok (.iconst 1, 1) := by decide +kernel
theorem d_Mo_locate_16 : decode prog_10_method_24_code 16 = .ok (.isub, 1) := by decide +kernel
theorem d_Mo_locate_17 : decode prog_10_method_24_code 17 = .ok (.invokevirtual 71, 3) := by decide +kernel
theorem d_Mo_locate_20 : decode prog_10_method_24_code 20 = .ok (.istore 5, 2) := by decide +kernel
theorem d_Mo_locate_22 : decode prog_10_method_24_code 22 = .ok (.iload 5, 2) := by decide +kernel
theorem d_Mo_locate_24 : decode prog_10_method_24_code 24 = .ok (.ldc 67, 2) := by decide +kernel
theorem d_Mo_locate_26 : decode prog_10_method_24_code 26 = .ok (.if_icmp .eq 27, 3) := by decide +kernel
theorem d_Mo_locate_29 : decode prog_10_method_24_code 29 = .ok (.iload 4, 2) := by decide +kernel
theorem d_Mo_locate_31 : decode prog_10_method_24_code 31 = .ok (.aload_n 0, 1) := by decide +kernel
theorem d_Mo_locate_32 : decode prog_10_method_24_code 32 = .ok (.iload_n 1, 1) := by decide +kernel
theorem d_Mo_locate_33 : decode prog_10_method_24_code 33 = .ok (.iload 5, 2) := by decide +kernel
theorem d_Mo_locate_35 : decode prog_10_method_24_code 35 = .ok (.iconst 0, 1) := by decide +kernel
theorem d_Mo_locate_36 : decode prog_10_method_24_code 36 = .ok (.invokevirtual 63, 3) := by decide +kernel
theorem d_Mo_locate_39 : decode prog_10_method_24_code 39 = .ok (.if_icmp .ge 14, 3) := by decide +kernel
theorem d_Mo_locate_42 : decode prog_10_method_24_code 42 = .ok (.aload_n 0, 1) := by decide +kernel
theorem d_Mo_locate_43 : decode prog_10_method_24_code 43 = .ok (.iload_n 1, 1) := by decide +kernel
theorem d_Mo_locate_44 : decode prog_10_method_24_code 44 = .ok (.iload 5, 2) := by decide +kernel
theorem d_Mo_locate_46 : decode prog_10_method_24_code 46 = .ok (.iconst 0, 1) := by decide +kernel
theorem d_Mo_locate_47 : decode prog_10_method_24_code 47 = .ok (.invokevirtual 63, 3) := by decide +kernel
theorem d_Mo_locate_50 : decode prog_10_method_24_code 50 = .ok (.goto 5, 3) := by decide +kernel
theorem d_Mo_locate_53 : decode prog_10_method_24_code 53 = .ok (.iload 4, 2) := by decide +kernel
theorem d_Mo_locate_55 : decode prog_10_method_24_code 55 = .ok (.istore 4, 2) := by decide +kernel
theorem d_Mo_locate_57 : decode prog_10_method_24_code 57 = .ok (.aload_n 0, 1) := by decide +kernel
theorem d_Mo_locate_58 : decode prog_10_method_24_code 58 = .ok (.iload_n 1, 1) := by decide +kernel
theorem d_Mo_locate_59 : decode prog_10_method_24_code 59 = .ok (.iload_n 2, 1) := by decide +kernel
theorem d_Mo_locate_60 : decode prog_10_method_24_code 60 = .ok (.invokevirtual 71, 3) := by decide +kernel
theorem d_Mo_locate_63 : decode prog_10_method_24_code 63 = .ok (.istore 5, 2) := by decide +kernel
theorem d_Mo_locate_65 : decode prog_10_method_24_code 65 = .ok (.iload 5, 2) := by decide +kernel
theorem d_Mo_locate_67 : decode prog_10_method_24_code 67 = .ok (.ldc 67, 2) := by decide +kernel
theorem d_Mo_locate_69 : decode prog_10_method_24_code 69 = .ok (.if_icmp .eq 29, 3) := by decide +kernel
theorem d_Mo_locate_72 : decode prog_10_method_24_code 72 = .ok (.iload 4, 2) := by decide +kernel
theorem d_Mo_locate_74 : decode prog_10_method_24_code 74 = .ok (.aload_n 0, 1) := by decide +kernel
theorem d_Mo_locate_75 : decode prog_10_method_24_code 75 = .ok (.iload_n 1, 1) := by decide +kernel
theorem d_Mo_locate_76 : decode prog_10_method_24_code 76 = .ok (.iload 5, 2) := by decide +kernel
theorem d_Mo_locate_78 : decode prog_10_method_24_code 78 = .ok (.iconst 0, 1) := by decide +kernel
theorem d_Mo_locate_79 : decode prog_10_method_24_code 79 = .ok (.invokevirtual 63, 3) := by decide +kernel
theorem d_Mo_locate_82 : decode prog_10_method_24_code 82 = .ok (.if_icmp .lt 16, 3) := by decide +kernel
theorem d_Mo_locate_85 : decode prog_10_method_24_code 85 = .ok (.aload_n 0, 1) := by decide +kernel
theorem d_Mo_locate_86 : decode prog_10_method_24_code 86 = .ok (.iload_n 1, 1) := by decide +kernel
theorem d_Mo_locate_87 : decode prog_10_method_24_code 87 = .ok (.iload 5, 2) := by decide +kernel
theorem d_Mo_locate_89 : decode prog_10_method_24_code 89 = .ok (.iconst 0, 1) := by decide +kernel
theorem d_Mo_locate_90 : decode prog_10_method_24_code 90 = .ok (.invokevirtual 63, 3) := by decide +kernel
theorem d_Mo_locate_93 : decode prog_10_method_24_code 93 = .ok (.iconst 1, 1) := by decide +kernel
theorem d_Mo_locate_94 : decode prog_10_method_24_code 94 = .ok (.isub, 1) := by decide +kernel
theorem d_Mo_locate_95 : decode prog_10_method_24_code 95 = .ok (.goto 5, 3) := by decide +kernel
theorem d_Mo_locate_98 : decode prog_10_method_24_code 98 = .ok (.iload 4, 2) := by decide +kernel
theorem d_Mo_locate_100 : decode prog_10_method_24_code 100 = .ok (.istore 4, 2) := by decide +kernel
theorem d_Mo_locate_102 : decode prog_10_method_24_code 102 = .ok (.iconst 0, 1) := by decide +kernel
theorem d_Mo_locate_103 : decode prog_10_method_24_code 103 = .ok (.istore 6, 2) := by decide +kernel
theorem d_Mo_locate_105 : decode prog_10_method_24_code 105 = .ok (.iconst 0, 1) := by decide +kernel
theorem d_Mo_locate_106 : decode prog_10_method_24_code 106 = .ok (.istore 7, 2) := by decide +kernel
theorem d_Mo_locate_108 : decode prog_10_method_24_code 108 = .ok (.iload 7, 2) := by decide +kernel
theorem d_Mo_locate_110 : decode prog_10_method_24_code 110 = .ok (.aload_n 0, 1) := by decide +kernel
theorem d_Mo_locate_111 : decode prog_10_method_24_code 111 = .ok (.iload_n 1, 1) := by decide +kernel
theorem d_Mo_locate_112 : decode prog_10_method_24_code 112 = .ok (.invokevirtual 55, 3) := by decide +kernel
theorem d_Mo_locate_115 : decode prog_10_method_24_code 115 = .ok (.if_icmp .ge 32, 3) := by decide +kernel
theorem d_Mo_locate_118 : decode prog_10_method_24_code 118 = .ok (.iload 6, 2) := by decide +kernel
theorem d_Mo_locate_120 : decode prog_10_method_24_code 120 = .ok (.aload_n 0, 1) := by decide +kernel
theorem d_Mo_locate_121 : decode prog_10_method_24_code 121 = .ok (.iload_n 1, 1) := by decide +kernel
theorem d_Mo_locate_122 : decode prog_10_method_24_code 122 = .ok (.iload 7, 2) := by decide +kernel
theorem d_Mo_locate_124 : decode prog_10_method_24_code 124 = .ok (.iconst 0, 1) := by decide +kernel
theorem d_Mo_locate_125 : decode prog_10_method_24_code 125 = .ok (.invokevirtual 63, 3) := by decide +kernel
theorem d_Mo_locate_128 : decode prog_10_method_24_code 128 = .ok (.iload 4, 2) := by decide +kernel
theorem d_Mo_locate_130 : decode prog_10_method_24_code 130 = .ok (.if_icmp .gt 7, 3) := by decide +kernel
theorem d_Mo_locate_133 : decode prog_10_method_24_code 133 = .ok (.iconst 1, 1) := by decide +kernel
theorem d_Mo_locate_134 : decode prog_10_method_24_code 134 = .ok (.goto 4, 3) := by decide +kernel
theorem d_Mo_locate_137 : decode prog_10_method_24_code 137 = .ok (.iconst 0, 1) := by decide +kernel
theorem d_Mo_locate_138 : decode prog_10_method_24_code 138 = .ok (.iadd, 1) := by decide +kernel
theorem d_Mo_locate_139 : decode prog_10_method_24_code 139 = .ok (.istore 6, 2) := by decide +kernel
theorem d_Mo_locate_141 : decode prog_10_method_24_code 141 = .ok (.iinc 7 1, 3) := by decide +kernel
theorem d_Mo_locate_144 : decode prog_10_method_24_code 144 = .ok (.goto (-36), 3) := by decide +kernel
theorem d_Mo_locate_147 : decode prog_10_method_24_code 147 = .ok (.aload_n 0, 1) := by decide +kernel
theorem d_Mo_locate_148 : decode prog_10_method_24_code 148 = .ok (.getfield 22, 3) := by decide +kernel
theorem d_Mo_locate_151 : decode prog_10_method_24_code 151 = .ok (.iload_n 1, 1) := by decide +kernel
theorem d_Mo_locate_152 : decode prog_10_method_24_code 152 = .ok (.iload 6, 2) := by decide +kernel
theorem d_Mo_locate_154 : decode prog_10_method_24_code 154 = .ok (.iastore, 1) := by decide +kernel
theorem d_Mo_locate_155 : decode prog_10_method_24_code 155 = .ok (.aload_n 0, 1) := by decide +kernel
theorem d_Mo_locate_156 : decode prog_10_method_24_code 156 = .ok (.getfield 25, 3) := by decide +kernel
theorem d_Mo_locate_159 : decode prog_10_method_24_code 159 = .ok (.iload_n 1, 1) := by decide +kernel
theorem d_Mo_locate_160 : decode prog_10_method_24_code 160 = .ok (.iload 6, 2) := by decide +kernel
theorem d_Mo_locate_162 : decode prog_10_method_24_code 162 = .ok (.iastore, 1) := by decide +kernel
theorem d_Mo_locate_163 : decode prog_10_method_24_code 163 = .ok (.aload_n 0, 1) := by decide +kernel
theorem d_Mo_locate_164 : decode prog_10_method_24_code 164 = .ok (.getfield 28, 3) := by decide +kernel
theorem d_Mo_locate_167 : decode prog_10_method_24_code 167 = .ok (.iload_n 1, 1) := by decide +kernel
theorem d_Mo_locate_168 : decode prog_10_method_24_code 168 = .ok (.iconst 0, 1) := by decide +kernel
theorem d_Mo_locate_169 : decode prog_10_method_24_code 169 = .ok (.iastore, 1) := by decide +kernel
theorem d_Mo_locate_170 : decode prog_10_method_24_code 170 = .ok (.aload_n 0, 1) := by decide +kernel
theorem d_Mo_locate_171 : decode prog_10_method_24_code 171 = .ok (.getfield 31, 3) := by decide +kernel
theorem d_Mo_locate_174 : decode prog_10_method_24_code 174 = .ok (.iload_n 1, 1) := by decide +kernel
theorem d_Mo_locate_175 : decode prog_10_method_24_code 175 = .ok (.iconst 1, 1) := by decide +kernel
theorem d_Mo_locate_176 : decode prog_10_method_24_code 176 = .ok (.iastore, 1) := by decide +kernel
theorem d_Mo_locate_177 : decode prog_10_method_24_code 177 = .ok (.iconst 0, 1) := by decide +kernel
theorem d_Mo_locate_178 : decode prog_10_method_24_code 178 = .ok (.istore 7, 2) := by decide +kernel
theorem d_Mo_locate_180 : decode prog_10_method_24_code 180 = .ok (.iload 7, 2) := by decide +kernel
theorem d_Mo_locate_182 : decode prog_10_method_24_code 182 = .ok (.aload_n 0, 1) := by decide +kernel
theorem d_Mo_locate_183 : decode prog_10_method_24_code 183 = .ok (.iload_n 1, 1) := by decide +kernel
theorem d_Mo_locate_184 : decode prog_10_method_24_code 184 = .ok (.invokevirtual 55, 3) := by decide +kernel
theorem d_Mo_locate_187 : decode prog_10_method_24_code 187 = .ok (.if_icmp .ge 101, 3) := by decide +kernel
theorem d_Mo_locate_190 : decode prog_10_method_24_code 190 = .ok (.aload_n 0, 1) := by decide +kernel
theorem d_Mo_locate_191 : decode prog_10_method_24_code 191 = .ok (.iload_n 1, 1) := by decide +kernel
theorem d_Mo_locate_192 : decode prog_10_method_24_code 192 = .ok (.iload 7, 2) := by decide +kernel
theorem d_Mo_locate_194 : decode prog_10_method_24_code 194 = .ok (.iconst 0, 1) := by decide +kernel
theorem d_Mo_locate_195 : decode prog_10_method_24_code 195 = .ok (.invokevirtual 63, 3) := by decide +kernel
theorem d_Mo_locate_198 : decode prog_10_method_24_code 198 = .ok (.istore 8, 2) := by decide +kernel
theorem d_Mo_locate_200 : decode prog_10_method_24_code 200 = .ok (.aload_n 0, 1) := by decide +kernel
theorem d_Mo_locate_201 : decode prog_10_method_24_code 201 = .ok (.iload_n 1, 1) := by decide +kernel
theorem d_Mo_locate_202 : decode prog_10_method_24_code 202 = .ok (.iload 7, 2) := by decide +kernel
theorem d_Mo_locate_204 : decode prog_10_method_24_code 204 = .ok (.iconst 2, 1) := by decide +kernel
theorem d_Mo_locate_205 : decode prog_10_method_24_code 205 = .ok (.invokevirtual 63, 3) := by decide +kernel
theorem d_Mo_locate_208 : decode prog_10_method_24_code 208 = .ok (.istore 9, 2) := by decide +kernel
theorem d_Mo_locate_210 : decode prog_10_method_24_code 210 = .ok (.aload_n 0, 1) := by decide +kernel
theorem d_Mo_locate_211 : decode prog_10_method_24_code 211 = .ok (.iload_n 1, 1) := by decide +kernel
theorem d_Mo_locate_212 : decode prog_10_method_24_code 212 = .ok (.iload 7, 2) := by decide +kernel
theorem d_Mo_locate_214 : decode prog_10_method_24_code 214 = .ok (.iconst 1, 1) := by decide +kernel
theorem d_Mo_locate_215 : decode prog_10_method_24_code 215 = .ok (.invokevirtual 63, 3) := by decide +kernel
theorem d_Mo_locate_218 : decode prog_10_method_24_code 218 = .ok (.iconst 1, 1) := by decide +kernel
theorem d_Mo_locate_219 : decode prog_10_method_24_code 219 = .ok (.if_icmp .ne 63, 3) := by decide +kernel
theorem d_Mo_locate_222 : decode prog_10_method_24_code 222 = .ok (.iload 4, 2) := by decide +kernel
theorem d_Mo_locate_224 : decode prog_10_method_24_code 224 = .ok (.iload 8, 2) := by decide +kernel
theorem d_Mo_locate_226 : decode prog_10_method_24_code 226 = .ok (.iload 9, 2) := by decide +kernel
theorem d_Mo_locate_228 : decode prog_10_method_24_code 228 = .ok (.isub, 1) := by decide +kernel
theorem d_Mo_locate_229 : decode prog_10_method_24_code 229 = .ok (.iload 8, 2) := by decide +kernel
theorem d_Mo_locate_231 : decode prog_10_method_24_code 231 = .ok (.iload 9, 2) := by decide +kernel
theorem d_Mo_locate_233 : decode prog_10_method_24_code 233 = .ok (.iadd, 1) := by decide +kernel
theorem d_Mo_locate_234 : decode prog_10_method_24_code 234 = .ok (.invokestatic 47, 3) := by decide +kernel
theorem d_Mo_locate_237 : decode prog_10_method_24_code 237 = .ok (.ifCond .eq 45, 3) := by decide +kernel
theorem d_Mo_locate_240 : decode prog_10_method_24_code 240 = .ok (.aload_n 0, 1) := by decide +kernel
theorem d_Mo_locate_241 : decode prog_10_method_24_code 241 = .ok (.getfield 22, 3) := by decide +kernel
theorem d_Mo_locate_244 : decode prog_10_method_24_code 244 = .ok (.iload_n 1, 1) := by decide +kernel
theorem d_Mo_locate_245 : decode prog_10_method_24_code 245 = .ok (.iload 7, 2) := by decide +kernel
theorem d_Mo_locate_247 : decode prog_10_method_24_code 247 = .ok (.iastore, 1) := by decide +kernel
theorem d_Mo_locate_248 : decode prog_10_method_24_code 248 = .ok (.aload_n 0, 1) := by decide +kernel
theorem d_Mo_locate_249 : decode prog_10_method_24_code 249 = .ok (.getfield 25, 3) := by decide +kernel
theorem d_Mo_locate_252 : decode prog_10_method_24_code 252 = .ok (.iload_n 1, 1) := by decide +kernel
theorem d_Mo_locate_253 : decode prog_10_method_24_code 253 = .ok (.iload 7, 2) := by decide +kernel
theorem d_Mo_locate_255 : decode prog_10_method_24_code 255 = .ok (.iconst 1, 1) := by decide +kernel
theorem d_Mo_locate_256 : decode prog_10_method_24_code 256 = .ok (.iadd, 1) := by decide +kernel
theorem d_Mo_locate_257 : decode prog_10_method_24_code 257 = .ok (.iastore, 1) := by decide +kernel
theorem d_Mo_locate_258 : decode prog_10_method_24_code 258 = .ok (.aload_n 0, 1) := by decide +kernel
theorem d_Mo_locate_259 : decode prog_10_method_24_code 259 = .ok (.getfield 28, 3) := by decide +kernel
theorem d_Mo_locate_262 : decode prog_10_method_24_code 262 = .ok (.iload_n 1, 1) := by decide +kernel
theorem d_Mo_locate_263 : decode prog_10_method_24_code 263 = .ok (.iload 4, 2) := by decide +kernel
theorem d_Mo_locate_265 : decode prog_10_method_24_code 265 = .ok (.iload 8, 2) := by decide +kernel
theorem d_Mo_locate_267 : decode prog_10_method_24_code 267 = .ok (.isub, 1) := by decide +kernel
theorem d_Mo_locate_268 : decode prog_10_method_24_code 268 = .ok (.iload 9, 2) := by decide +kernel
theorem d_Mo_locate_270 : decode prog_10_method_24_code 270 = .ok (.iadd, 1) := by decide +kernel
theorem d_Mo_locate_271 : decode prog_10_method_24_code 271 = .ok (.iastore, 1) := by decide +kernel
theorem d_Mo_locate_272 : decode prog_10_method_24_code 272 = .ok (.aload_n 0, 1) := by decide +kernel
theorem d_Mo_locate_273 : decode prog_10_method_24_code 273 = .ok (.getfield 31, 3) := by decide +kernel
theorem d_Mo_locate_276 : decode prog_10_method_24_code 276 = .ok (.iload_n 1, 1) := by decide +kernel
theorem d_Mo_locate_277 : decode prog_10_method_24_code 277 = .ok (.iconst 2, 1) := by decide +kernel
theorem d_Mo_locate_278 : decode prog_10_method_24_code 278 = .ok (.iload 9, 2) := by decide +kernel
theorem d_Mo_locate_280 : decode prog_10_method_24_code 280 = .ok (.imul, 1) := by decide +kernel
theorem d_Mo_locate_281 : decode prog_10_method_24_code 281 = .ok (.iastore, 1) := by decide +kernel
theorem d_Mo_locate_282 : decode prog_10_method_24_code 282 = .ok (.iinc 7 1, 3) := by decide +kernel
theorem d_Mo_locate_285 : decode prog_10_method_24_code 285 = .ok (.goto (-105), 3) := by decide +kernel
theorem d_Mo_locate_288 : decode prog_10_method_24_code 288 = .ok (.return_, 1) := by decide +kernel
theorem d_Mo_sticky_0 : decode prog_10_method_19_code 0 = .ok (.iload_n 2, 1) := by decide +kernel
theorem d_Mo_sticky_1 : decode prog_10_method_19_code 1 = .ok (.istore_n 3, 1) := by decide +kernel
theorem d_Mo_sticky_2 : decode prog_10_method_19_code 2 = .ok (.iconst 0, 1) := by decide +kernel
theorem d_Mo_sticky_3 : decode prog_10_method_19_code 3 = .ok (.istore 4, 2) := by decide +kernel
theorem d_Mo_sticky_5 : decode prog_10_method_19_code 5 = .ok (.iload 4, 2) := by decide +kernel
theorem d_Mo_sticky_7 : decode prog_10_method_19_code 7 = .ok (.aload_n 0, 1) := by decide +kernel
theorem d_Mo_sticky_8 : decode prog_10_method_19_code 8 = .ok (.iload_n 1, 1) := by decide +kernel
theorem d_Mo_sticky_9 : decode prog_10_method_19_code 9 = .ok (.invokevirtual 55, 3) := by decide +kernel
theorem d_Mo_sticky_12 : decode prog_10_method_19_code 12 = .ok (.if_icmp .ge 30, 3) := by decide +kernel
theorem d_Mo_sticky_15 : decode prog_10_method_19_code 15 = .ok (.aload_n 0, 1) := by decide +kernel
theorem d_Mo_sticky_16 : decode prog_10_method_19_code 16 = .ok (.iload_n 1, 1) := by decide +kernel
theorem d_Mo_sticky_17 : decode prog_10_method_19_code 17 = .ok (.iload 4, 2) := by decide +kernel
theorem d_Mo_sticky_19 : decode prog_10_method_19_code 19 = .ok (.iconst 1, 1) := by decide +kernel
theorem d_Mo_sticky_20 : decode prog_10_method_19_code 20 = .ok (.invokevirtual 63, 3) := by decide +kernel
theorem d_Mo_sticky_23 : decode prog_10_method_19_code 23 = .ok (.ifCond .ne 13, 3) := by decide +kernel
theorem d_Mo_sticky_26 : decode prog_10_method_19_code 26 = .ok (.iload_n 3, 1) := by decide +kernel
theorem d_Mo_sticky_27 : decode prog_10_method_19_code 27 = .ok (.ifCond .ne 6, 3) := by decide +kernel
theorem d_Mo_sticky_30 : decode prog_10_method_19_code 30 = .ok (.iload 4, 2) := by decide +kernel
theorem d_Mo_sticky_32 : decode prog_10_method_19_code 32 = .ok (.ireturn, 1) := by decide +kernel
theorem d_Mo_sticky_33 : decode prog_10_method_19_code 33 = .ok (.iinc 3 (-1), 3) := by decide +kernel
theorem d_Mo_sticky_36 : decode prog_10_method_19_code 36 = .ok (.iinc 4 1, 3) := by decide +kernel
theorem d_Mo_sticky_39 : decode prog_10_method_19_code 39 = .ok (.goto (-34), 3) := by decide +kernel
theorem d_Mo_sticky_42 : decode prog_10_method_19_code 42 = .ok (.ldc 67, 2) := by decide +kernel
theorem d_Mo_sticky_44 : decode prog_10_method_19_code 44 = .ok (.ireturn, 1) := by decide +kernel
