-- what the bytes say, instruction by instruction
theorem d_Mo_value_0 : decode prog_10_method_28_code 0 = .ok (.aload_n 0, 1) := by decide +kernel
theorem d_Mo_value_1 : decode prog_10_method_28_code 1 = .ok (.iload_n 1, 1) := by decide +kernel
theorem d_Mo_value_2 : decode prog_10_method_28_code 2 = .ok (.invokevirtual 78, 3) := by decide +kernel
theorem d_Mo_value_5 : decode prog_10_method_28_code 5 = .ok (.aload_n 0, 1) := by decide +kernel
theorem d_Mo_value_6 : decode prog_10_method_28_code 6 = .ok (.invokevirtual 81, 3) := by decide +kernel
theorem d_Mo_value_9 : decode prog_10_method_28_code 9 = .ok (.idiv, 1) := by decide +kernel
theorem d_Mo_value_10 : decode prog_10_method_28_code 10 = .ok (.ireturn, 1) := by decide +kernel
theorem d_Mo_numerator_0 : decode prog_10_method_27_code 0 = .ok (.aload_n 0, 1) := by decide +kernel
theorem d_Mo_numerator_1 : decode prog_10_method_27_code 1 = .ok (.getfield 31, 3) := by decide +kernel
theorem d_Mo_numerator_4 : decode prog_10_method_27_code 4 = .ok (.iconst 0, 1) := by decide +kernel
theorem d_Mo_numerator_5 : decode prog_10_method_27_code 5 = .ok (.iaload, 1) := by decide +kernel
theorem d_Mo_numerator_6 : decode prog_10_method_27_code 6 = .ok (.aload_n 0, 1) := by decide +kernel
theorem d_Mo_numerator_7 : decode prog_10_method_27_code 7 = .ok (.getfield 28, 3) := by decide +kernel
theorem d_Mo_numerator_10 : decode prog_10_method_27_code 10 = .ok (.iconst 0, 1) := by decide +kernel
theorem d_Mo_numerator_11 : decode prog_10_method_27_code 11 = .ok (.iaload, 1) := by decide +kernel
theorem d_Mo_numerator_12 : decode prog_10_method_27_code 12 = .ok (.isub, 1) := by decide +kernel
theorem d_Mo_numerator_13 : decode prog_10_method_27_code 13 = .ok (.istore_n 2, 1) := by decide +kernel
theorem d_Mo_numerator_14 : decode prog_10_method_27_code 14 = .ok (.aload_n 0, 1) := by decide +kernel
theorem d_Mo_numerator_15 : decode prog_10_method_27_code 15 = .ok (.getfield 31, 3) := by decide +kernel
theorem d_Mo_numerator_18 : decode prog_10_method_27_code 18 = .ok (.iconst 1, 1) := by decide +kernel
theorem d_Mo_numerator_19 : decode prog_10_method_27_code 19 = .ok (.iaload, 1) := by decide +kernel
theorem d_Mo_numerator_20 : decode prog_10_method_27_code 20 = .ok (.aload_n 0, 1) := by decide +kernel
theorem d_Mo_numerator_21 : decode prog_10_method_27_code 21 = .ok (.getfield 28, 3) := by decide +kernel
theorem d_Mo_numerator_24 : decode prog_10_method_27_code 24 = .ok (.iconst 1, 1) := by decide +kernel
theorem d_Mo_numerator_25 : decode prog_10_method_27_code 25 = .ok (.iaload, 1) := by decide +kernel
theorem d_Mo_numerator_26 : decode prog_10_method_27_code 26 = .ok (.isub, 1) := by decide +kernel
theorem d_Mo_numerator_27 : decode prog_10_method_27_code 27 = .ok (.istore_n 3, 1) := by decide +kernel
theorem d_Mo_numerator_28 : decode prog_10_method_27_code 28 = .ok (.iload_n 2, 1) := by decide +kernel
theorem d_Mo_numerator_29 : decode prog_10_method_27_code 29 = .ok (.iload_n 3, 1) := by decide +kernel
theorem d_Mo_numerator_30 : decode prog_10_method_27_code 30 = .ok (.imul, 1) := by decide +kernel
theorem d_Mo_numerator_31 : decode prog_10_method_27_code 31 = .ok (.aload_n 0, 1) := by decide +kernel
theorem d_Mo_numerator_32 : decode prog_10_method_27_code 32 = .ok (.getfield 7, 3) := by decide +kernel
theorem d_Mo_numerator_35 : decode prog_10_method_27_code 35 = .ok (.aload_n 0, 1) := by decide +kernel
theorem d_Mo_numerator_36 : decode prog_10_method_27_code 36 = .ok (.getfield 22, 3) := by decide +kernel
theorem d_Mo_numerator_39 : decode prog_10_method_27_code 39 = .ok (.iconst 0, 1) := by decide +kernel
theorem d_Mo_numerator_40 : decode prog_10_method_27_code 40 = .ok (.iaload, 1) := by decide +kernel
theorem d_Mo_numerator_41 : decode prog_10_method_27_code 41 = .ok (.aload_n 0, 1) := by decide +kernel
theorem d_Mo_numerator_42 : decode prog_10_method_27_code 42 = .ok (.getfield 22, 3) := by decide +kernel
theorem d_Mo_numerator_45 : decode prog_10_method_27_code 45 = .ok (.iconst 1, 1) := by decide +kernel
theorem d_Mo_numerator_46 : decode prog_10_method_27_code 46 = .ok (.iaload, 1) := by decide +kernel
theorem d_Mo_numerator_47 : decode prog_10_method_27_code 47 = .ok (.invokestatic 59, 3) := by decide +kernel
theorem d_Mo_numerator_50 : decode prog_10_method_27_code 50 = .ok (.iload_n 1, 1) := by decide +kernel
theorem d_Mo_numerator_51 : decode prog_10_method_27_code 51 = .ok (.iadd, 1) := by decide +kernel
theorem d_Mo_numerator_52 : decode prog_10_method_27_code 52 = .ok (.iaload, 1) := by decide +kernel
theorem d_Mo_numerator_53 : decode prog_10_method_27_code 53 = .ok (.imul, 1) := by decide +kernel
theorem d_Mo_numerator_54 : decode prog_10_method_27_code 54 = .ok (.istore 4, 2) := by decide +kernel
theorem d_Mo_numerator_56 : decode prog_10_method_27_code 56 = .ok (.iload 4, 2) := by decide +kernel
theorem d_Mo_numerator_58 : decode prog_10_method_27_code 58 = .ok (.aload_n 0, 1) := by decide +kernel
theorem d_Mo_numerator_59 : decode prog_10_method_27_code 59 = .ok (.getfield 28, 3) := by decide +kernel
theorem d_Mo_numerator_62 : decode prog_10_method_27_code 62 = .ok (.iconst 0, 1) := by decide +kernel
theorem d_Mo_numerator_63 : decode prog_10_method_27_code 63 = .ok (.iaload, 1) := by decide +kernel
theorem d_Mo_numerator_64 : decode prog_10_method_27_code 64 = .ok (.iload_n 3, 1) := by decide +kernel
theorem d_Mo_numerator_65 : decode prog_10_method_27_code 65 = .ok (.imul, 1) := by decide +kernel
theorem d_Mo_numerator_66 : decode prog_10_method_27_code 66 = .ok (.aload_n 0, 1) := by decide +kernel
theorem d_Mo_numerator_67 : decode prog_10_method_27_code 67 = .ok (.getfield 7, 3) := by decide +kernel
theorem d_Mo_numerator_70 : decode prog_10_method_27_code 70 = .ok (.aload_n 0, 1) := by decide +kernel
theorem d_Mo_numerator_71 : decode prog_10_method_27_code 71 = .ok (.getfield 25, 3) := by decide +kernel
theorem d_Mo_numerator_74 : decode prog_10_method_27_code 74 = .ok (.iconst 0, 1) := by decide +kernel
theorem d_Mo_numerator_75 : decode prog_10_method_27_code 75 = .ok (.iaload, 1) := by decide +kernel
theorem d_Mo_numerator_76 : decode prog_10_method_27_code 76 = .ok (.aload_n 0, 1) := by decide +kernel
theorem d_Mo_numerator_77 : decode prog_10_method_27_code 77 = .ok (.getfield 22, 3) := by decide +kernel
theorem d_Mo_numerator_80 : decode prog_10_method_27_code 80 = .ok (.iconst 1, 1) := by decide +kernel
theorem d_Mo_numerator_81 : decode prog_10_method_27_code 81 = .ok (.iaload, 1) := by decide +kernel
theorem d_Mo_numerator_82 : decode prog_10_method_27_code 82 = .ok (.invokestatic 59, 3) := by decide +kernel
theorem d_Mo_numerator_85 : decode prog_10_method_27_code 85 = .ok (.iload_n 1, 1) := by decide +kernel
theorem d_Mo_numerator_86 : decode prog_10_method_27_code 86 = .ok (.iadd, 1) := by decide +kernel
theorem d_Mo_numerator_87 : decode prog_10_method_27_code 87 = .ok (.iaload, 1) := by decide +kernel
theorem d_Mo_numerator_88 : decode prog_10_method_27_code 88 = .ok (.imul, 1) := by decide +kernel
theorem d_Mo_numerator_89 : decode prog_10_method_27_code 89 = .ok (.iadd, 1) := by decide +kernel
theorem d_Mo_numerator_90 : decode prog_10_method_27_code 90 = .ok (.istore 4, 2) := by decide +kernel
theorem d_Mo_numerator_92 : decode prog_10_method_27_code 92 = .ok (.iload 4, 2) := by decide +kernel
theorem d_Mo_numerator_94 : decode prog_10_method_27_code 94 = .ok (.iload_n 2, 1) := by decide +kernel
theorem d_Mo_numerator_95 : decode prog_10_method_27_code 95 = .ok (.aload_n 0, 1) := by decide +kernel
theorem d_Mo_numerator_96 : decode prog_10_method_27_code 96 = .ok (.getfield 28, 3) := by decide +kernel
theorem d_Mo_numerator_99 : decode prog_10_method_27_code 99 = .ok (.iconst 1, 1) := by decide +kernel
theorem d_Mo_numerator_100 : decode prog_10_method_27_code 100 = .ok (.iaload, 1) := by decide +kernel
theorem d_Mo_numerator_101 : decode prog_10_method_27_code 101 = .ok (.imul, 1) := by decide +kernel
theorem d_Mo_numerator_102 : decode prog_10_method_27_code 102 = .ok (.aload_n 0, 1) := by decide +kernel
theorem d_Mo_numerator_103 : decode prog_10_method_27_code 103 = .ok (.getfield 7, 3) := by decide +kernel
theorem d_Mo_numerator_106 : decode prog_10_method_27_code 106 = .ok (.aload_n 0, 1) := by decide +kernel
theorem d_Mo_numerator_107 : decode prog_10_method_27_code 107 = .ok (.getfield 22, 3) := by decide +kernel
theorem d_Mo_numerator_110 : decode prog_10_method_27_code 110 = .ok (.iconst 0, 1) := by decide +kernel
theorem d_Mo_numerator_111 : decode prog_10_method_27_code 111 = .ok (.iaload, 1) := by decide +kernel
theorem d_Mo_numerator_112 : decode prog_10_method_27_code 112 = .ok (.aload_n 0, 1) := by decide +kernel
theorem d_Mo_numerator_113 : decode prog_10_method_27_code 113 = .ok (.getfield 25, 3) := by decide +kernel
theorem d_Mo_numerator_116 : decode prog_10_method_27_code 116 = .ok (.iconst 1, 1) := by decide +kernel
theorem d_Mo_numerator_117 : decode prog_10_method_27_code 117 = .ok (.iaload, 1) := by decide +kernel
theorem d_Mo_numerator_118 : decode prog_10_method_27_code 118 = .ok (.invokestatic 59, 3) := by decide +kernel
theorem d_Mo_numerator_121 : decode prog_10_method_27_code 121 = .ok (.iload_n 1, 1) := by decide +kernel
theorem d_Mo_numerator_122 : decode prog_10_method_27_code 122 = .ok (.iadd, 1) := by decide +kernel
theorem d_Mo_numerator_123 : decode prog_10_method_27_code 123 = .ok (.iaload, 1) := by decide +kernel
theorem d_Mo_numerator_124 : decode prog_10_method_27_code 124 = .ok (.imul, 1) := by decide +kernel
theorem d_Mo_numerator_125 : decode prog_10_method_27_code 125 = .ok (.iadd, 1) := by decide +kernel
theorem d_Mo_numerator_126 : decode prog_10_method_27_code 126 = .ok (.istore 4, 2) := by decide +kernel
theorem d_Mo_numerator_128 : decode prog_10_method_27_code 128 = .ok (.iload 4, 2) := by decide +kernel
theorem d_Mo_numerator_130 : decode prog_10_method_27_code 130 = .ok (.aload_n 0, 1) := by decide +kernel
theorem d_Mo_numerator_131 : decode prog_10_method_27_code 131 = .ok (.getfield 28, 3) := by decide +kernel
theorem d_Mo_numerator_134 : decode prog_10_method_27_code 134 = .ok (.iconst 0, 1) := by decide +kernel
theorem d_Mo_numerator_135 : decode prog_10_method_27_code 135 = .ok (.iaload, 1) := by decide +kernel
theorem d_Mo_numerator_136 : decode prog_10_method_27_code 136 = .ok (.aload_n 0, 1) := by decide +kernel
theorem d_Mo_numerator_137 : decode prog_10_method_27_code 137 = .ok (.getfield 28, 3) := by decide +kernel
theorem d_Mo_numerator_140 : decode prog_10_method_27_code 140 = .ok (.iconst 1, 1) := by decide +kernel
theorem d_Mo_numerator_141 : decode prog_10_method_27_code 141 = .ok (.iaload, 1) := by decide +kernel
theorem d_Mo_numerator_142 : decode prog_10_method_27_code 142 = .ok (.imul, 1) := by decide +kernel
theorem d_Mo_numerator_143 : decode prog_10_method_27_code 143 = .ok (.aload_n 0, 1) := by decide +kernel
theorem d_Mo_numerator_144 : decode prog_10_method_27_code 144 = .ok (.getfield 7, 3) := by decide +kernel
theorem d_Mo_numerator_147 : decode prog_10_method_27_code 147 = .ok (.aload_n 0, 1) := by decide +kernel
theorem d_Mo_numerator_148 : decode prog_10_method_27_code 148 = .ok (.getfield 25, 3) := by decide +kernel
theorem d_Mo_numerator_151 : decode prog_10_method_27_code 151 = .ok (.iconst 0, 1) := by decide +kernel
theorem d_Mo_numerator_152 : decode prog_10_method_27_code 152 = .ok (.iaload, 1) := by decide +kernel
theorem d_Mo_numerator_153 : decode prog_10_method_27_code 153 = .ok (.aload_n 0, 1) := by decide +kernel
theorem d_Mo_numerator_154 : decode prog_10_method_27_code 154 = .ok (.getfield 25, 3) := by decide +kernel
theorem d_Mo_numerator_157 : decode prog_10_method_27_code 157 = .ok (.iconst 1, 1) := by decide +kernel
theorem d_Mo_numerator_158 : decode prog_10_method_27_code 158 = .ok (.iaload, 1) := by decide +kernel
theorem d_Mo_numerator_159 : decode prog_10_method_27_code 159 = .ok (.invokestatic 59, 3) := by decide +kernel
theorem d_Mo_numerator_162 : decode prog_10_method_27_code 162 = .ok (.iload_n 1, 1) := by decide +kernel
theorem d_Mo_numerator_163 : decode prog_10_method_27_code 163 = .ok (.iadd, 1) := by decide +kernel
theorem d_Mo_numerator_164 : decode prog_10_method_27_code 164 = .ok (.iaload, 1) := by decide +kernel
theorem d_Mo_numerator_165 : decode prog_10_method_27_code 165 = .ok (.imul, 1) := by decide +kernel
theorem d_Mo_numerator_166 : decode prog_10_method_27_code 166 = .ok (.iadd, 1) := by decide +kernel
theorem d_Mo_numerator_167 : decode prog_10_method_27_code 167 = .ok (.ireturn, 1) := by decide +kernel
theorem d_Mo_denominator_0 : decode prog_10_method_26_code 0 = .ok (.aload_n 0, 1) := by decide +kernel
theorem d_Mo_denominator_1 : decode prog_10_method_26_code 1 = .ok (.getfield 31, 3) := by decide +kernel
theorem d_Mo_denominator_4 : decode prog_10_method_26_code 4 = .ok (.iconst 0, 1) := by decide +kernel
theorem d_Mo_denominator_5 : decode prog_10_method_26_code 5 = .ok (.iaload, 1) := by decide +kernel
theorem d_Mo_denominator_6 : decode prog_10_method_26_code 6 = .ok (.aload_n 0, 1) := by decide +kernel
theorem d_Mo_denominator_7 : decode prog_10_method_26_code 7 = .ok (.getfield 31, 3) := by decide +kernel
theorem d_Mo_denominator_10 : decode prog_10_method_26_code 10 = .ok (.iconst 1, 1) := by decide +kernel
theorem d_Mo_denominator_11 : decode prog_10_method_26_code 11 = .ok (.iaload, 1) := by decide +kernel
theorem d_Mo_denominator_12 : decode prog_10_method_26_code 12 = .ok (.imul, 1) := by decide +kernel
theorem d_Mo_denominator_13 : decode prog_10_method_26_code 13 = .ok (.ireturn, 1) := by decide +kernel
theorem d_Mo_goTo_0 : decode prog_10_method_53_code 0 = .ok (.aload_n 0, 1) := by decide +kernel
theorem d_Mo_goTo_1 : decode prog_10_method_53_code 1 = .ok (.getfield 7, 3) := by decide +kernel
theorem d_Mo_goTo_4 : decode prog_10_method_53_code 4 = .ok (.sipush 234, 3) := by decide +kernel
theorem d_Mo_goTo_7 : decode prog_10_method_53_code 7 = .ok (.iload_n 1, 1) := by decide +kernel
theorem d_Mo_goTo_8 : decode prog_10_method_53_code 8 = .ok (.iastore, 1) := by decide +kernel
theorem d_Mo_goTo_9 : decode prog_10_method_53_code 9 = .ok (.aload_n 0, 1) := by decide +kernel
theorem d_Mo_goTo_10 : decode prog_10_method_53_code 10 = .ok (.getfield 7, 3) := by decide +kernel
theorem d_Mo_goTo_13 : decode prog_10_method_53_code 13 = .ok (.sipush 235, 3) := by decide +kernel
theorem d_Mo_goTo_16 : decode prog_10_method_53_code 16 = .ok (.iload_n 2, 1) := by decide +kernel
theorem d_Mo_goTo_17 : decode prog_10_method_53_code 17 = .ok (.iastore, 1) := by decide +kernel
theorem d_Mo_goTo_18 : decode prog_10_method_53_code 18 = .ok (.aload_n 0, 1) := by decide +kernel
theorem d_Mo_goTo_19 : decode prog_10_method_53_code 19 = .ok (.getfield 7, 3) := by decide +kernel
theorem d_Mo_goTo_22 : decode prog_10_method_53_code 22 = .ok (.sipush 236, 3) := by decide +kernel
theorem d_Mo_goTo_25 : decode prog_10_method_53_code 25 = .ok (.aload_n 0, 1) := by decide +kernel
theorem d_Mo_goTo_26 : decode prog_10_method_53_code 26 = .ok (.iconst 0, 1) := by decide +kernel
theorem d_Mo_goTo_27 : decode prog_10_method_53_code 27 = .ok (.aload_n 0, 1) := by decide +kernel
theorem d_Mo_goTo_28 : decode prog_10_method_53_code 28 = .ok (.getfield 7, 3) := by decide +kernel
theorem d_Mo_goTo_31 : decode prog_10_method_53_code 31 = .ok (.sipush 236, 3) := by decide +kernel
theorem d_Mo_goTo_34 : decode prog_10_method_53_code 34 = .ok (.iaload, 1) := by decide +kernel
theorem d_Mo_goTo_35 : decode prog_10_method_53_code 35 = .ok (.iload_n 1, 1) := by decide +kernel
theorem d_Mo_goTo_36 : decode prog_10_method_53_code 36 = .ok (.invokevirtual 160, 3) := by decide +kernel
theorem d_Mo_goTo_39 : decode prog_10_method_53_code 39 = .ok (.iastore, 1) := by decide +kernel
theorem d_Mo_goTo_40 : decode prog_10_method_53_code 40 = .ok (.aload_n 0, 1) := by decide +kernel
theorem d_Mo_goTo_41 : decode prog_10_method_53_code 41 = .ok (.getfield 7, 3) := by decide +kernel
theorem d_Mo_goTo_44 : decode prog_10_method_53_code 44 = .ok (.sipush 237, 3) := by decide +kernel
theorem d_Mo_goTo_47 : decode prog_10_method_53_code 47 = .ok (.aload_n 0, 1) := by decide +kernel
theorem d_Mo_goTo_48 : decode prog_10_method_53_code 48 = .ok (.iconst 1, 1) := by decide +kernel
theorem d_Mo_goTo_49 : decode prog_10_method_53_code 49 = .ok (.aload_n 0, 1) := by decide +kernel
theorem d_Mo_goTo_50 : decode prog_10_method_53_code 50 = .ok (.getfield 7, 3) := by decide +kernel
theorem d_Mo_goTo_53 : decode prog_10_method_53_code 53 = .ok (.sipush 237, 3) := by decide +kernel
theorem d_Mo_goTo_56 : decode prog_10_method_53_code 56 = .ok (.iaload, 1) := by decide +kernel
theorem d_Mo_goTo_57 : decode prog_10_method_53_code 57 = .ok (.iload_n 2, 1) := by decide +kernel
theorem d_Mo_goTo_58 : decode prog_10_method_53_code 58 = .ok (.invokevirtual 160, 3) := by decide +kernel
theorem d_Mo_goTo_61 : decode prog_10_method_53_code 61 = .ok (.iastore, 1) := by decide +kernel
theorem d_Mo_goTo_62 : decode prog_10_method_53_code 62 = .ok (.return_, 1) := by decide +kernel
theorem d_Mo_zoneBehind_0 : decode prog_10_method_23_code 0 = .ok (.iload_n 2, 1) := by decide +kernel
theorem d_Mo_zoneBehind_1 : decode prog_10_method_23_code 1 = .ok (.istore 4, 2) := by decide +kernel
theorem d_Mo_zoneBehind_3 : decode prog_10_method_23_code 3 = .ok (.aload_n 0, 1) := by decide +kernel
theorem d_Mo_zoneBehind_4 : decode prog_10_method_23_code 4 = .ok (.iload_n 1, 1) := by decide +kernel
theorem d_Mo_zoneBehind_5 : decode prog_10_method_23_code 5 = .ok (.iload 4, 2) := by decide +kernel
theorem d_Mo_zoneBehind_7 : decode prog_10_method_23_code 7 = .ok (.invokevirtual 71, 3) := by decide +kernel
theorem d_Mo_zoneBehind_10 : decode prog_10_method_23_code 10 = .ok (.istore 5, 2) := by decide +kernel
theorem d_Mo_zoneBehind_12 : decode prog_10_method_23_code 12 = .ok (.iload 5, 2) := by decide +kernel
theorem d_Mo_zoneBehind_14 : decode prog_10_method_23_code 14 = .ok (.ldc 67, 2) := by decide +kernel
theorem d_Mo_zoneBehind_16 : decode prog_10_method_23_code 16 = .ok (.if_icmp .eq 39, 3) := by decide +kernel
theorem d_Mo_zoneBehind_19 : decode prog_10_method_23_code 19 = .ok (.iload_n 3, 1) := by decide +kernel
theorem d_Mo_zoneBehind_20 : decode prog_10_method_23_code 20 = .ok (.aload_n 0, 1) := by decide +kernel
theorem d_Mo_zoneBehind_21 : decode prog_10_method_23_code 21 = .ok (.iload_n 1, 1) := by decide +kernel
theorem d_Mo_zoneBehind_22 : decode prog_10_method_23_code 22 = .ok (.iload 5, 2) := by decide +kernel
theorem d_Mo_zoneBehind_24 : decode prog_10_method_23_code 24 = .ok (.iconst 0, 1) := by decide +kernel
theorem d_Mo_zoneBehind_25 : decode prog_10_method_23_code 25 = .ok (.invokevirtual 63, 3) := by decide +kernel
theorem d_Mo_zoneBehind_28 : decode prog_10_method_23_code 28 = .ok (.aload_n 0, 1) := by decide +kernel
theorem d_Mo_zoneBehind_29 : decode prog_10_method_23_code 29 = .ok (.iload_n 1, 1) := by decide +kernel
theorem d_Mo_zoneBehind_30 : decode prog_10_method_23_code 30 = .ok (.iload 5, 2) := by decide +kernel
theorem d_Mo_zoneBehind_32 : decode prog_10_method_23_code 32 = .ok (.iconst 2, 1) := by decide +kernel
theorem d_Mo_zoneBehind_33 : decode prog_10_method_23_code 33 = .ok (.invokevirtual 63, 3) := by decide +kernel
theorem d_Mo_zoneBehind_36 : decode prog_10_method_23_code 36 = .ok (.iadd, 1) := by decide +kernel
theorem d_Mo_zoneBehind_37 : decode prog_10_method_23_code 37 = .ok (.if_icmp .lt 18, 3) := by decide +kernel
theorem d_Mo_zoneBehind_40 : decode prog_10_method_23_code 40 = .ok (.iinc 4 1, 3) := by decide +kernel
theorem d_Mo_zoneBehind_43 : decode prog_10_method_23_code 43 = .ok (.aload_n 0, 1) := by decide +kernel
theorem d_Mo_zoneBehind_44 : decode prog_10_method_23_code 44 = .ok (.iload_n 1, 1) := by decide +kernel
theorem d_Mo_zoneBehind_45 : decode prog_10_method_23_code 45 = .ok (.iload 4, 2) := by decide +kernel
theorem d_Mo_zoneBehind_47 : decode prog_10_method_23_code 47 = .ok (.invokevirtual 71, 3) := by decide +kernel
theorem d_Mo_zoneBehind_50 : decode prog_10_method_23_code 50 = .ok (.istore 5, 2) := by decide +kernel
theorem d_Mo_zoneBehind_52 : decode prog_10_method_23_code 52 = .ok (.goto (-40), 3) := by decide +kernel
theorem d_Mo_zoneBehind_55 : decode prog_10_method_23_code 55 = .ok (.iload 4, 2) := by decide +kernel
theorem d_Mo_zoneBehind_57 : decode prog_10_method_23_code 57 = .ok (.ifCond .ne 8, 3) := by decide +kernel
theorem d_Mo_zoneBehind_60 : decode prog_10_method_23_code 60 = .ok (.ldc 67, 2) := by decide +kernel
theorem d_Mo_zoneBehind_62 : decode prog_10_method_23_code 62 = .ok (.goto 12, 3) := by decide +kernel
theorem d_Mo_zoneBehind_65 : decode prog_10_method_23_code 65 = .ok (.aload_n 0, 1) := by decide +kernel
theorem d_Mo_zoneBehind_66 : decode prog_10_method_23_code 66 = .ok (.iload_n 1, 1) := by decide +kernel
theorem d_Mo_zoneBehind_67 : decode prog_10_method_23_code 67 = .ok (.iload 4, 2) := by decide +kernel
theorem d_Mo_zoneBehind_69 : decode prog_10_method_23_code 69 = .ok (.iconst 1, 1) := by decide +kernel
theorem d_Mo_zoneBehind_70 : decode prog_10_method_23_code 70 = .ok (.isub, 1) := by decide +kernel
theorem d_Mo_zoneBehind_71 : decode prog_10_method_23_code 71 = .ok (.invokevirtual 71, 3) := by decide +kernel
theorem d_Mo_zoneBehind_74 : decode prog_10_method_23_code 74 = .ok (.istore 5, 2) := by decide +kernel
theorem d_Mo_zoneBehind_76 : decode prog_10_method_23_code 76 = .ok (.iload 5, 2) := by decide +kernel
theorem d_Mo_zoneBehind_78 : decode prog_10_method_23_code 78 = .ok (.ldc 67, 2) := by decide +kernel
theorem d_Mo_zoneBehind_80 : decode prog_10_method_23_code 80 = .ok (.if_icmp .eq 51, 3) := by decide +kernel
theorem d_Mo_zoneBehind_83 : decode prog_10_method_23_code 83 = .ok (.iload_n 3, 1) := by decide +kernel
theorem d_Mo_zoneBehind_84 : decode prog_10_method_23_code 84 = .ok (.aload_n 0, 1) := by decide +kernel
theorem d_Mo_zoneBehind_85 : decode prog_10_method_23_code 85 = .ok (.iload_n 1, 1) := by decide +kernel
theorem d_Mo_zoneBehind_86 : decode prog_10_method_23_code 86 = .ok (.iload 5, 2) := by decide +kernel
theorem d_Mo_zoneBehind_88 : decode prog_10_method_23_code 88 = .ok (.iconst 0, 1) := by decide +kernel
theorem d_Mo_zoneBehind_89 : decode prog_10_method_23_code 89 = .ok (.invokevirtual 63, 3) := by decide +kernel
theorem d_Mo_zoneBehind_92 : decode prog_10_method_23_code 92 = .ok (.aload_n 0, 1) := by decide +kernel
theorem d_Mo_zoneBehind_93 : decode prog_10_method_23_code 93 = .ok (.iload_n 1, 1) := by decide +kernel
theorem d_Mo_zoneBehind_94 : decode prog_10_method_23_code 94 = .ok (.iload 5, 2) := by decide +kernel
theorem d_Mo_zoneBehind_96 : decode prog_10_method_23_code 96 = .ok (.iconst 2, 1) := by decide +kernel
theorem d_Mo_zoneBehind_97 : decode prog_10_method_23_code 97 = .ok (.invokevirtual 63, 3) := by decide +kernel
theorem d_Mo_zoneBehind_100 : decode prog_10_method_23_code 100 = .ok (.isub, 1) := by decide +kernel
theorem d_Mo_zoneBehind_101 : decode prog_10_method_23_code 101 = .ok (.if_icmp .ge 30, 3) := by decide +kernel
theorem d_Mo_zoneBehind_104 : decode prog_10_method_23_code 104 = .ok (.iinc 4 (-1), 3) := by decide +kernel
theorem d_Mo_zoneBehind_107 : decode prog_10_method_23_code 107 = .ok (.iload 4, 2) := by decide +kernel
theorem d_Mo_zoneBehind_109 : decode prog_10_method_23_code 109 = .ok (.ifCond .ne 8, 3) := by decide +kernel
theorem d_Mo_zoneBehind_112 : decode prog_10_method_23_code 112 = .ok (.ldc 67, 2) := by decide +kernel
theorem d_Mo_zoneBehind_114 : decode prog_10_method_23_code 114 = .ok (.goto 12, 3) := by decide +kernel
theorem d_Mo_zoneBehind_117 : decode prog_10_method_23_code 117 = .ok (.aload_n 0, 1) := by decide +kernel
theorem d_Mo_zoneBehind_118 : decode prog_10_method_23_code 118 = .ok (.iload_n 1, 1) := by decide +kernel
theorem d_Mo_zoneBehind_119 : decode prog_10_method_23_code 119 = .ok (.iload 4, 2) := by decide +kernel
theorem d_Mo_zoneBehind_121 : decode prog_10_method_23_code 121 = .ok (.iconst 1, 1) := by decide +kernel
theorem d_Mo_zoneBehind_122 : decode prog_10_method_23_code 122 = .ok (.isub, 1) := by decide +kernel
theorem d_Mo_zoneBehind_123 : decode prog_10_method_23_code 123 = .ok (.invokevirtual 71, 3) := by decide +kernel
theorem d_Mo_zoneBehind_126 : decode prog_10_method_23_code 126 = .ok (.istore 5, 2) := by decide +kernel
theorem d_Mo_zoneBehind_128 : decode prog_10_method_23_code 128 = .ok (.goto (-52), 3) := by decide +kernel
theorem d_Mo_zoneBehind_131 : decode prog_10_method_23_code 131 = .ok (.iload 4, 2) := by decide +kernel
theorem d_Mo_zoneBehind_133 : decode prog_10_method_23_code 133 = .ok (.ireturn, 1) := by decide +kernel
theorem d_Mo_jump_0 : decode prog_10_method_52_code 0 = .ok (.aload_n 0, 1) := by decide +kernel
theorem d_Mo_jump_1 : decode prog_10_method_52_code 1 = .ok (.invokevirtual 154, 3) := by decide +kernel
theorem d_Mo_jump_4 : decode prog_10_method_52_code 4 = .ok (.iconst 0, 1) := by decide +kernel
theorem d_Mo_jump_5 : decode prog_10_method_52_code 5 = .ok (.istore_n 1, 1) := by decide +kernel
theorem d_Mo_jump_6 : decode prog_10_method_52_code 6 = .ok (.iconst 0, 1) := by decide +kernel
theorem d_Mo_jump_7 : decode prog_10_method_52_code 7 = .ok (.istore_n 2, 1) := by decide +kernel
theorem d_Mo_jump_8 : decode prog_10_method_52_code 8 = .ok (.iload_n 2, 1) := by decide +kernel
theorem d_Mo_jump_9 : decode prog_10_method_52_code 9 = .ok (.iconst 3, 1) := by decide +kernel
theorem d_Mo_jump_10 : decode prog_10_method_52_code 10 = .ok (.if_icmp .ge 35, 3) := by decide +kernel
theorem d_Mo_jump_13 : decode prog_10_method_52_code 13 = .ok (.aload_n 0, 1) := by decide +kernel
theorem d_Mo_jump_14 : decode prog_10_method_52_code 14 = .ok (.iload_n 2, 1) := by decide +kernel
theorem d_Mo_jump_15 : decode prog_10_method_52_code 15 = .ok (.invokevirtual 157, 3) := by decide +kernel
theorem d_Mo_jump_18 : decode prog_10_method_52_code 18 = .ok (.aload_n 0, 1) := by decide +kernel
theorem d_Mo_jump_19 : decode prog_10_method_52_code 19 = .ok (.getfield 34, 3) := by decide +kernel
theorem d_Mo_jump_22 : decode prog_10_method_52_code 22 = .ok (.iload_n 2, 1) := by decide +kernel
theorem d_Mo_jump_23 : decode prog_10_method_52_code 23 = .ok (.iaload, 1) := by decide +kernel
theorem d_Mo_jump_24 : decode prog_10_method_52_code 24 = .ok (.invokestatic 85, 3) := by decide +kernel
theorem d_Mo_jump_27 : decode prog_10_method_52_code 27 = .ok (.istore_n 3, 1) := by decide +kernel
theorem d_Mo_jump_28 : decode prog_10_method_52_code 28 = .ok (.iload_n 3, 1) := by decide +kernel
theorem d_Mo_jump_29 : decode prog_10_method_52_code 29 = .ok (.iload_n 1, 1) := by decide +kernel
theorem d_Mo_jump_30 : decode prog_10_method_52_code 30 = .ok (.if_icmp .le 7, 3) := by decide +kernel
theorem d_Mo_jump_33 : decode prog_10_method_52_code 33 = .ok (.iload_n 3, 1) := by decide +kernel
theorem d_Mo_jump_34 : decode prog_10_method_52_code 34 = .ok (.goto 4, 3) := by decide +kernel
theorem d_Mo_jump_37 : decode prog_10_method_52_code 37 = .ok (.iload_n 1, 1) := by decide +kernel
theorem d_Mo_jump_38 : decode prog_10_method_52_code 38 = .ok (.istore_n 1, 1) := by decide +kernel
theorem d_Mo_jump_39 : decode prog_10_method_52_code 39 = .ok (.iinc 2 1, 3) := by decide +kernel
theorem d_Mo_jump_42 : decode prog_10_method_52_code 42 = .ok (.goto (-34), 3) := by decide +kernel
theorem d_Mo_jump_45 : decode prog_10_method_52_code 45 = .ok (.iload_n 1, 1) := by decide +kernel
theorem d_Mo_jump_46 : decode prog_10_method_52_code 46 = .ok (.ireturn, 1) := by decide +kernel
theorem d_Mo_newEntry_0 : decode prog_10_method_50_code 0 = .ok (.aload_n 0, 1) := by decide +kernel
theorem d_Mo_newEntry_1 : decode prog_10_method_50_code 1 = .ok (.getfield 7, 3) := by decide +kernel
theorem d_Mo_newEntry_4 : decode prog_10_method_50_code 4 = .ok (.sipush 254, 3) := by decide +kernel
theorem d_Mo_newEntry_7 : decode prog_10_method_50_code 7 = .ok (.iaload, 1) := by decide +kernel
theorem d_Mo_newEntry_8 : decode prog_10_method_50_code 8 = .ok (.bipush 20, 2) := by decide +kernel
theorem d_Mo_newEntry_10 : decode prog_10_method_50_code 10 = .ok (.if_icmp .ne 47, 3) := by decide +kernel
theorem d_Mo_newEntry_13 : decode prog_10_method_50_code 13 = .ok (.sipush 255, 3) := by decide +kernel
theorem d_Mo_newEntry_16 : decode prog_10_method_50_code 16 = .ok (.istore_n 1, 1) := by decide +kernel
theorem d_Mo_newEntry_17 : decode prog_10_method_50_code 17 = .ok (.iload_n 1, 1) := by decide +kernel
theorem d_Mo_newEntry_18 : decode prog_10_method_50_code 18 = .ok (.sipush 407, 3) := by decide +kernel
theorem d_Mo_newEntry_21 : decode prog_10_method_50_code 21 = .ok (.if_icmp .ge 24, 3) := by decide +kernel
theorem d_Mo_newEntry_24 : decode prog_10_method_50_code 24 = .ok (.aload_n 0, 1) := by decide +kernel
theorem d_Mo_newEntry_25 : decode prog_10_method_50_code 25 = .ok (.getfield 7, 3) := by decide +kernel
theorem d_Mo_newEntry_28 : decode prog_10_method_50_code 28 = .ok (.iload_n 1, 1) := by decide +kernel
theorem d_Mo_newEntry_29 : decode prog_10_method_50_code 29 = .ok (.aload_n 0, 1) := by decide +kernel
theorem d_Mo_newEntry_30 : decode prog_10_method_50_code 30 = .ok (.getfield 7, 3) := by decide +kernel
theorem d_Mo_newEntry_33 : decode prog_10_method_50_code 33 = .ok (.iload_n 1, 1) := by decide +kernel
theorem d_Mo_newEntry_34 : decode prog_10_method_50_code 34 = .ok (.bipush 8, 2) := by decide +kernel
theorem d_Mo_newEntry_36 : decode prog_10_method_50_code 36 = .ok (.iadd, 1) := by decide +kernel
theorem d_Mo_newEntry_37 : decode prog_10_method_50_code 37 = .ok (.iaload, 1) := by decide +kernel
theorem d_Mo_newEntry_38 : decode prog_10_method_50_code 38 = .ok (.iastore, 1) := by decide +kernel
theorem d_Mo_newEntry_39 : decode prog_10_method_50_code 39 = .ok (.iinc 1 1, 3) := by decide +kernel
theorem d_Mo_newEntry_42 : decode prog_10_method_50_code 42 = .ok (.goto (-25), 3) := by decide +kernel
theorem d_Mo_newEntry_45 : decode prog_10_method_50_code 45 = .ok (.aload_n 0, 1) := by decide +kernel
theorem d_Mo_newEntry_46 : decode prog_10_method_50_code 46 = .ok (.getfield 7, 3) := by decide +kernel
theorem d_Mo_newEntry_49 : decode prog_10_method_50_code 49 = .ok (.sipush 254, 3) := by decide +kernel
theorem d_Mo_newEntry_52 : decode prog_10_method_50_code 52 = .ok (.dup2, 1) := by decide +kernel
theorem d_Mo_newEntry_53 : decode prog_10_method_50_code 53 = .ok (.iaload, 1) := by decide +kernel
theorem d_Mo_newEntry_54 : decode prog_10_method_50_code 54 = .ok (.iconst 1, 1) := by decide +kernel
theorem d_Mo_newEntry_55 : decode prog_10_method_50_code 55 = .ok (.isub, 1) := by decide +kernel
theorem d_Mo_newEntry_56 : decode prog_10_method_50_code 56 = .ok (.iastore, 1) := by decide +kernel
theorem d_Mo_newEntry_57 : decode prog_10_method_50_code 57 = .ok (.aload_n 0, 1) := by decide +kernel
theorem d_Mo_newEntry_58 : decode prog_10_method_50_code 58 = .ok (.getfield 7, 3) := by decide +kernel
theorem d_Mo_newEntry_61 : decode prog_10_method_50_code 61 = .ok (.sipush 254, 3) := by decide +kernel
theorem d_Mo_newEntry_64 : decode prog_10_method_50_code 64 = .ok (.dup2, 1) := by decide +kernel
theorem d_Mo_newEntry_65 : decode prog_10_method_50_code 65 = .ok (.iaload, 1) := by decide +kernel
theorem d_Mo_newEntry_66 : decode prog_10_method_50_code 66 = .ok (.iconst 1, 1) := by decide +kernel
theorem d_Mo_newEntry_67 : decode prog_10_method_50_code 67 = .ok (.iadd, 1) := by decide +kernel
theorem d_Mo_newEntry_68 : decode prog_10_method_50_code 68 = .ok (.iastore, 1) := by decide +kernel
theorem d_Mo_newEntry_69 : decode prog_10_method_50_code 69 = .ok (.sipush 255, 3) := by decide +kernel
theorem d_Mo_newEntry_72 : decode prog_10_method_50_code 72 = .ok (.bipush 8, 2) := by decide +kernel
theorem d_Mo_newEntry_74 : decode prog_10_method_50_code 74 = .ok (.aload_n 0, 1) := by decide +kernel
theorem d_Mo_newEntry_75 : decode prog_10_method_50_code 75 = .ok (.getfield 7, 3) := by decide +kernel
theorem d_Mo_newEntry_78 : decode prog_10_method_50_code 78 = .ok (.sipush 254, 3) := by decide +kernel
theorem d_Mo_newEntry_81 : decode prog_10_method_50_code 81 = .ok (.iaload, 1) := by decide +kernel
theorem d_Mo_newEntry_82 : decode prog_10_method_50_code 82 = .ok (.iconst 1, 1) := by decide +kernel
theorem d_Mo_newEntry_83 : decode prog_10_method_50_code 83 = .ok (.isub, 1) := by decide +kernel
theorem d_Mo_newEntry_84 : decode prog_10_method_50_code 84 = .ok (.imul, 1) := by decide +kernel
theorem d_Mo_newEntry_85 : decode prog_10_method_50_code 85 = .ok (.iadd, 1) := by decide +kernel
theorem d_Mo_newEntry_86 : decode prog_10_method_50_code 86 = .ok (.ireturn, 1) := by decide +kernel
theorem d_Mo_sweep_0 : decode prog_10_method_57_code 0 = .ok (.aload_n 0, 1) := by decide +kernel
theorem d_Mo_sweep_1 : decode prog_10_method_57_code 1 = .ok (.iconst 0, 1) := by decide +kernel
theorem d_Mo_sweep_2 : decode prog_10_method_57_code 2 = .ok (.putfield 37, 3) := by decide +kernel
theorem d_Mo_sweep_5 : decode prog_10_method_57_code 5 = .ok (.iload_n 1, 1) := by decide +kernel
theorem d_Mo_sweep_6 : decode prog_10_method_57_code 6 = .ok (.invokestatic 51, 3) := by decide +kernel
theorem d_Mo_sweep_9 : decode prog_10_method_57_code 9 = .ok (.ifCond .eq 21, 3) := by decide +kernel
theorem d_Mo_sweep_12 : decode prog_10_method_57_code 12 = .ok (.iload_n 2, 1) := by decide +kernel
theorem d_Mo_sweep_13 : decode prog_10_method_57_code 13 = .ok (.invokestatic 179, 3) := by decide +kernel
theorem d_Mo_sweep_16 : decode prog_10_method_57_code 16 = .ok (.ifCond .eq 14, 3) := by decide +kernel
theorem d_Mo_sweep_19 : decode prog_10_method_57_code 19 = .ok (.iload_n 3, 1) := by decide +kernel
theorem d_Mo_sweep_20 : decode prog_10_method_57_code 20 = .ok (.iconst 1, 1) := by decide +kernel
theorem d_Mo_sweep_21 : decode prog_10_method_57_code 21 = .ok (.sipush 1000, 3) := by decide +kernel
theorem d_Mo_sweep_24 : decode prog_10_method_57_code 24 = .ok (.invokestatic 47, 3) := by decide +kernel
theorem d_Mo_sweep_27 : decode prog_10_method_57_code 27 = .ok (.ifCond .ne 6, 3) := by decide +kernel
theorem d_Mo_sweep_30 : decode prog_10_method_57_code 30 = .ok (.ldc 112, 2) := by decide +kernel
theorem d_Mo_sweep_32 : decode prog_10_method_57_code 32 = .ok (.ireturn, 1) := by decide +kernel
theorem d_Mo_sweep_33 : decode prog_10_method_57_code 33 = .ok (.aload_n 0, 1) := by decide +kernel
theorem d_Mo_sweep_34 : decode prog_10_method_57_code 34 = .ok (.getfield 7, 3) := by decide +kernel
theorem d_Mo_sweep_37 : decode prog_10_method_57_code 37 = .ok (.sipush 234, 3) := by decide +kernel
theorem d_Mo_sweep_40 : decode prog_10_method_57_code 40 = .ok (.iload_n 1, 1) := by decide +kernel
theorem d_Mo_sweep_41 : decode prog_10_method_57_code 41 = .ok (.iadd, 1) := by decide +kernel
theorem d_Mo_sweep_42 : decode prog_10_method_57_code 42 = .ok (.iaload, 1) := by decide +kernel
theorem d_Mo_sweep_43 : decode prog_10_method_57_code 43 = .ok (.iload_n 2, 1) := by decide +kernel
theorem d_Mo_sweep_44 : decode prog_10_method_57_code 44 = .ok (.if_icmp .ne 6, 3) := by decide +kernel
theorem d_Mo_sweep_47 : decode prog_10_method_57_code 47 = .ok (.ldc 117, 2) := by decide +kernel
theorem d_Mo_sweep_49 : decode prog_10_method_57_code 49 = .ok (.ireturn, 1) := by decide +kernel
theorem d_Mo_sweep_50 : decode prog_10_method_57_code 50 = .ok (.aload_n 0, 1) := by decide +kernel
theorem d_Mo_sweep_51 : decode prog_10_method_57_code 51 = .ok (.invokevirtual 119, 3) := by decide +kernel
theorem d_Mo_sweep_54 : decode prog_10_method_57_code 54 = .ok (.iconst 0, 1) := by decide +kernel
theorem d_Mo_sweep_55 : decode prog_10_method_57_code 55 = .ok (.istore 4, 2) := by decide +kernel
theorem d_Mo_sweep_57 : decode prog_10_method_57_code 57 = .ok (.aload_n 0, 1) := by decide +kernel
theorem d_Mo_sweep_58 : decode prog_10_method_57_code 58 = .ok (.getfield 7, 3) := by decide +kernel
theorem d_Mo_sweep_61 : decode prog_10_method_57_code 61 = .ok (.sipush 234, 3) := by decide +kernel
theorem d_Mo_sweep_64 : decode prog_10_method_57_code 64 = .ok (.iload_n 1, 1) := by decide +kernel
theorem d_Mo_sweep_65 : decode prog_10_method_57_code 65 = .ok (.iadd, 1) := by decide +kernel
theorem d_Mo_sweep_66 : decode prog_10_method_57_code 66 = .ok (.iaload, 1) := by decide +kernel
theorem d_Mo_sweep_67 : decode prog_10_method_57_code 67 = .ok (.istore 5, 2) := by decide +kernel
theorem d_Mo_sweep_69 : decode prog_10_method_57_code 69 = .ok (.iload 5, 2) := by decide +kernel
theorem d_Mo_sweep_71 : decode prog_10_method_57_code 71 = .ok (.iload_n 2, 1) := by decide +kernel
theorem d_Mo_sweep_72 : decode prog_10_method_57_code 72 = .ok (.if_icmp .eq 128, 3) := by decide +kernel
theorem d_Mo_sweep_75 : decode prog_10_method_57_code 75 = .ok (.iload 5, 2) := by decide +kernel
theorem d_Mo_sweep_77 : decode prog_10_method_57_code 77 = .ok (.iload_n 2, 1) := by decide +kernel
theorem d_Mo_sweep_78 : decode prog_10_method_57_code 78 = .ok (.invokestatic 85, 3) := by decide +kernel
theorem d_Mo_sweep_81 : decode prog_10_method_57_code 81 = .ok (.iload_n 3, 1) := by decide +kernel
theorem d_Mo_sweep_82 : decode prog_10_method_57_code 82 = .ok (.if_icmp .ge 12, 3) := by decide +kernel
theorem d_Mo_sweep_85 : decode prog_10_method_57_code 85 = .ok (.iload 5, 2) := by decide +kernel
theorem d_Mo_sweep_87 : decode prog_10_method_57_code 87 = .ok (.iload_n 2, 1) := by decide +kernel
theorem d_Mo_sweep_88 : decode prog_10_method_57_code 88 = .ok (.invokestatic 85, 3) := by decide +kernel
theorem d_Mo_sweep_91 : decode prog_10_method_57_code 91 = .ok (.goto 4, 3) := by decide +kernel
theorem d_Mo_sweep_94 : decode prog_10_method_57_code 94 = .ok (.iload_n 3, 1) := by decide +kernel
theorem d_Mo_sweep_95 : decode prog_10_method_57_code 95 = .ok (.istore 6, 2) := by decide +kernel
theorem d_Mo_sweep_97 : decode prog_10_method_57_code 97 = .ok (.iload 5, 2) := by decide +kernel
theorem d_Mo_sweep_99 : decode prog_10_method_57_code 99 = .ok (.iload 5, 2) := by decide +kernel
theorem d_Mo_sweep_101 : decode prog_10_method_57_code 101 = .ok (.iload_n 2, 1) := by decide +kernel
theorem d_Mo_sweep_102 : decode prog_10_method_57_code 102 = .ok (.if_icmp .ge 8, 3) := by decide +kernel
theorem d_Mo_sweep_105 : decode prog_10_method_57_code 105 = .ok (.iload 6, 2) := by decide +kernel
theorem d_Mo_sweep_107 : decode prog_10_method_57_code 107 = .ok (.goto 6, 3) := by decide +kernel
theorem d_Mo_sweep_110 : decode prog_10_method_57_code 110 = .ok (.iload 6, 2) := by decide +kernel
theorem d_Mo_sweep_112 : decode prog_10_method_57_code 112 = .ok (.ineg, 1) := by decide +kernel
theorem d_Mo_sweep_113 : decode prog_10_method_57_code 113 = .ok (.iadd, 1) := by decide +kernel
theorem d_Mo_sweep_114 : decode prog_10_method_57_code 114 = .ok (.istore 5, 2) := by decide +kernel
theorem d_Mo_sweep_116 : decode prog_10_method_57_code 116 = .ok (.aload_n 0, 1) := by decide +kernel
theorem d_Mo_sweep_117 : decode prog_10_method_57_code 117 = .ok (.getfield 7, 3) := by decide +kernel
theorem d_Mo_sweep_120 : decode prog_10_method_57_code 120 = .ok (.sipush 236, 3) := by decide +kernel
theorem d_Mo_sweep_123 : decode prog_10_method_57_code 123 = .ok (.iload_n 1, 1) := by decide +kernel
theorem d_Mo_sweep_124 : decode prog_10_method_57_code 124 = .ok (.iadd, 1) := by decide +kernel
theorem d_Mo_sweep_125 : decode prog_10_method_57_code 125 = .ok (.iaload, 1) := by decide +kernel
theorem d_Mo_sweep_126 : decode prog_10_method_57_code 126 = .ok (.istore 7, 2) := by decide +kernel
theorem d_Mo_sweep_128 : decode prog_10_method_57_code 128 = .ok (.iload_n 1, 1) := by decide +kernel
theorem d_Mo_sweep_129 : decode prog_10_method_57_code 129 = .ok (.ifCond .ne 20, 3) := by decide +kernel
theorem d_Mo_sweep_132 : decode prog_10_method_57_code 132 = .ok (.aload_n 0, 1) := by decide +kernel
theorem d_Mo_sweep_133 : decode prog_10_method_57_code 133 = .ok (.iload 5, 2) := by decide +kernel
theorem d_Mo_sweep_135 : decode prog_10_method_57_code 135 = .ok (.aload_n 0, 1) := by decide +kernel
theorem d_Mo_sweep_136 : decode prog_10_method_57_code 136 = .ok (.getfield 7, 3) := by decide +kernel
theorem d_Mo_sweep_139 : decode prog_10_method_57_code 139 = .ok (.sipush 235, 3) := by decide +kernel
theorem d_Mo_sweep_142 : decode prog_10_method_57_code 142 = .ok (.iaload, 1) := by decide +kernel
theorem d_Mo_sweep_143 : decode prog_10_method_57_code 143 = .ok (.invokevirtual 182, 3) := by decide +kernel
theorem d_Mo_sweep_146 : decode prog_10_method_57_code 146 = .ok (.goto 17, 3) := by decide +kernel
theorem d_Mo_sweep_149 : decode prog_10_method_57_code 149 = .ok (.aload_n 0, 1) := by decide +kernel
theorem d_Mo_sweep_150 : decode prog_10_method_57_code 150 = .ok (.aload_n 0, 1) := by decide +kernel
theorem d_Mo_sweep_151 : decode prog_10_method_57_code 151 = .ok (.getfield 7, 3) := by decide +kernel
theorem d_Mo_sweep_154 : decode prog_10_method_57_code 154 = .ok (.sipush 234, 3) := by decide +kernel
theorem d_Mo_sweep_157 : decode prog_10_method_57_code 157 = .ok (.iaload, 1) := by decide +kernel
theorem d_Mo_sweep_158 : decode prog_10_method_57_code 158 = .ok (.iload 5, 2) := by decide +kernel
theorem d_Mo_sweep_160 : decode prog_10_method_57_code 160 = .ok (.invokevirtual 182, 3) := by decide +kernel
theorem d_Mo_sweep_163 : decode prog_10_method_57_code 163 = .ok (.istore 8, 2) := by decide +kernel
theorem d_Mo_sweep_165 : decode prog_10_method_57_code 165 = .ok (.iload 4, 2) := by decide +kernel
theorem d_Mo_sweep_167 : decode prog_10_method_57_code 167 = .ok (.iload 8, 2) := by decide +kernel
theorem d_Mo_sweep_169 : decode prog_10_method_57_code 169 = .ok (.ldc 67, 2) := by decide +kernel
theorem d_Mo_sweep_171 : decode prog_10_method_57_code 171 = .ok (.if_icmp .eq 22, 3) := by decide +kernel
theorem d_Mo_sweep_174 : decode prog_10_method_57_code 174 = .ok (.aload_n 0, 1) := by decide +kernel
theorem d_Mo_sweep_175 : decode prog_10_method_57_code 175 = .ok (.getfield 7, 3) := by decide +kernel
theorem d_Mo_sweep_178 : decode prog_10_method_57_code 178 = .ok (.sipush 236, 3) := by decide +kernel
theorem d_Mo_sweep_181 : decode prog_10_method_57_code 181 = .ok (.iload_n 1, 1) := by decide +kernel
theorem d_Mo_sweep_182 : decode prog_10_method_57_code 182 = .ok (.iadd, 1) := by decide +kernel
theorem d_Mo_sweep_183 : decode prog_10_method_57_code 183 = .ok (.iaload, 1) := by decide +kernel
theorem d_Mo_sweep_184 : decode prog_10_method_57_code 184 = .ok (.iload 7, 2) := by decide +kernel
theorem d_Mo_sweep_186 : decode prog_10_method_57_code 186 = .ok (.if_icmp .eq 7, 3) := by decide +kernel
theorem d_Mo_sweep_189 : decode prog_10_method_57_code 189 = .ok (.iconst 1, 1) := by decide +kernel
theorem d_Mo_sweep_190 : decode prog_10_method_57_code 190 = .ok (.goto 4, 3) := by decide +kernel
theorem d_Mo_sweep_193 : decode prog_10_method_57_code 193 = .ok (.iconst 0, 1) := by decide +kernel
theorem d_Mo_sweep_194 : decode prog_10_method_57_code 194 = .ok (.iadd, 1) := by decide +kernel
theorem d_Mo_sweep_195 : decode prog_10_method_57_code 195 = .ok (.istore 4, 2) := by decide +kernel
theorem d_Mo_sweep_197 : decode prog_10_method_57_code 197 = .ok (.goto (-128), 3) := by decide +kernel
theorem d_Mo_sweep_200 : decode prog_10_method_57_code 200 = .ok (.iload 4, 2) := by decide +kernel
theorem d_Mo_sweep_202 : decode prog_10_method_57_code 202 = .ok (.ireturn, 1) := by decide +kernel
theorem d_Mo_take_0 : decode prog_10_method_59_code 0 = .ok (.aload_n 0, 1) := by decide +kernel
theorem d_Mo_take_1 : decode prog_10_method_59_code 1 = .ok (.iconst 0, 1) := by decide +kernel
theorem d_Mo_take_2 : decode prog_10_method_59_code 2 = .ok (.putfield 37, 3) := by decide +kernel
theorem d_Mo_take_5 : decode prog_10_method_59_code 5 = .ok (.iload_n 1, 1) := by decide +kernel
theorem d_Mo_take_6 : decode prog_10_method_59_code 6 = .ok (.invokestatic 185, 3) := by decide +kernel
theorem d_Mo_take_9 : decode prog_10_method_59_code 9 = .ok (.ifCond .ne 6, 3) := by decide +kernel
theorem d_Mo_take_12 : decode prog_10_method_59_code 12 = .ok (.ldc 112, 2) := by decide +kernel
theorem d_Mo_take_14 : decode prog_10_method_59_code 14 = .ok (.ireturn, 1) := by decide +kernel
theorem d_Mo_take_15 : decode prog_10_method_59_code 15 = .ok (.aload_n 0, 1) := by decide +kernel
theorem d_Mo_take_16 : decode prog_10_method_59_code 16 = .ok (.invokevirtual 119, 3) := by decide +kernel
theorem d_Mo_take_19 : decode prog_10_method_59_code 19 = .ok (.sipush 415, 3) := by decide +kernel
theorem d_Mo_take_22 : decode prog_10_method_59_code 22 = .ok (.sipush 235, 3) := by decide +kernel
theorem d_Mo_take_25 : decode prog_10_method_59_code 25 = .ok (.iload_n 1, 1) := by decide +kernel
theorem d_Mo_take_26 : decode prog_10_method_59_code 26 = .ok (.imul, 1) := by decide +kernel
theorem d_Mo_take_27 : decode prog_10_method_59_code 27 = .ok (.iadd, 1) := by decide +kernel
theorem d_Mo_take_28 : decode prog_10_method_59_code 28 = .ok (.istore_n 2, 1) := by decide +kernel
theorem d_Mo_take_29 : decode prog_10_method_59_code 29 = .ok (.aload_n 0, 1) := by decide +kernel
theorem d_Mo_take_30 : decode prog_10_method_59_code 30 = .ok (.getfield 7, 3) := by decide +kernel
theorem d_Mo_take_33 : decode prog_10_method_59_code 33 = .ok (.iload_n 2, 1) := by decide +kernel
theorem d_Mo_take_34 : decode prog_10_method_59_code 34 = .ok (.iconst 1, 1) := by decide +kernel
theorem d_Mo_take_35 : decode prog_10_method_59_code 35 = .ok (.iastore, 1) := by decide +kernel
theorem d_Mo_take_36 : decode prog_10_method_59_code 36 = .ok (.iconst 0, 1) := by decide +kernel
theorem d_Mo_take_37 : decode prog_10_method_59_code 37 = .ok (.istore_n 3, 1) := by decide +kernel
theorem d_Mo_take_38 : decode prog_10_method_59_code 38 = .ok (.iload_n 3, 1) := by decide +kernel
theorem d_Mo_take_39 : decode prog_10_method_59_code 39 = .ok (.sipush 234, 3) := by decide +kernel
theorem d_Mo_take_42 : decode prog_10_method_59_code 42 = .ok (.if_icmp .ge 25, 3) := by decide +kernel
theorem d_Mo_take_45 : decode prog_10_method_59_code 45 = .ok (.aload_n 0, 1) := by decide +kernel
theorem d_Mo_take_46 : decode prog_10_method_59_code 46 = .ok (.getfield 7, 3) := by decide +kernel
theorem d_Mo_take_49 : decode prog_10_method_59_code 49 = .ok (.iload_n 2, 1) := by decide +kernel
theorem d_Mo_take_50 : decode prog_10_method_59_code 50 = .ok (.iconst 1, 1) := by decide +kernel
theorem d_Mo_take_51 : decode prog_10_method_59_code 51 = .ok (.iadd, 1) := by decide +kernel
theorem d_Mo_take_52 : decode prog_10_method_59_code 52 = .ok (.iload_n 3, 1) := by decide +kernel
theorem d_Mo_take_53 : decode prog_10_method_59_code 53 = .ok (.iadd, 1) := by decide +kernel
theorem d_Mo_take_54 : decode prog_10_method_59_code 54 = .ok (.aload_n 0, 1) := by decide +kernel
theorem d_Mo_take_55 : decode prog_10_method_59_code 55 = .ok (.getfield 7, 3) := by decide +kernel
theorem d_Mo_take_58 : decode prog_10_method_59_code 58 = .ok (.iload_n 3, 1) := by decide +kernel
theorem d_Mo_take_59 : decode prog_10_method_59_code 59 = .ok (.iaload, 1) := by decide +kernel
theorem d_Mo_take_60 : decode prog_10_method_59_code 60 = .ok (.iastore, 1) := by decide +kernel
theorem d_Mo_take_61 : decode prog_10_method_59_code 61 = .ok (.iinc 3 1, 3) := by decide +kernel
theorem d_Mo_take_64 : decode prog_10_method_59_code 64 = .ok (.goto (-26), 3) := by decide +kernel
theorem d_Mo_take_67 : decode prog_10_method_59_code 67 = .ok (.aload_n 0, 1) := by decide +kernel
theorem d_Mo_take_68 : decode prog_10_method_59_code 68 = .ok (.invokevirtual 188, 3) := by decide +kernel
theorem d_Mo_take_71 : decode prog_10_method_59_code 71 = .ok (.ireturn, 1) := by decide +kernel
theorem d_Mo_isPlace_0 : decode prog_10_method_58_code 0 = .ok (.iload_n 0, 1) := by decide +kernel
theorem d_Mo_isPlace_1 : decode prog_10_method_58_code 1 = .ok (.iconst 0, 1) := by decide +kernel
theorem d_Mo_isPlace_2 : decode prog_10_method_58_code 2 = .ok (.iconst 2, 1) := by decide +kernel
theorem d_Mo_isPlace_3 : decode prog_10_method_58_code 3 = .ok (.invokestatic 47, 3) := by decide +kernel
theorem d_Mo_isPlace_6 : decode prog_10_method_58_code 6 = .ok (.ireturn, 1) := by decide +kernel
theorem d_Mo_regions_0 : decode prog_10_method_17_code 0 = .ok (.aload_n 0, 1) := by decide +kernel
theorem d_Mo_regions_1 : decode prog_10_method_17_code 1 = .ok (.iconst 0, 1) := by decide +kernel
theorem d_Mo_regions_2 : decode prog_10_method_17_code 2 = .ok (.invokevirtual 55, 3) := by decide +kernel
theorem d_Mo_regions_5 : decode prog_10_method_17_code 5 = .ok (.iconst 1, 1) := by decide +kernel
theorem d_Mo_regions_6 : decode prog_10_method_17_code 6 = .ok (.iadd, 1) := by decide +kernel
theorem d_Mo_regions_7 : decode prog_10_method_17_code 7 = .ok (.aload_n 0, 1) := by decide +kernel
theorem d_Mo_regions_8 : decode prog_10_method_17_code 8 = .ok (.iconst 1, 1) := by decide +kernel
theorem d_Mo_regions_9 : decode prog_10_method_17_code 9 = .ok (.invokevirtual 55, 3) := by decide +kernel
theorem d_Mo_regions_12 : decode prog_10_method_17_code 12 = .ok (.iconst 1, 1) := by decide +kernel
theorem d_Mo_regions_13 : decode prog_10_method_17_code 13 = .ok (.iadd, 1) := by decide +kernel
theorem d_Mo_regions_14 : decode prog_10_method_17_code 14 = .ok (.imul, 1) := by decide +kernel
theorem d_Mo_regions_15 : decode prog_10_method_17_code 15 = .ok (.ireturn, 1) := by decide +kernel
theorem d_Mo_restore_0 : decode prog_10_method_60_code 0 = .ok (.aload_n 0, 1) := by decide +kernel
theorem d_Mo_restore_1 : decode prog_10_method_60_code 1 = .ok (.iconst 0, 1) := by decide +kernel
theorem d_Mo_restore_2 : decode prog_10_method_60_code 2 = .ok (.putfield 37, 3) := by decide +kernel
theorem d_Mo_restore_5 : decode prog_10_method_60_code 5 = .ok (.iload_n 1, 1) := by decide +kernel
theorem d_Mo_restore_6 : decode prog_10_method_60_code 6 = .ok (.invokestatic 185, 3) := by decide +kernel
theorem d_Mo_restore_9 : decode prog_10_method_60_code 9 = .ok (.ifCond .ne 6, 3) := by decide +kernel
theorem d_Mo_restore_12 : decode prog_10_method_60_code 12 = .ok (.ldc 112, 2) := by decide +kernel
theorem d_Mo_restore_14 : decode prog_10_method_60_code 14 = .ok (.ireturn, 1) := by decide +kernel
theorem d_Mo_restore_15 : decode prog_10_method_60_code 15 = .ok (.sipush 415, 3) := by decide +kernel
theorem d_Mo_restore_18 : decode prog_10_method_60_code 18 = .ok (.sipush 235, 3) := by decide +kernel
theorem d_Mo_restore_21 : decode prog_10_method_60_code 21 = .ok (.iload_n 1, 1) := by decide +kernel
theorem d_Mo_restore_22 : decode prog_10_method_60_code 22 = .ok (.imul, 1) := by decide +kernel
theorem d_Mo_restore_23 : decode prog_10_method_60_code 23 = .ok (.iadd, 1) := by decide +kernel
theorem d_Mo_restore_24 : decode prog_10_method_60_code 24 = .ok (.istore_n 2, 1) := by decide +kernel
theorem d_Mo_restore_25 : decode prog_10_method_60_code 25 = .ok (.aload_n 0, 1) := by decide +kernel
theorem d_Mo_restore_26 : decode prog_10_method_60_code 26 = .ok (.getfield 7, 3) := by decide +kernel
theorem d_Mo_restore_29 : decode prog_10_method_60_code 29 = .ok (.iload_n 2, 1) := by decide +kernel
theorem d_Mo_restore_30 : decode prog_10_method_60_code 30 = .ok (.iaload, 1) := by decide +kernel
theorem d_Mo_restore_31 : decode prog_10_method_60_code 31 = .ok (.ifCond .ne 6, 3) := by decide +kernel
theorem d_Mo_restore_34 : decode prog_10_method_60_code 34 = .ok (.ldc 117, 2) := by decide +kernel
theorem d_Mo_restore_36 : decode prog_10_method_60_code 36 = .ok (.ireturn, 1) := by decide +kernel
theorem d_Mo_restore_37 : decode prog_10_method_60_code 37 = .ok (.aload_n 0, 1) := by decide +kernel
theorem d_Mo_restore_38 : decode prog_10_method_60_code 38 = .ok (.invokevirtual 119, 3) := by decide +kernel
theorem d_Mo_restore_41 : decode prog_10_method_60_code 41 = .ok (.aload_n 0, 1) := by decide +kernel
theorem d_Mo_restore_42 : decode prog_10_method_60_code 42 = .ok (.invokevirtual 99, 3) := by decide +kernel
theorem d_Mo_restore_45 : decode prog_10_method_60_code 45 = .ok (.istore_n 3, 1) := by decide +kernel
theorem d_Mo_restore_46 : decode prog_10_method_60_code 46 = .ok (.iconst 0, 1) := by decide +kernel
theorem d_Mo_restore_47 : decode prog_10_method_60_code 47 = .ok (.istore 4, 2) := by decide +kernel
theorem d_Mo_restore_49 : decode prog_10_method_60_code 49 = .ok (.iload 4, 2) := by decide +kernel
theorem d_Mo_restore_51 : decode prog_10_method_60_code 51 = .ok (.sipush 234, 3) := by decide +kernel
theorem d_Mo_restore_54 : decode prog_10_method_60_code 54 = .ok (.if_icmp .ge 27, 3) := by decide +kernel
theorem d_Mo_restore_57 : decode prog_10_method_60_code 57 = .ok (.aload_n 0, 1) := by decide +kernel
theorem d_Mo_restore_58 : decode prog_10_method_60_code 58 = .ok (.getfield 7, 3) := by decide +kernel
theorem d_Mo_restore_61 : decode prog_10_method_60_code 61 = .ok (.iload 4, 2) := by decide +kernel
theorem d_Mo_restore_63 : decode prog_10_method_60_code 63 = .ok (.aload_n 0, 1) := by decide +kernel
theorem d_Mo_restore_64 : decode prog_10_method_60_code 64 = .ok (.getfield 7, 3) := by decide +kernel
theorem d_Mo_restore_67 : decode prog_10_method_60_code 67 = .ok (.iload_n 2, 1) := by decide +kernel
theorem d_Mo_restore_68 : decode prog_10_method_60_code 68 = .ok (.iconst 1, 1) := by decide +kernel
theorem d_Mo_restore_69 : decode prog_10_method_60_code 69 = .ok (.iadd, 1) := by decide +kernel
theorem d_Mo_restore_70 : decode prog_10_method_60_code 70 = .ok (.iload 4, 2) := by decide +kernel
theorem d_Mo_restore_72 : decode prog_10_method_60_code 72 = .ok (.iadd, 1) := by decide +kernel
theorem d_Mo_restore_73 : decode prog_10_method_60_code 73 = .ok (.iaload, 1) := by decide +kernel
theorem d_Mo_restore_74 : decode prog_10_method_60_code 74 = .ok (.iastore, 1) := by decide +kernel
theorem d_Mo_restore_75 : decode prog_10_method_60_code 75 = .ok (.iinc 4 1, 3) := by decide +kernel
theorem d_Mo_restore_78 : decode prog_10_method_60_code 78 = .ok (.goto (-29), 3) := by decide +kernel
theorem d_Mo_restore_81 : decode prog_10_method_60_code 81 = .ok (.aload_n 0, 1) := by decide +kernel
theorem d_Mo_restore_82 : decode prog_10_method_60_code 82 = .ok (.iload_n 3, 1) := by decide +kernel
theorem d_Mo_restore_83 : decode prog_10_method_60_code 83 = .ok (.invokevirtual 126, 3) := by decide +kernel
theorem d_Mo_restore_86 : decode prog_10_method_60_code 86 = .ok (.aload_n 0, 1) := by decide +kernel
theorem d_Mo_restore_87 : decode prog_10_method_60_code 87 = .ok (.invokevirtual 188, 3) := by decide +kernel
theorem d_Mo_restore_90 : decode prog_10_method_60_code 90 = .ok (.ireturn, 1) := by decide +kernel
theorem d_Mo_undo_0 : decode prog_10_method_61_code 0 = .ok (.aload_n 0, 1) := by decide +kernel
theorem d_Mo_undo_1 : decode prog_10_method_61_code 1 = .ok (.iconst 0, 1) := by decide +kernel
theorem d_Mo_undo_2 : decode prog_10_method_61_code 2 = .ok (.putfield 37, 3) := by decide +kernel
theorem d_Mo_undo_5 : decode prog_10_method_61_code 5 = .ok (.aload_n 0, 1) := by decide +kernel
theorem d_Mo_undo_6 : decode prog_10_method_61_code 6 = .ok (.getfield 44, 3) := by decide +kernel
theorem d_Mo_undo_9 : decode prog_10_method_61_code 9 = .ok (.ifCond .ne 6, 3) := by decide +kernel
theorem d_Mo_undo_12 : decode prog_10_method_61_code 12 = .ok (.ldc 117, 2) := by decide +kernel
theorem d_Mo_undo_14 : decode prog_10_method_61_code 14 = .ok (.ireturn, 1) := by decide +kernel
theorem d_Mo_undo_15 : decode prog_10_method_61_code 15 = .ok (.aload_n 0, 1) := by decide +kernel
theorem d_Mo_undo_16 : decode prog_10_method_61_code 16 = .ok (.dup, 1) := by decide +kernel
theorem d_Mo_undo_17 : decode prog_10_method_61_code 17 = .ok (.getfield 44, 3) := by decide +kernel
theorem d_Mo_undo_20 : decode prog_10_method_61_code 20 = .ok (.iconst 1, 1) := by decide +kernel
theorem d_Mo_undo_21 : decode prog_10_method_61_code 21 = .ok (.isub, 1) := by decide +kernel
theorem d_Mo_undo_22 : decode prog_10_method_61_code 22 = .ok (.putfield 44, 3) := by decide +kernel
theorem d_Mo_undo_25 : decode prog_10_method_61_code 25 = .ok (.iconst 0, 1) := by decide +kernel
theorem d_Mo_undo_26 : decode prog_10_method_61_code 26 = .ok (.istore_n 1, 1) := by decide +kernel
theorem d_Mo_undo_27 : decode prog_10_method_61_code 27 = .ok (.iload_n 1, 1) := by decide +kernel
theorem d_Mo_undo_28 : decode prog_10_method_61_code 28 = .ok (.sipush 1120, 3) := by decide +kernel
theorem d_Mo_undo_31 : decode prog_10_method_61_code 31 = .ok (.if_icmp .ge 30, 3) := by decide +kernel
theorem d_Mo_undo_34 : decode prog_10_method_61_code 34 = .ok (.aload_n 0, 1) := by decide +kernel
theorem d_Mo_undo_35 : decode prog_10_method_61_code 35 = .ok (.getfield 7, 3) := by decide +kernel
theorem d_Mo_undo_38 : decode prog_10_method_61_code 38 = .ok (.iload_n 1, 1) := by decide +kernel
theorem d_Mo_undo_39 : decode prog_10_method_61_code 39 = .ok (.aload_n 0, 1) := by decide +kernel
theorem d_Mo_undo_40 : decode prog_10_method_61_code 40 = .ok (.getfield 16, 3) := by decide +kernel
theorem d_Mo_undo_43 : decode prog_10_method_61_code 43 = .ok (.sipush 1120, 3) := by decide +kernel
theorem d_Mo_undo_46 : decode prog_10_method_61_code 46 = .ok (.aload_n 0, 1) := by decide +kernel
theorem d_Mo_undo_47 : decode prog_10_method_61_code 47 = .ok (.getfield 44, 3) := by decide +kernel
theorem d_Mo_undo_50 : decode prog_10_method_61_code 50 = .ok (.imul, 1) := by decide +kernel
theorem d_Mo_undo_51 : decode prog_10_method_61_code 51 = .ok (.iload_n 1, 1) := by decide +kernel
theorem d_Mo_undo_52 : decode prog_10_method_61_code 52 = .ok (.iadd, 1) := by decide +kernel
theorem d_Mo_undo_53 : decode prog_10_method_61_code 53 = .ok (.iaload, 1) := by decide +kernel
theorem d_Mo_undo_54 : decode prog_10_method_61_code 54 = .ok (.iastore, 1) := by decide +kernel
theorem d_Mo_undo_55 : decode prog_10_method_61_code 55 = .ok (.iinc 1 1, 3) := by decide +kernel
theorem d_Mo_undo_58 : decode prog_10_method_61_code 58 = .ok (.goto (-31), 3) := by decide +kernel
theorem d_Mo_undo_61 : decode prog_10_method_61_code 61 = .ok (.aload_n 0, 1) := by decide +kernel
theorem d_Mo_undo_62 : decode prog_10_method_61_code 62 = .ok (.getfield 44, 3) := by decide +kernel
theorem d_Mo_undo_65 : decode prog_10_method_61_code 65 = .ok (.ireturn, 1) := by decide +kernel
theorem d_Mo_append_0 : decode prog_10_method_62_code 0 = .ok (.aload_n 0, 1) := by decide +kernel
theorem d_Mo_append_1 : decode prog_10_method_62_code 1 = .ok (.iconst 0, 1) := by decide +kernel
theorem d_Mo_append_2 : decode prog_10_method_62_code 2 = .ok (.putfield 37, 3) := by decide +kernel
theorem d_Mo_append_5 : decode prog_10_method_62_code 5 = .ok (.iload_n 1, 1) := by decide +kernel
theorem d_Mo_append_6 : decode prog_10_method_62_code 6 = .ok (.iconst 1, 1) := by decide +kernel
theorem d_Mo_append_7 : decode prog_10_method_62_code 7 = .ok (.sipush 255, 3) := by decide +kernel
theorem d_Mo_append_10 : decode prog_10_method_62_code 10 = .ok (.invokestatic 47, 3) := by decide +kernel
theorem d_Mo_append_13 : decode prog_10_method_62_code 13 = .ok (.ifCond .ne 6, 3) := by decide +kernel
theorem d_Mo_append_16 : decode prog_10_method_62_code 16 = .ok (.ldc 112, 2) := by decide +kernel
theorem d_Mo_append_18 : decode prog_10_method_62_code 18 = .ok (.ireturn, 1) := by decide +kernel
theorem d_Mo_append_19 : decode prog_10_method_62_code 19 = .ok (.aload_n 0, 1) := by decide +kernel
theorem d_Mo_append_20 : decode prog_10_method_62_code 20 = .ok (.getfield 191, 3) := by decide +kernel
theorem d_Mo_append_23 : decode prog_10_method_62_code 23 = .ok (.sipush 160, 3) := by decide +kernel
theorem d_Mo_append_26 : decode prog_10_method_62_code 26 = .ok (.if_icmp .ne 6, 3) := by decide +kernel
theorem d_Mo_append_29 : decode prog_10_method_62_code 29 = .ok (.ldc 118, 2) := by decide +kernel
theorem d_Mo_append_31 : decode prog_10_method_62_code 31 = .ok (.ireturn, 1) := by decide +kernel
theorem d_Mo_append_32 : decode prog_10_method_62_code 32 = .ok (.aload_n 0, 1) := by decide +kernel
theorem d_Mo_append_33 : decode prog_10_method_62_code 33 = .ok (.getfield 19, 3) := by decide +kernel
theorem d_Mo_append_36 : decode prog_10_method_62_code 36 = .ok (.aload_n 0, 1) := by decide +kernel
theorem d_Mo_append_37 : decode prog_10_method_62_code 37 = .ok (.getfield 191, 3) := by decide +kernel
theorem d_Mo_append_40 : decode prog_10_method_62_code 40 = .ok (.iload_n 1, 1) := by decide +kernel
theorem d_Mo_append_41 : decode prog_10_method_62_code 41 = .ok (.iastore, 1) := by decide +kernel
theorem d_Mo_append_42 : decode prog_10_method_62_code 42 = .ok (.aload_n 0, 1) := by decide +kernel
theorem d_Mo_append_43 : decode prog_10_method_62_code 43 = .ok (.dup, 1) := by decide +kernel
theorem d_Mo_append_44 : decode prog_10_method_62_code 44 = .ok (.getfield 191, 3) := by decide +kernel
theorem d_Mo_append_47 : decode prog_10_method_62_code 47 = .ok (.iconst 1, 1) := by decide +kernel
theorem d_Mo_append_48 : decode prog_10_method_62_code 48 = .ok (.iadd, 1) := by decide +kernel
theorem d_Mo_append_49 : decode prog_10_method_62_code 49 = .ok (.putfield 191, 3) := by decide +kernel
theorem d_Mo_append_52 : decode prog_10_method_62_code 52 = .ok (.aload_n 0, 1) := by decide +kernel
theorem d_Mo_append_53 : decode prog_10_method_62_code 53 = .ok (.getfield 191, 3) := by decide +kernel
theorem d_Mo_append_56 : decode prog_10_method_62_code 56 = .ok (.ireturn, 1) := by decide +kernel
theorem d_Mo_clearText_0 : decode prog_10_method_63_code 0 = .ok (.aload_n 0, 1) := by decide +kernel
theorem d_Mo_clearText_1 : decode prog_10_method_63_code 1 = .ok (.iconst 0, 1) := by decide +kernel
theorem d_Mo_clearText_2 : decode prog_10_method_63_code 2 = .ok (.putfield 37, 3) := by decide +kernel
theorem d_Mo_clearText_5 : decode prog_10_method_63_code 5 = .ok (.aload_n 0, 1) := by decide +kernel
theorem d_Mo_clearText_6 : decode prog_10_method_63_code 6 = .ok (.getfield 191, 3) := by decide +kernel
theorem d_Mo_clearText_9 : decode prog_10_method_63_code 9 = .ok (.istore_n 1, 1) := by decide +kernel
theorem d_Mo_clearText_10 : decode prog_10_method_63_code 10 = .ok (.aload_n 0, 1) := by decide +kernel
theorem d_Mo_clearText_11 : decode prog_10_method_63_code 11 = .ok (.iconst 0, 1) := by decide +kernel
theorem d_Mo_clearText_12 : decode prog_10_method_63_code 12 = .ok (.putfield 191, 3) := by decide +kernel
theorem d_Mo_clearText_15 : decode prog_10_method_63_code 15 = .ok (.iload_n 1, 1) := by decide +kernel
theorem d_Mo_clearText_16 : decode prog_10_method_63_code 16 = .ok (.ireturn, 1) := by decide +kernel
theorem d_Mo_load_0 : decode prog_10_method_70_code 0 = .ok (.aload_n 0, 1) := by decide +kernel
theorem d_Mo_load_1 : decode prog_10_method_70_code 1 = .ok (.iconst 0, 1) := by decide +kernel
theorem d_Mo_load_2 : decode prog_10_method_70_code 2 = .ok (.putfield 37, 3) := by decide +kernel
theorem d_Mo_load_5 : decode prog_10_method_70_code 5 = .ok (.aload_n 0, 1) := by decide +kernel
theorem d_Mo_load_6 : decode prog_10_method_70_code 6 = .ok (.invokevirtual 217, 3) := by decide +kernel
theorem d_Mo_load_9 : decode prog_10_method_70_code 9 = .ok (.aload_n 0, 1) := by decide +kernel
theorem d_Mo_load_10 : decode prog_10_method_70_code 10 = .ok (.invokevirtual 99, 3) := by decide +kernel
theorem d_Mo_load_13 : decode prog_10_method_70_code 13 = .ok (.istore_n 1, 1) := by decide +kernel
theorem d_Mo_load_14 : decode prog_10_method_70_code 14 = .ok (.aload_n 0, 1) := by decide +kernel
theorem d_Mo_load_15 : decode prog_10_method_70_code 15 = .ok (.getfield 7, 3) := by decide +kernel
theorem d_Mo_load_18 : decode prog_10_method_70_code 18 = .ok (.iconst 0, 1) := by decide +kernel
theorem d_Mo_load_19 : decode prog_10_method_70_code 19 = .ok (.iconst 0, 1) := by decide +kernel
theorem d_Mo_load_20 : decode prog_10_method_70_code 20 = .ok (.iastore, 1) := by decide +kernel
theorem d_Mo_load_21 : decode prog_10_method_70_code 21 = .ok (.aload_n 0, 1) := by decide +kernel
theorem d_Mo_load_22 : decode prog_10_method_70_code 22 = .ok (.getfield 7, 3) := by decide +kernel
theorem d_Mo_load_25 : decode prog_10_method_70_code 25 = .ok (.bipush 19, 2) := by decide +kernel
theorem d_Mo_load_27 : decode prog_10_method_70_code 27 = .ok (.iconst 0, 1) := by decide +kernel
theorem d_Mo_load_28 : decode prog_10_method_70_code 28 = .ok (.iastore, 1) := by decide +kernel
theorem d_Mo_load_29 : decode prog_10_method_70_code 29 = .ok (.aload_n 0, 1) := by decide +kernel
theorem d_Mo_load_30 : decode prog_10_method_70_code 30 = .ok (.invokevirtual 41, 3) := by decide +kernel
theorem d_Mo_load_33 : decode prog_10_method_70_code 33 = .ok (.aload_n 0, 1) := by decide +kernel
theorem d_Mo_load_34 : decode prog_10_method_70_code 34 = .ok (.iconst 0, 1) := by decide +kernel
theorem d_Mo_load_35 : decode prog_10_method_70_code 35 = .ok (.putfield 194, 3) := by decide +kernel
theorem d_Mo_load_38 : decode prog_10_method_70_code 38 = .ok (.iconst 0, 1) := by decide +kernel
theorem d_Mo_load_39 : decode prog_10_method_70_code 39 = .ok (.istore_n 2, 1) := by decide +kernel
theorem d_Mo_load_40 : decode prog_10_method_70_code 40 = .ok (.iconst 1, 1) := by decide +kernel
theorem d_Mo_load_41 : decode prog_10_method_70_code 41 = .ok (.istore_n 3, 1) := by decide +kernel
theorem d_Mo_load_42 : decode prog_10_method_70_code 42 = .ok (.iload_n 3, 1) := by decide +kernel
theorem d_Mo_load_43 : decode prog_10_method_70_code 43 = .ok (.ifCond .eq 21, 3) := by decide +kernel
theorem d_Mo_load_46 : decode prog_10_method_70_code 46 = .ok (.aload_n 0, 1) := by decide +kernel
theorem d_Mo_load_47 : decode prog_10_method_70_code 47 = .ok (.invokevirtual 197, 3) := by decide +kernel
theorem d_Mo_load_50 : decode prog_10_method_70_code 50 = .ok (.ifCond .lt 14, 3) := by decide +kernel
theorem d_Mo_load_53 : decode prog_10_method_70_code 53 = .ok (.aload_n 0, 1) := by decide +kernel
theorem d_Mo_load_54 : decode prog_10_method_70_code 54 = .ok (.invokevirtual 220, 3) := by decide +kernel
theorem d_Mo_load_57 : decode prog_10_method_70_code 57 = .ok (.istore_n 3, 1) := by decide +kernel
theorem d_Mo_load_58 : decode prog_10_method_70_code 58 = .ok (.iinc 2 1, 3) := by decide +kernel
theorem d_Mo_load_61 : decode prog_10_method_70_code 61 = .ok (.goto (-19), 3) := by decide +kernel
theorem d_Mo_load_64 : decode prog_10_method_70_code 64 = .ok (.iload_n 3, 1) := by decide +kernel
theorem d_Mo_load_65 : decode prog_10_method_70_code 65 = .ok (.ifCond .ne 15, 3) := by decide +kernel
theorem d_Mo_load_68 : decode prog_10_method_70_code 68 = .ok (.aload_n 0, 1) := by decide +kernel
theorem d_Mo_load_69 : decode prog_10_method_70_code 69 = .ok (.invokevirtual 223, 3) := by decide +kernel
theorem d_Mo_load_72 : decode prog_10_method_70_code 72 = .ok (.ldc 226, 2) := by decide +kernel
theorem d_Mo_load_74 : decode prog_10_method_70_code 74 = .ok (.aload_n 0, 1) := by decide +kernel
theorem d_Mo_load_75 : decode prog_10_method_70_code 75 = .ok (.getfield 194, 3) := by decide +kernel
theorem d_Mo_load_78 : decode prog_10_method_70_code 78 = .ok (.isub, 1) := by decide +kernel
theorem d_Mo_load_79 : decode prog_10_method_70_code 79 = .ok (.ireturn, 1) := by decide +kernel
theorem d_Mo_load_80 : decode prog_10_method_70_code 80 = .ok (.aload_n 0, 1) := by decide +kernel
theorem d_Mo_load_81 : decode prog_10_method_70_code 81 = .ok (.iload_n 1, 1) := by decide +kernel
theorem d_Mo_load_82 : decode prog_10_method_70_code 82 = .ok (.invokevirtual 126, 3) := by decide +kernel
theorem d_Mo_load_85 : decode prog_10_method_70_code 85 = .ok (.aload_n 0, 1) := by decide +kernel
theorem d_Mo_load_86 : decode prog_10_method_70_code 86 = .ok (.invokevirtual 227, 3) := by decide +kernel
theorem d_Mo_load_89 : decode prog_10_method_70_code 89 = .ok (.aload_n 0, 1) := by decide +kernel
theorem d_Mo_load_90 : decode prog_10_method_70_code 90 = .ok (.invokevirtual 119, 3) := by decide +kernel
theorem d_Mo_load_93 : decode prog_10_method_70_code 93 = .ok (.aload_n 0, 1) := by decide +kernel
theorem d_Mo_load_94 : decode prog_10_method_70_code 94 = .ok (.invokevirtual 227, 3) := by decide +kernel
theorem d_Mo_load_97 : decode prog_10_method_70_code 97 = .ok (.aload_n 0, 1) := by decide +kernel
theorem d_Mo_load_98 : decode prog_10_method_70_code 98 = .ok (.iconst 0, 1) := by decide +kernel
theorem d_Mo_load_99 : decode prog_10_method_70_code 99 = .ok (.putfield 191, 3) := by decide +kernel
theorem d_Mo_load_102 : decode prog_10_method_70_code 102 = .ok (.iload_n 2, 1) := by decide +kernel
theorem d_Mo_load_103 : decode prog_10_method_70_code 103 = .ok (.ireturn, 1) := by decide +kernel
theorem d_Mo_hold_0 : decode prog_10_method_7_code 0 = .ok (.iconst 0, 1) := by decide +kernel
theorem d_Mo_hold_1 : decode prog_10_method_7_code 1 = .ok (.istore_n 1, 1) := by decide +kernel
theorem d_Mo_hold_2 : decode prog_10_method_7_code 2 = .ok (.iload_n 1, 1) := by decide +kernel
theorem d_Mo_hold_3 : decode prog_10_method_7_code 3 = .ok (.sipush 1120, 3) := by decide +kernel
theorem d_Mo_hold_6 : decode prog_10_method_7_code 6 = .ok (.if_icmp .ge 21, 3) := by decide +kernel
theorem d_Mo_hold_9 : decode prog_10_method_7_code 9 = .ok (.aload_n 0, 1) := by decide +kernel
theorem d_Mo_hold_10 : decode prog_10_method_7_code 10 = .ok (.getfield 13, 3) := by decide +kernel
theorem d_Mo_hold_13 : decode prog_10_method_7_code 13 = .ok (.iload_n 1, 1) := by decide +kernel
theorem d_Mo_hold_14 : decode prog_10_method_7_code 14 = .ok (.aload_n 0, 1) := by decide +kernel
theorem d_Mo_hold_15 : decode prog_10_method_7_code 15 = .ok (.getfield 7, 3) := by decide +kernel
theorem d_Mo_hold_18 : decode prog_10_method_7_code 18 = .ok (.iload_n 1, 1) := by decide +kernel
theorem d_Mo_hold_19 : decode prog_10_method_7_code 19 = .ok (.iaload, 1) := by decide +kernel
theorem d_Mo_hold_20 : decode prog_10_method_7_code 20 = .ok (.iastore, 1) := by decide +kernel
theorem d_Mo_hold_21 : decode prog_10_method_7_code 21 = .ok (.iinc 1 1, 3) := by decide +kernel
theorem d_Mo_hold_24 : decode prog_10_method_7_code 24 = .ok (.goto (-22), 3) := by decide +kernel
theorem d_Mo_hold_27 : decode prog_10_method_7_code 27 = .ok (.return_, 1) := by decide +kernel
theorem d_Mo_here_0 : decode prog_10_method_64_code 0 = .ok (.aload_n 0, 1) := by decide +kernel
theorem d_Mo_here_1 : decode prog_10_method_64_code 1 = .ok (.getfield 194, 3) := by decide +kernel
theorem d_Mo_here_4 : decode prog_10_method_64_code 4 = .ok (.aload_n 0, 1) := by decide +kernel
theorem d_Mo_here_5 : decode prog_10_method_64_code 5 = .ok (.getfield 191, 3) := by decide +kernel
theorem d_Mo_here_8 : decode prog_10_method_64_code 8 = .ok (.if_icmp .ge 30, 3) := by decide +kernel
theorem d_Mo_here_11 : decode prog_10_method_64_code 11 = .ok (.aload_n 0, 1) := by decide +kernel
theorem d_Mo_here_12 : decode prog_10_method_64_code 12 = .ok (.getfield 19, 3) := by decide +kernel
theorem d_Mo_here_15 : decode prog_10_method_64_code 15 = .ok (.aload_n 0, 1) := by decide +kernel
theorem d_Mo_here_16 : decode prog_10_method_64_code 16 = .ok (.getfield 194, 3) := by decide +kernel
theorem d_Mo_here_19 : decode prog_10_method_64_code 19 = .ok (.iaload, 1) := by decide +kernel
theorem d_Mo_here_20 : decode prog_10_method_64_code 20 = .ok (.bipush 32, 2) := by decide +kernel
theorem d_Mo_here_22 : decode prog_10_method_64_code 22 = .ok (.if_icmp .ne 16, 3) := by decide +kernel
theorem d_Mo_here_25 : decode prog_10_method_64_code 25 = .ok (.aload_n 0, 1) := by decide +kernel
theorem d_Mo_here_26 : decode prog_10_method_64_code 26 = .ok (.dup, 1) := by decide +kernel
theorem d_Mo_here_27 : decode prog_10_method_64_code 27 = .ok (.getfield 194, 3) := by decide +kernel
theorem d_Mo_here_30 : decode prog_10_method_64_code 30 = .ok (.iconst 1, 1) := by decide +kernel
theorem d_Mo_here_31 : decode prog_10_method_64_code 31 = .ok (.iadd, 1) := by decide +kernel
theorem d_Mo_here_32 : decode prog_10_method_64_code 32 = .ok (.putfield 194, 3) := by decide +kernel
theorem d_Mo_here_35 : decode prog_10_method_64_code 35 = .ok (.goto (-35), 3) := by decide +kernel
theorem d_Mo_here_38 : decode prog_10_method_64_code 38 = .ok (.aload_n 0, 1) := by decide +kernel
theorem d_Mo_here_39 : decode prog_10_method_64_code 39 = .ok (.getfield 194, 3) := by decide +kernel
theorem d_Mo_here_42 : decode prog_10_method_64_code 42 = .ok (.aload_n 0, 1) := by decide +kernel
theorem d_Mo_here_43 : decode prog_10_method_64_code 43 = .ok (.getfield 191, 3) := by decide +kernel
theorem d_Mo_here_46 : decode prog_10_method_64_code 46 = .ok (.if_icmp .ge 15, 3) := by decide +kernel
theorem d_Mo_here_49 : decode prog_10_method_64_code 49 = .ok (.aload_n 0, 1) := by decide +kernel
theorem d_Mo_here_50 : decode prog_10_method_64_code 50 = .ok (.getfield 19, 3) := by decide +kernel
theorem d_Mo_here_53 : decode prog_10_method_64_code 53 = .ok (.aload_n 0, 1) := by decide +kernel
theorem d_Mo_here_54 : decode prog_10_method_64_code 54 = .ok (.getfield 194, 3) := by decide +kernel
theorem d_Mo_here_57 : decode prog_10_method_64_code 57 = .ok (.iaload, 1) := by decide +kernel
theorem d_Mo_here_58 : decode prog_10_method_64_code 58 = .ok (.goto 4, 3) := by decide +kernel
theorem d_Mo_here_61 : decode prog_10_method_64_code 61 = .ok (.iconst (-1), 1) := by decide +kernel
theorem d_Mo_here_62 : decode prog_10_method_64_code 62 = .ok (.ireturn, 1) := by decide +kernel
theorem d_Mo_readsItem_0 : decode prog_10_method_69_code 0 = .ok (.aload_n 0, 1) := by decide +kernel
theorem d_Mo_readsItem_1 : decode prog_10_method_69_code 1 = .ok (.invokevirtual 197, 3) := by decide +kernel
theorem d_Mo_readsItem_4 : decode prog_10_method_69_code 4 = .ok (.istore_n 1, 1) := by decide +kernel
theorem d_Mo_readsItem_5 : decode prog_10_method_69_code 5 = .ok (.aload_n 0, 1) := by decide +kernel
theorem d_Mo_readsItem_6 : decode prog_10_method_69_code 6 = .ok (.getfield 194, 3) := by decide +kernel
theorem d_Mo_readsItem_9 : decode prog_10_method_69_code 9 = .ok (.istore_n 2, 1) := by decide +kernel
theorem d_Mo_readsItem_10 : decode prog_10_method_69_code 10 = .ok (.iload_n 1, 1) := by decide +kernel
theorem d_Mo_readsItem_11 : decode prog_10_method_69_code 11 = .ok (.bipush 120, 2) := by decide +kernel
theorem d_Mo_readsItem_13 : decode prog_10_method_69_code 13 = .ok (.if_icmp .eq 17, 3) := by decide +kernel
theorem d_Mo_readsItem_16 : decode prog_10_method_69_code 16 = .ok (.iload_n 1, 1) := by decide +kernel
theorem d_Mo_readsItem_17 : decode prog_10_method_69_code 17 = .ok (.bipush 121, 2) := by decide +kernel
theorem d_Mo_readsItem_19 : decode prog_10_method_69_code 19 = .ok (.if_icmp .eq 11, 3) := by decide +kernel
theorem d_Mo_readsItem_22 : decode prog_10_method_69_code 22 = .ok (.iload_n 1, 1) := by decide +kernel
theorem d_Mo_readsItem_23 : decode prog_10_method_69_code 23 = .ok (.bipush 103, 2) := by decide +kernel
theorem d_Mo_readsItem_25 : decode prog_10_method_69_code 25 = .ok (.if_icmp .eq 5, 3) := by decide +kernel
theorem d_Mo_readsItem_28 : decode prog_10_method_69_code 28 = .ok (.iconst 0, 1) := by decide +kernel
theorem d_Mo_readsItem_29 : decode prog_10_method_69_code 29 = .ok (.ireturn, 1) := by decide +kernel
theorem d_Mo_readsItem_30 : decode prog_10_method_69_code 30 = .ok (.aload_n 0, 1) := by decide +kernel
theorem d_Mo_readsItem_31 : decode prog_10_method_69_code 31 = .ok (.dup, 1) := by decide +kernel
theorem d_Mo_readsItem_32 : decode prog_10_method_69_code 32 = .ok (.getfield 194, 3) := by decide +kernel
theorem d_Mo_readsItem_35 : decode prog_10_method_69_code 35 = .ok (.iconst 1, 1) := by decide +kernel
theorem d_Mo_readsItem_36 : decode prog_10_method_69_code 36 = .ok (.iadd, 1) := by decide +kernel
theorem d_Mo_readsItem_37 : decode prog_10_method_69_code 37 = .ok (.putfield 194, 3) := by decide +kernel
theorem d_Mo_readsItem_40 : decode prog_10_method_69_code 40 = .ok (.iload_n 1, 1) := by decide +kernel
theorem d_Mo_readsItem_41 : decode prog_10_method_69_code 41 = .ok (.bipush 103, 2) := by decide +kernel
theorem d_Mo_readsItem_43 : decode prog_10_method_69_code 43 = .ok (.if_icmp .ne 10, 3) := by decide +kernel
theorem d_Mo_readsItem_46 : decode prog_10_method_69_code 46 = .ok (.aload_n 0, 1) := by decide +kernel
theorem d_Mo_readsItem_47 : decode prog_10_method_69_code 47 = .ok (.invokevirtual 210, 3) := by decide +kernel
theorem d_Mo_readsItem_50 : decode prog_10_method_69_code 50 = .ok (.goto 12, 3) := by decide +kernel
theorem d_Mo_readsItem_53 : decode prog_10_method_69_code 53 = .ok (.aload_n 0, 1) := by decide +kernel
theorem d_Mo_readsItem_54 : decode prog_10_method_69_code 54 = .ok (.iload_n 1, 1) := by decide +kernel
theorem d_Mo_readsItem_55 : decode prog_10_method_69_code 55 = .ok (.bipush 120, 2) := by decide +kernel
theorem d_Mo_readsItem_57 : decode prog_10_method_69_code 57 = .ok (.isub, 1) := by decide +kernel
theorem d_Mo_readsItem_58 : decode prog_10_method_69_code 58 = .ok (.iload_n 2, 1) := by decide +kernel
theorem d_Mo_readsItem_59 : decode prog_10_method_69_code 59 = .ok (.invokevirtual 214, 3) := by decide +kernel
theorem d_Mo_readsItem_62 : decode prog_10_method_69_code 62 = .ok (.ireturn, 1) := by decide +kernel
theorem d_Mo_readsGain_0 : decode prog_10_method_68_code 0 = .ok (.aload_n 0, 1) := by decide +kernel
theorem d_Mo_readsGain_1 : decode prog_10_method_68_code 1 = .ok (.iconst 0, 1) := by decide +kernel
theorem d_Mo_readsGain_2 : decode prog_10_method_68_code 2 = .ok (.aload_n 0, 1) := by decide +kernel
theorem d_Mo_readsGain_3 : decode prog_10_method_68_code 3 = .ok (.iconst 0, 1) := by decide +kernel
theorem d_Mo_readsGain_4 : decode prog_10_method_68_code 4 = .ok (.invokevirtual 55, 3) := by decide +kernel
theorem d_Mo_readsGain_7 : decode prog_10_method_68_code 7 = .ok (.invokevirtual 204, 3) := by decide +kernel
theorem d_Mo_readsGain_10 : decode prog_10_method_68_code 10 = .ok (.ifCond .ne 5, 3) := by decide +kernel
theorem d_Mo_readsGain_13 : decode prog_10_method_68_code 13 = .ok (.iconst 0, 1) := by decide +kernel
theorem d_Mo_readsGain_14 : decode prog_10_method_68_code 14 = .ok (.ireturn, 1) := by decide +kernel
theorem d_Mo_readsGain_15 : decode prog_10_method_68_code 15 = .ok (.aload_n 0, 1) := by decide +kernel
theorem d_Mo_readsGain_16 : decode prog_10_method_68_code 16 = .ok (.getfield 201, 3) := by decide +kernel
theorem d_Mo_readsGain_19 : decode prog_10_method_68_code 19 = .ok (.istore_n 1, 1) := by decide +kernel
theorem d_Mo_readsGain_20 : decode prog_10_method_68_code 20 = .ok (.aload_n 0, 1) := by decide +kernel
theorem d_Mo_readsGain_21 : decode prog_10_method_68_code 21 = .ok (.iconst 0, 1) := by decide +kernel
theorem d_Mo_readsGain_22 : decode prog_10_method_68_code 22 = .ok (.aload_n 0, 1) := by decide +kernel
theorem d_Mo_readsGain_23 : decode prog_10_method_68_code 23 = .ok (.iconst 1, 1) := by decide +kernel
theorem d_Mo_readsGain_24 : decode prog_10_method_68_code 24 = .ok (.invokevirtual 55, 3) := by decide +kernel
theorem d_Mo_readsGain_27 : decode prog_10_method_68_code 27 = .ok (.invokevirtual 204, 3) := by decide +kernel
theorem d_Mo_readsGain_30 : decode prog_10_method_68_code 30 = .ok (.ifCond .ne 5, 3) := by decide +kernel
theorem d_Mo_readsGain_33 : decode prog_10_method_68_code 33 = .ok (.iconst 0, 1) := by decide +kernel
theorem d_Mo_readsGain_34 : decode prog_10_method_68_code 34 = .ok (.ireturn, 1) := by decide +kernel
theorem d_Mo_readsGain_35 : decode prog_10_method_68_code 35 = .ok (.aload_n 0, 1) := by decide +kernel
theorem d_Mo_readsGain_36 : decode prog_10_method_68_code 36 = .ok (.getfield 201, 3) := by decide +kernel
theorem d_Mo_readsGain_39 : decode prog_10_method_68_code 39 = .ok (.istore_n 2, 1) := by decide +kernel
theorem d_Mo_readsGain_40 : decode prog_10_method_68_code 40 = .ok (.aload_n 0, 1) := by decide +kernel
theorem d_Mo_readsGain_41 : decode prog_10_method_68_code 41 = .ok (.iconst 0, 1) := by decide +kernel
theorem d_Mo_readsGain_42 : decode prog_10_method_68_code 42 = .ok (.iconst 2, 1) := by decide +kernel
theorem d_Mo_readsGain_43 : decode prog_10_method_68_code 43 = .ok (.invokevirtual 204, 3) := by decide +kernel
theorem d_Mo_readsGain_46 : decode prog_10_method_68_code 46 = .ok (.ifCond .ne 5, 3) := by decide +kernel
theorem d_Mo_readsGain_49 : decode prog_10_method_68_code 49 = .ok (.iconst 0, 1) := by decide +kernel
theorem d_Mo_readsGain_50 : decode prog_10_method_68_code 50 = .ok (.ireturn, 1) := by decide +kernel
theorem d_Mo_readsGain_51 : decode prog_10_method_68_code 51 = .ok (.aload_n 0, 1) := by decide +kernel
theorem d_Mo_readsGain_52 : decode prog_10_method_68_code 52 = .ok (.getfield 201, 3) := by decide +kernel
theorem d_Mo_readsGain_55 : decode prog_10_method_68_code 55 = .ok (.istore_n 3, 1) := by decide +kernel
theorem d_Mo_readsGain_56 : decode prog_10_method_68_code 56 = .ok (.aload_n 0, 1) := by decide +kernel
theorem d_Mo_readsGain_57 : decode prog_10_method_68_code 57 = .ok (.iconst 0, 1) := by decide +kernel
theorem d_Mo_readsGain_58 : decode prog_10_method_68_code 58 = .ok (.sipush 9999, 3) := by decide +kernel
theorem d_Mo_readsGain_61 : decode prog_10_method_68_code 61 = .ok (.invokevirtual 204, 3) := by decide +kernel
theorem d_Mo_readsGain_64 : decode prog_10_method_68_code 64 = .ok (.ifCond .ne 5, 3) := by decide +kernel
theorem d_Mo_readsGain_67 : decode prog_10_method_68_code 67 = .ok (.iconst 0, 1) := by decide +kernel
theorem d_Mo_readsGain_68 : decode prog_10_method_68_code 68 = .ok (.ireturn, 1) := by decide +kernel
theorem d_Mo_readsGain_69 : decode prog_10_method_68_code 69 = .ok (.aload_n 0, 1) := by decide +kernel
theorem d_Mo_readsGain_70 : decode prog_10_method_68_code 70 = .ok (.getfield 201, 3) := by decide +kernel
theorem d_Mo_readsGain_73 : decode prog_10_method_68_code 73 = .ok (.istore 4, 2) := by decide +kernel
theorem d_Mo_readsGain_75 : decode prog_10_method_68_code 75 = .ok (.aload_n 0, 1) := by decide +kernel
theorem d_Mo_readsGain_76 : decode prog_10_method_68_code 76 = .ok (.bipush 59, 2) := by decide +kernel
theorem d_Mo_readsGain_78 : decode prog_10_method_68_code 78 = .ok (.invokevirtual 207, 3) := by decide +kernel
theorem d_Mo_readsGain_81 : decode prog_10_method_68_code 81 = .ok (.ifCond .ne 5, 3) := by decide +kernel
theorem d_Mo_readsGain_84 : decode prog_10_method_68_code 84 = .ok (.iconst 0, 1) := by decide +kernel
theorem d_Mo_readsGain_85 : decode prog_10_method_68_code 85 = .ok (.ireturn, 1) := by decide +kernel
theorem d_Mo_readsGain_86 : decode prog_10_method_68_code 86 = .ok (.aload_n 0, 1) := by decide +kernel
theorem d_Mo_readsGain_87 : decode prog_10_method_68_code 87 = .ok (.getfield 7, 3) := by decide +kernel
theorem d_Mo_readsGain_90 : decode prog_10_method_68_code 90 = .ok (.iload_n 1, 1) := by decide +kernel
theorem d_Mo_readsGain_91 : decode prog_10_method_68_code 91 = .ok (.iload_n 2, 1) := by decide +kernel
theorem d_Mo_readsGain_92 : decode prog_10_method_68_code 92 = .ok (.invokestatic 59, 3) := by decide +kernel
theorem d_Mo_readsGain_95 : decode prog_10_method_68_code 95 = .ok (.iload_n 3, 1) := by decide +kernel
theorem d_Mo_readsGain_96 : decode prog_10_method_68_code 96 = .ok (.iadd, 1) := by decide +kernel
theorem d_Mo_readsGain_97 : decode prog_10_method_68_code 97 = .ok (.iload 4, 2) := by decide +kernel
theorem d_Mo_readsGain_99 : decode prog_10_method_68_code 99 = .ok (.iastore, 1) := by decide +kernel
theorem d_Mo_readsGain_100 : decode prog_10_method_68_code 100 = .ok (.iconst 1, 1) := by decide +kernel
theorem d_Mo_readsGain_101 : decode prog_10_method_68_code 101 = .ok (.ireturn, 1) := by decide +kernel
theorem d_Mo_reads_0 : decode prog_10_method_65_code 0 = .ok (.aload_n 0, 1) := by decide +kernel
theorem d_Mo_reads_1 : decode prog_10_method_65_code 1 = .ok (.invokevirtual 197, 3) := by decide +kernel
theorem d_Mo_reads_4 : decode prog_10_method_65_code 4 = .ok (.istore_n 3, 1) := by decide +kernel
theorem d_Mo_reads_5 : decode prog_10_method_65_code 5 = .ok (.aload_n 0, 1) := by decide +kernel
theorem d_Mo_reads_6 : decode prog_10_method_65_code 6 = .ok (.getfield 194, 3) := by decide +kernel
theorem d_Mo_reads_9 : decode prog_10_method_65_code 9 = .ok (.istore 4, 2) := by decide +kernel
theorem d_Mo_reads_11 : decode prog_10_method_65_code 11 = .ok (.iconst 0, 1) := by decide +kernel
theorem d_Mo_reads_12 : decode prog_10_method_65_code 12 = .ok (.istore 5, 2) := by decide +kernel
theorem d_Mo_reads_14 : decode prog_10_method_65_code 14 = .ok (.aload_n 0, 1) := by decide +kernel
theorem d_Mo_reads_15 : decode prog_10_method_65_code 15 = .ok (.getfield 194, 3) := by decide +kernel
theorem d_Mo_reads_18 : decode prog_10_method_65_code 18 = .ok (.aload_n 0, 1) := by decide +kernel
theorem d_Mo_reads_19 : decode prog_10_method_65_code 19 = .ok (.getfield 191, 3) := by decide +kernel
theorem d_Mo_reads_22 : decode prog_10_method_65_code 22 = .ok (.if_icmp .ge 67, 3) := by decide +kernel
theorem d_Mo_reads_25 : decode prog_10_method_65_code 25 = .ok (.aload_n 0, 1) := by decide +kernel
theorem d_Mo_reads_26 : decode prog_10_method_65_code 26 = .ok (.getfield 19, 3) := by decide +kernel
theorem d_Mo_reads_29 : decode prog_10_method_65_code 29 = .ok (.aload_n 0, 1) := by decide +kernel
theorem d_Mo_reads_30 : decode prog_10_method_65_code 30 = .ok (.getfield 194, 3) := by decide +kernel
theorem d_Mo_reads_33 : decode prog_10_method_65_code 33 = .ok (.iaload, 1) := by decide +kernel
theorem d_Mo_reads_34 : decode prog_10_method_65_code 34 = .ok (.bipush 48, 2) := by decide +kernel
theorem d_Mo_reads_36 : decode prog_10_method_65_code 36 = .ok (.bipush 57, 2) := by decide +kernel
theorem d_Mo_reads_38 : decode prog_10_method_65_code 38 = .ok (.invokestatic 47, 3) := by decide +kernel
theorem d_Mo_reads_41 : decode prog_10_method_65_code 41 = .ok (.ifCond .eq 48, 3) := by decide +kernel
theorem d_Mo_reads_44 : decode prog_10_method_65_code 44 = .ok (.iload 5, 2) := by decide +kernel
theorem d_Mo_reads_46 : decode prog_10_method_65_code 46 = .ok (.ldc 200, 2) := by decide +kernel
theorem d_Mo_reads_48 : decode prog_10_method_65_code 48 = .ok (.if_icmp .ge 24, 3) := by decide +kernel
theorem d_Mo_reads_51 : decode prog_10_method_65_code 51 = .ok (.bipush 10, 2) := by decide +kernel
theorem d_Mo_reads_53 : decode prog_10_method_65_code 53 = .ok (.iload 5, 2) := by decide +kernel
theorem d_Mo_reads_55 : decode prog_10_method_65_code 55 = .ok (.imul, 1) := by decide +kernel
theorem d_Mo_reads_56 : decode prog_10_method_65_code 56 = .ok (.aload_n 0, 1) := by decide +kernel
theorem d_Mo_reads_57 : decode prog_10_method_65_code 57 = .ok (.getfield 19, 3) := by decide +kernel
theorem d_Mo_reads_60 : decode prog_10_method_65_code 60 = .ok (.aload_n 0, 1) := by decide +kernel
theorem d_Mo_reads_61 : decode prog_10_method_65_code 61 = .ok (.getfield 194, 3) := by decide +kernel
theorem d_Mo_reads_64 : decode prog_10_method_65_code 64 = .ok (.iaload, 1) := by decide +kernel
theorem d_Mo_reads_65 : decode prog_10_method_65_code 65 = .ok (.iadd, 1) := by decide +kernel
theorem d_Mo_reads_66 : decode prog_10_method_65_code 66 = .ok (.bipush 48, 2) := by decide +kernel
theorem d_Mo_reads_68 : decode prog_10_method_65_code 68 = .ok (.isub, 1) := by decide +kernel
theorem d_Mo_reads_69 : decode prog_10_method_65_code 69 = .ok (.goto 5, 3) := by decide +kernel
theorem d_Mo_reads_72 : decode prog_10_method_65_code 72 = .ok (.iload 5, 2) := by decide +kernel
theorem d_Mo_reads_74 : decode prog_10_method_65_code 74 = .ok (.istore 5, 2) := by decide +kernel
theorem d_Mo_reads_76 : decode prog_10_method_65_code 76 = .ok (.aload_n 0, 1) := by decide +kernel
theorem d_Mo_reads_77 : decode prog_10_method_65_code 77 = .ok (.dup, 1) := by decide +kernel
theorem d_Mo_reads_78 : decode prog_10_method_65_code 78 = .ok (.getfield 194, 3) := by decide +kernel
theorem d_Mo_reads_81 : decode prog_10_method_65_code 81 = .ok (.iconst 1, 1) := by decide +kernel
theorem d_Mo_reads_82 : decode prog_10_method_65_code 82 = .ok (.iadd, 1) := by decide +kernel
theorem d_Mo_reads_83 : decode prog_10_method_65_code 83 = .ok (.putfield 194, 3) := by decide +kernel
theorem d_Mo_reads_86 : decode prog_10_method_65_code 86 = .ok (.goto (-72), 3) := by decide +kernel
theorem d_Mo_reads_89 : decode prog_10_method_65_code 89 = .ok (.aload_n 0, 1) := by decide +kernel
theorem d_Mo_reads_90 : decode prog_10_method_65_code 90 = .ok (.getfield 194, 3) := by decide +kernel
theorem d_Mo_reads_93 : decode prog_10_method_65_code 93 = .ok (.iload 4, 2) := by decide +kernel
theorem d_Mo_reads_95 : decode prog_10_method_65_code 95 = .ok (.if_icmp .le 34, 3) := by decide +kernel
theorem d_Mo_reads_98 : decode prog_10_method_65_code 98 = .ok (.iload_n 3, 1) := by decide +kernel
theorem d_Mo_reads_99 : decode prog_10_method_65_code 99 = .ok (.bipush 48, 2) := by decide +kernel
theorem d_Mo_reads_101 : decode prog_10_method_65_code 101 = .ok (.if_icmp .ne 14, 3) := by decide +kernel
theorem d_Mo_reads_104 : decode prog_10_method_65_code 104 = .ok (.aload_n 0, 1) := by decide +kernel
theorem d_Mo_reads_105 : decode prog_10_method_65_code 105 = .ok (.getfield 194, 3) := by decide +kernel
theorem d_Mo_reads_108 : decode prog_10_method_65_code 108 = .ok (.iload 4, 2) := by decide +kernel
theorem d_Mo_reads_110 : decode prog_10_method_65_code 110 = .ok (.iconst 1, 1) := by decide +kernel
theorem d_Mo_reads_111 : decode prog_10_method_65_code 111 = .ok (.iadd, 1) := by decide +kernel
theorem d_Mo_reads_112 : decode prog_10_method_65_code 112 = .ok (.if_icmp .ne 17, 3) := by decide +kernel
theorem d_Mo_reads_115 : decode prog_10_method_65_code 115 = .ok (.iload 5, 2) := by decide +kernel
theorem d_Mo_reads_117 : decode prog_10_method_65_code 117 = .ok (.iload_n 1, 1) := by decide +kernel
theorem d_Mo_reads_118 : decode prog_10_method_65_code 118 = .ok (.iload_n 2, 1) := by decide +kernel
theorem d_Mo_reads_119 : decode prog_10_method_65_code 119 = .ok (.invokestatic 47, 3) := by decide +kernel
theorem d_Mo_reads_122 : decode prog_10_method_65_code 122 = .ok (.ifCond .eq 7, 3) := by decide +kernel
theorem d_Mo_reads_125 : decode prog_10_method_65_code 125 = .ok (.iconst 1, 1) := by decide +kernel
theorem d_Mo_reads_126 : decode prog_10_method_65_code 126 = .ok (.goto 4, 3) := by decide +kernel
theorem d_Mo_reads_129 : decode prog_10_method_65_code 129 = .ok (.iconst 0, 1) := by decide +kernel
theorem d_Mo_reads_130 : decode prog_10_method_65_code 130 = .ok (.istore 6, 2) := by decide +kernel
theorem d_Mo_reads_132 : decode prog_10_method_65_code 132 = .ok (.aload_n 0, 1) := by decide +kernel
theorem d_Mo_reads_133 : decode prog_10_method_65_code 133 = .ok (.iload 6, 2) := by decide +kernel
theorem d_Mo_reads_135 : decode prog_10_method_65_code 135 = .ok (.ifCond .eq 10, 3) := by decide +kernel
theorem d_Mo_reads_138 : decode prog_10_method_65_code 138 = .ok (.aload_n 0, 1) := by decide +kernel
theorem d_Mo_reads_139 : decode prog_10_method_65_code 139 = .ok (.getfield 194, 3) := by decide +kernel
theorem d_Mo_reads_142 : decode prog_10_method_65_code 142 = .ok (.goto 5, 3) := by decide +kernel
theorem d_Mo_reads_145 : decode prog_10_method_65_code 145 = .ok (.iload 4, 2) := by decide +kernel
theorem d_Mo_reads_147 : decode prog_10_method_65_code 147 = .ok (.putfield 194, 3) := by decide +kernel
theorem d_Mo_reads_150 : decode prog_10_method_65_code 150 = .ok (.aload_n 0, 1) := by decide +kernel
theorem d_Mo_reads_151 : decode prog_10_method_65_code 151 = .ok (.iload 5, 2) := by decide +kernel
theorem d_Mo_reads_153 : decode prog_10_method_65_code 153 = .ok (.putfield 201, 3) := by decide +kernel
theorem d_Mo_reads_156 : decode prog_10_method_65_code 156 = .ok (.iload 6, 2) := by decide +kernel
theorem d_Mo_reads_158 : decode prog_10_method_65_code 158 = .ok (.ireturn, 1) := by decide +kernel
theorem d_Mo_takes_0 : decode prog_10_method_66_code 0 = .ok (.aload_n 0, 1) := by decide +kernel
theorem d_Mo_takes_1 : decode prog_10_method_66_code 1 = .ok (.invokevirtual 197, 3) := by decide +kernel
theorem d_Mo_takes_4 : decode prog_10_method_66_code 4 = .ok (.iload_n 1, 1) := by decide +kernel
theorem d_Mo_takes_5 : decode prog_10_method_66_code 5 = .ok (.if_icmp .ne 7, 3) := by decide +kernel
theorem d_Mo_takes_8 : decode prog_10_method_66_code 8 = .ok (.iconst 1, 1) := by decide +kernel
theorem d_Mo_takes_9 : decode prog_10_method_66_code 9 = .ok (.goto 4, 3) := by decide +kernel
theorem d_Mo_takes_12 : decode prog_10_method_66_code 12 = .ok (.iconst 0, 1) := by decide +kernel
theorem d_Mo_takes_13 : decode prog_10_method_66_code 13 = .ok (.istore_n 2, 1) := by decide +kernel
theorem d_Mo_takes_14 : decode prog_10_method_66_code 14 = .ok (.aload_n 0, 1) := by decide +kernel
theorem d_Mo_takes_15 : decode prog_10_method_66_code 15 = .ok (.dup, 1) := by decide +kernel
theorem d_Mo_takes_16 : decode prog_10_method_66_code 16 = .ok (.getfield 194, 3) := by decide +kernel
theorem d_Mo_takes_19 : decode prog_10_method_66_code 19 = .ok (.iload_n 2, 1) := by decide +kernel
theorem d_Mo_takes_20 : decode prog_10_method_66_code 20 = .ok (.ifCond .eq 7, 3) := by decide +kernel
theorem d_Mo_takes_23 : decode prog_10_method_66_code 23 = .ok (.iconst 1, 1) := by decide +kernel
theorem d_Mo_takes_24 : decode prog_10_method_66_code 24 = .ok (.goto 4, 3) := by decide +kernel
theorem d_Mo_takes_27 : decode prog_10_method_66_code 27 = .ok (.iconst 0, 1) := by decide +kernel
theorem d_Mo_takes_28 : decode prog_10_method_66_code 28 = .ok (.iadd, 1) := by decide +kernel
theorem d_Mo_takes_29 : decode prog_10_method_66_code 29 = .ok (.putfield 194, 3) := by decide +kernel
theorem d_Mo_takes_32 : decode prog_10_method_66_code 32 = .ok (.iload_n 2, 1) := by decide +kernel
theorem d_Mo_takes_33 : decode prog_10_method_66_code 33 = .ok (.ireturn, 1) := by decide +kernel
theorem d_Mo_readsBorder_0 : decode prog_10_method_67_code 0 = .ok (.aload_n 0, 1) := by decide +kernel
theorem d_Mo_readsBorder_1 : decode prog_10_method_67_code 1 = .ok (.iconst 1, 1) := by decide +kernel
theorem d_Mo_readsBorder_2 : decode prog_10_method_67_code 2 = .ok (.sipush 999, 3) := by decide +kernel
theorem d_Mo_readsBorder_5 : decode prog_10_method_67_code 5 = .ok (.invokevirtual 204, 3) := by decide +kernel
theorem d_Mo_readsBorder_8 : decode prog_10_method_67_code 8 = .ok (.ifCond .ne 5, 3) := by decide +kernel
theorem d_Mo_readsBorder_11 : decode prog_10_method_67_code 11 = .ok (.iconst 0, 1) := by decide +kernel
theorem d_Mo_readsBorder_12 : decode prog_10_method_67_code 12 = .ok (.ireturn, 1) := by decide +kernel
theorem d_Mo_readsBorder_13 : decode prog_10_method_67_code 13 = .ok (.aload_n 0, 1) := by decide +kernel
theorem d_Mo_readsBorder_14 : decode prog_10_method_67_code 14 = .ok (.getfield 201, 3) := by decide +kernel
theorem d_Mo_readsBorder_17 : decode prog_10_method_67_code 17 = .ok (.istore_n 3, 1) := by decide +kernel
theorem d_Mo_readsBorder_18 : decode prog_10_method_67_code 18 = .ok (.aload_n 0, 1) := by decide +kernel
theorem d_Mo_readsBorder_19 : decode prog_10_method_67_code 19 = .ok (.iconst 0, 1) := by decide +kernel
theorem d_Mo_readsBorder_20 : decode prog_10_method_67_code 20 = .ok (.bipush 100, 2) := by decide +kernel
theorem d_Mo_readsBorder_22 : decode prog_10_method_67_code 22 = .ok (.invokevirtual 204, 3) := by decide +kernel
theorem d_Mo_readsBorder_25 : decode prog_10_method_67_code 25 = .ok (.ifCond .ne 5, 3) := by decide +kernel
theorem d_Mo_readsBorder_28 : decode prog_10_method_67_code 28 = .ok (.iconst 0, 1) := by decide +kernel
theorem d_Mo_readsBorder_29 : decode prog_10_method_67_code 29 = .ok (.ireturn, 1) := by decide +kernel
theorem d_Mo_readsBorder_30 : decode prog_10_method_67_code 30 = .ok (.aload_n 0, 1) := by decide +kernel
theorem d_Mo_readsBorder_31 : decode prog_10_method_67_code 31 = .ok (.getfield 201, 3) := by decide +kernel
theorem d_Mo_readsBorder_34 : decode prog_10_method_67_code 34 = .ok (.istore 4, 2) := by decide +kernel
theorem d_Mo_readsBorder_36 : decode prog_10_method_67_code 36 = .ok (.aload_n 0, 1) := by decide +kernel
theorem d_Mo_readsBorder_37 : decode prog_10_method_67_code 37 = .ok (.bipush 126, 2) := by decide +kernel
theorem d_Mo_readsBorder_39 : decode prog_10_method_67_code 39 = .ok (.invokevirtual 207, 3) := by decide +kernel
theorem d_Mo_readsBorder_42 : decode prog_10_method_67_code 42 = .ok (.ifCond .eq 7, 3) := by decide +kernel
theorem d_Mo_readsBorder_45 : decode prog_10_method_67_code 45 = .ok (.iconst 1, 1) := by decide +kernel
theorem d_Mo_readsBorder_46 : decode prog_10_method_67_code 46 = .ok (.goto 4, 3) := by decide +kernel
theorem d_Mo_readsBorder_49 : decode prog_10_method_67_code 49 = .ok (.iconst 0, 1) := by decide +kernel
theorem d_Mo_readsBorder_50 : decode prog_10_method_67_code 50 = .ok (.istore 5, 2) := by decide +kernel
theorem d_Mo_readsBorder_52 : decode prog_10_method_67_code 52 = .ok (.aload_n 0, 1) := by decide +kernel
theorem d_Mo_readsBorder_53 : decode prog_10_method_67_code 53 = .ok (.bipush 59, 2) := by decide +kernel
theorem d_Mo_readsBorder_55 : decode prog_10_method_67_code 55 = .ok (.invokevirtual 207, 3) := by decide +kernel
theorem d_Mo_readsBorder_58 : decode prog_10_method_67_code 58 = .ok (.ifCond .ne 5, 3) := by decide +kernel
theorem d_Mo_readsBorder_61 : decode prog_10_method_67_code 61 = .ok (.iconst 0, 1) := by decide +kernel
theorem d_Mo_readsBorder_62 : decode prog_10_method_67_code 62 = .ok (.ireturn, 1) := by decide +kernel
theorem d_Mo_readsBorder_63 : decode prog_10_method_67_code 63 = .ok (.iload 5, 2) := by decide +kernel
theorem d_Mo_readsBorder_65 : decode prog_10_method_67_code 65 = .ok (.iload 4, 2) := by decide +kernel
theorem d_Mo_readsBorder_67 : decode prog_10_method_67_code 67 = .ok (.invokestatic 105, 3) := by decide +kernel
theorem d_Mo_readsBorder_70 : decode prog_10_method_67_code 70 = .ok (.ifCond .eq 35, 3) := by decide +kernel
theorem d_Mo_readsBorder_73 : decode prog_10_method_67_code 73 = .ok (.iload_n 3, 1) := by decide +kernel
theorem d_Mo_readsBorder_74 : decode prog_10_method_67_code 74 = .ok (.iload 4, 2) := by decide +kernel
theorem d_Mo_readsBorder_76 : decode prog_10_method_67_code 76 = .ok (.invokestatic 109, 3) := by decide +kernel
theorem d_Mo_readsBorder_79 : decode prog_10_method_67_code 79 = .ok (.ifCond .eq 26, 3) := by decide +kernel
theorem d_Mo_readsBorder_82 : decode prog_10_method_67_code 82 = .ok (.aload_n 0, 1) := by decide +kernel
theorem d_Mo_readsBorder_83 : decode prog_10_method_67_code 83 = .ok (.iload_n 1, 1) := by decide +kernel
theorem d_Mo_readsBorder_84 : decode prog_10_method_67_code 84 = .ok (.iload_n 3, 1) := by decide +kernel
theorem d_Mo_readsBorder_85 : decode prog_10_method_67_code 85 = .ok (.iload 4, 2) := by decide +kernel
theorem d_Mo_readsBorder_87 : decode prog_10_method_67_code 87 = .ok (.ldc 67, 2) := by decide +kernel
theorem d_Mo_readsBorder_89 : decode prog_10_method_67_code 89 = .ok (.invokevirtual 113, 3) := by decide +kernel
theorem d_Mo_readsBorder_92 : decode prog_10_method_67_code 92 = .ok (.ifCond .ne 13, 3) := by decide +kernel
theorem d_Mo_readsBorder_95 : decode prog_10_method_67_code 95 = .ok (.aload_n 0, 1) := by decide +kernel
theorem d_Mo_readsBorder_96 : decode prog_10_method_67_code 96 = .ok (.iload_n 1, 1) := by decide +kernel
theorem d_Mo_readsBorder_97 : decode prog_10_method_67_code 97 = .ok (.invokevirtual 55, 3) := by decide +kernel
theorem d_Mo_readsBorder_100 : decode prog_10_method_67_code 100 = .ok (.bipush 6, 2) := by decide +kernel
theorem d_Mo_readsBorder_102 : decode prog_10_method_67_code 102 = .ok (.if_icmp .ne 10, 3) := by decide +kernel
theorem d_Mo_readsBorder_105 : decode prog_10_method_67_code 105 = .ok (.aload_n 0, 1) := by decide +kernel
theorem d_Mo_readsBorder_106 : decode prog_10_method_67_code 106 = .ok (.iload_n 2, 1) := by decide +kernel
theorem d_Mo_readsBorder_107 : decode prog_10_method_67_code 107 = .ok (.putfield 194, 3) := by decide +kernel
theorem d_Mo_readsBorder_110 : decode prog_10_method_67_code 110 = .ok (.iconst 0, 1) := by decide +kernel
theorem d_Mo_readsBorder_111 : decode prog_10_method_67_code 111 = .ok (.ireturn, 1) := by decide +kernel
theorem d_Mo_readsBorder_112 : decode prog_10_method_67_code 112 = .ok (.aload_n 0, 1) := by decide +kernel
theorem d_Mo_readsBorder_113 : decode prog_10_method_67_code 113 = .ok (.iload_n 1, 1) := by decide +kernel
theorem d_Mo_readsBorder_114 : decode prog_10_method_67_code 114 = .ok (.iload_n 3, 1) := by decide +kernel
theorem d_Mo_readsBorder_115 : decode prog_10_method_67_code 115 = .ok (.iload 5, 2) := by decide +kernel
theorem d_Mo_readsBorder_117 : decode prog_10_method_67_code 117 = .ok (.iload 4, 2) := by decide +kernel
theorem d_Mo_readsBorder_119 : decode prog_10_method_67_code 119 = .ok (.invokevirtual 122, 3) := by decide +kernel
theorem d_Mo_readsBorder_122 : decode prog_10_method_67_code 122 = .ok (.ifCond .lt 7, 3) := by decide +kernel
theorem d_Mo_readsBorder_125 : decode prog_10_method_67_code 125 = .ok (.iconst 1, 1) := by decide +kernel
theorem d_Mo_readsBorder_126 : decode prog_10_method_67_code 126 = .ok (.goto 4, 3) := by decide +kernel
theorem d_Mo_readsBorder_129 : decode prog_10_method_67_code 129 = .ok (.iconst 0, 1) := by decide +kernel
theorem d_Mo_readsBorder_130 : decode prog_10_method_67_code 130 = .ok (.ireturn, 1) := by decide +kernel
theorem d_Mo_release_0 : decode prog_10_method_8_code 0 = .ok (.iconst 0, 1) := by decide +kernel
theorem d_Mo_release_1 : decode prog_10_method_8_code 1 = .ok (.istore_n 1, 1) := by decide +kernel
theorem d_Mo_release_2 : decode prog_10_method_8_code 2 = .ok (.iload_n 1, 1) := by decide +kernel
theorem d_Mo_release_3 : decode prog_10_method_8_code 3 = .ok (.sipush 1120, 3) := by decide +kernel
theorem d_Mo_release_6 : decode prog_10_method_8_code 6 = .ok (.if_icmp .ge 21, 3) := by decide +kernel
theorem d_Mo_release_9 : decode prog_10_method_8_code 9 = .ok (.aload_n 0, 1) := by decide +kernel
theorem d_Mo_release_10 : decode prog_10_method_8_code 10 = .ok (.getfield 7, 3) := by decide +kernel
theorem d_Mo_release_13 : decode prog_10_method_8_code 13 = .ok (.iload_n 1, 1) := by decide +kernel
theorem d_Mo_release_14 : decode prog_10_method_8_code 14 = .ok (.aload_n 0, 1) := by decide +kernel
theorem d_Mo_release_15 : decode prog_10_method_8_code 15 = .ok (.getfield 13, 3) := by decide +kernel
theorem d_Mo_release_18 : decode prog_10_method_8_code 18 = .ok (.iload_n 1, 1) := by decide +kernel
theorem d_Mo_release_19 : decode prog_10_method_8_code 19 = .ok (.iaload, 1) := by decide +kernel
theorem d_Mo_release_20 : decode prog_10_method_8_code 20 = .ok (.iastore, 1) := by decide +kernel
theorem d_Mo_release_21 : decode prog_10_method_8_code 21 = .ok (.iinc 1 1, 3) := by decide +kernel
theorem d_Mo_release_24 : decode prog_10_method_8_code 24 = .ok (.goto (-22), 3) := by decide +kernel
theorem d_Mo_release_27 : decode prog_10_method_8_code 27 = .ok (.return_, 1) := by decide +kernel
theorem d_Mo_exchange_0 : decode prog_10_method_9_code 0 = .ok (.iconst 0, 1) := by decide +kernel
theorem d_Mo_exchange_1 : decode prog_10_method_9_code 1 = .ok (.istore_n 1, 1) := by decide +kernel
theorem d_Mo_exchange_2 : decode prog_10_method_9_code 2 = .ok (.iload_n 1, 1) := by decide +kernel
theorem d_Mo_exchange_3 : decode prog_10_method_9_code 3 = .ok (.sipush 1120, 3) := by decide +kernel
theorem d_Mo_exchange_6 : decode prog_10_method_9_code 6 = .ok (.if_icmp .ge 35, 3) := by decide +kernel
theorem d_Mo_exchange_9 : decode prog_10_method_9_code 9 = .ok (.aload_n 0, 1) := by decide +kernel
theorem d_Mo_exchange_10 : decode prog_10_method_9_code 10 = .ok (.getfield 7, 3) := by decide +kernel
theorem d_Mo_exchange_13 : decode prog_10_method_9_code 13 = .ok (.iload_n 1, 1) := by decide +kernel
theorem d_Mo_exchange_14 : decode prog_10_method_9_code 14 = .ok (.iaload, 1) := by decide +kernel
theorem d_Mo_exchange_15 : decode prog_10_method_9_code 15 = .ok (.istore_n 2, 1) := by decide +kernel
theorem d_Mo_exchange_16 : decode prog_10_method_9_code 16 = .ok (.aload_n 0, 1) := by decide +kernel
theorem d_Mo_exchange_17 : decode prog_10_method_9_code 17 = .ok (.getfield 7, 3) := by decide +kernel
theorem d_Mo_exchange_20 : decode prog_10_method_9_code 20 = .ok (.iload_n 1, 1) := by decide +kernel
theorem d_Mo_exchange_21 : decode prog_10_method_9_code 21 = .ok (.aload_n 0, 1) := by decide +kernel
theorem d_Mo_exchange_22 : decode prog_10_method_9_code 22 = .ok (.getfield 13, 3) := by decide +kernel
theorem d_Mo_exchange_25 : decode prog_10_method_9_code 25 = .ok (.iload_n 1, 1) := by decide +kernel
theorem d_Mo_exchange_26 : decode prog_10_method_9_code 26 = .ok (.iaload, 1) := by decide +kernel
theorem d_Mo_exchange_27 : decode prog_10_method_9_code 27 = .ok (.iastore, 1) := by decide +kernel
theorem d_Mo_exchange_28 : decode prog_10_method_9_code 28 = .ok (.aload_n 0, 1) := by decide +kernel
theorem d_Mo_exchange_29 : decode prog_10_method_9_code 29 = .ok (.getfield 13, 3) := by decide +kernel
theorem d_Mo_exchange_32 : decode prog_10_method_9_code 32 = .ok (.iload_n 1, 1) := by decide +kernel
theorem d_Mo_exchange_33 : decode prog_10_method_9_code 33 = .ok (.iload_n 2, 1) := by decide +kernel
theorem d_Mo_exchange_34 : decode prog_10_method_9_code 34 = .ok (.iastore, 1) := by decide +kernel
theorem d_Mo_exchange_35 : decode prog_10_method_9_code 35 = .ok (.iinc 1 1, 3) := by decide +kernel
theorem d_Mo_exchange_38 : decode prog_10_method_9_code 38 = .ok (.goto (-36), 3) := by decide +kernel
theorem d_Mo_exchange_41 : decode prog_10_method_9_code 41 = .ok (.return_, 1) := by decide +kernel
theorem d_Mo_count_0 : decode prog_10_method_72_code 0 = .ok (.aload_n 0, 1) := by decide +kernel
theorem d_Mo_count_1 : decode prog_10_method_72_code 1 = .ok (.iconst 0, 1) := by decide +kernel
theorem d_Mo_count_2 : decode prog_10_method_72_code 2 = .ok (.putfield 37, 3) := by decide +kernel
theorem d_Mo_count_5 : decode prog_10_method_72_code 5 = .ok (.iload_n 1, 1) := by decide +kernel
theorem d_Mo_count_6 : decode prog_10_method_72_code 6 = .ok (.tableswitch 144 0 11 #[62, 67, 76, 76, 89, 89, 102, 111, 120, 129, 134, 139], 62) := by decide +kernel
theorem d_Mo_count_68 : decode prog_10_method_72_code 68 = .ok (.aload_n 0, 1) := by decide +kernel
theorem d_Mo_count_69 : decode prog_10_method_72_code 69 = .ok (.invokevirtual 188, 3) := by decide +kernel
theorem d_Mo_count_72 : decode prog_10_method_72_code 72 = .ok (.ireturn, 1) := by decide +kernel
theorem d_Mo_count_73 : decode prog_10_method_72_code 73 = .ok (.aload_n 0, 1) := by decide +kernel
theorem d_Mo_count_74 : decode prog_10_method_72_code 74 = .ok (.getfield 7, 3) := by decide +kernel
theorem d_Mo_count_77 : decode prog_10_method_72_code 77 = .ok (.sipush 238, 3) := by decide +kernel
theorem d_Mo_count_80 : decode prog_10_method_72_code 80 = .ok (.iaload, 1) := by decide +kernel
theorem d_Mo_count_81 : decode prog_10_method_72_code 81 = .ok (.ireturn, 1) := by decide +kernel
theorem d_Mo_count_82 : decode prog_10_method_72_code 82 = .ok (.aload_n 0, 1) := by decide +kernel
theorem d_Mo_count_83 : decode prog_10_method_72_code 83 = .ok (.getfield 7, 3) := by decide +kernel
theorem d_Mo_count_86 : decode prog_10_method_72_code 86 = .ok (.sipush 234, 3) := by decide +kernel
theorem d_Mo_count_89 : decode prog_10_method_72_code 89 = .ok (.iload_n 1, 1) := by decide +kernel
theorem d_Mo_count_90 : decode prog_10_method_72_code 90 = .ok (.iadd, 1) := by decide +kernel
theorem d_Mo_count_91 : decode prog_10_method_72_code 91 = .ok (.iconst 2, 1) := by decide +kernel
theorem d_Mo_count_92 : decode prog_10_method_72_code 92 = .ok (.isub, 1) := by decide +kernel
theorem d_Mo_count_93 : decode prog_10_method_72_code 93 = .ok (.iaload, 1) := by decide +kernel
theorem d_Mo_count_94 : decode prog_10_method_72_code 94 = .ok (.ireturn, 1) := by decide +kernel
theorem d_Mo_count_95 : decode prog_10_method_72_code 95 = .ok (.aload_n 0, 1) := by decide +kernel
theorem d_Mo_count_96 : decode prog_10_method_72_code 96 = .ok (.getfield 7, 3) := by decide +kernel
theorem d_Mo_count_99 : decode prog_10_method_72_code 99 = .ok (.sipush 236, 3) := by decide +kernel
theorem d_Mo_count_102 : decode prog_10_method_72_code 102 = .ok (.iload_n 1, 1) := by decide +kernel
theorem d_Mo_count_103 : decode prog_10_method_72_code 103 = .ok (.iadd, 1) := by decide +kernel
theorem d_Mo_count_104 : decode prog_10_method_72_code 104 = .ok (.iconst 4, 1) := by decide +kernel
theorem d_Mo_count_105 : decode prog_10_method_72_code 105 = .ok (.isub, 1) := by decide +kernel
theorem d_Mo_count_106 : decode prog_10_method_72_code 106 = .ok (.iaload, 1) := by decide +kernel
theorem d_Mo_count_107 : decode prog_10_method_72_code 107 = .ok (.ireturn, 1) := by decide +kernel
theorem d_Mo_count_108 : decode prog_10_method_72_code 108 = .ok (.aload_n 0, 1) := by decide +kernel
theorem d_Mo_count_109 : decode prog_10_method_72_code 109 = .ok (.getfield 7, 3) := by decide +kernel
theorem d_Mo_count_112 : decode prog_10_method_72_code 112 = .ok (.sipush 254, 3) := by decide +kernel
theorem d_Mo_count_115 : decode prog_10_method_72_code 115 = .ok (.iaload, 1) := by decide +kernel
theorem d_Mo_count_116 : decode prog_10_method_72_code 116 = .ok (.ireturn, 1) := by decide +kernel
theorem d_Mo_count_117 : decode prog_10_method_72_code 117 = .ok (.aload_n 0, 1) := by decide +kernel
theorem d_Mo_count_118 : decode prog_10_method_72_code 118 = .ok (.getfield 7, 3) := by decide +kernel
theorem d_Mo_count_121 : decode prog_10_method_72_code 121 = .ok (.sipush 239, 3) := by decide +kernel
theorem d_Mo_count_124 : decode prog_10_method_72_code 124 = .ok (.iaload, 1) := by decide +kernel
theorem d_Mo_count_125 : decode prog_10_method_72_code 125 = .ok (.ireturn, 1) := by decide +kernel
theorem d_Mo_count_126 : decode prog_10_method_72_code 126 = .ok (.aload_n 0, 1) := by decide +kernel
theorem d_Mo_count_127 : decode prog_10_method_72_code 127 = .ok (.getfield 7, 3) := by decide +kernel
theorem d_Mo_count_130 : decode prog_10_method_72_code 130 = .ok (.sipush 240, 3) := by decide +kernel
theorem d_Mo_count_133 : decode prog_10_method_72_code 133 = .ok (.iaload, 1) := by decide +kernel
theorem d_Mo_count_134 : decode prog_10_method_72_code 134 = .ok (.ireturn, 1) := by decide +kernel
theorem d_Mo_count_135 : decode prog_10_method_72_code 135 = .ok (.aload_n 0, 1) := by decide +kernel
theorem d_Mo_count_136 : decode prog_10_method_72_code 136 = .ok (.getfield 44, 3) := by decide +kernel
theorem d_Mo_count_139 : decode prog_10_method_72_code 139 = .ok (.ireturn, 1) := by decide +kernel
theorem d_Mo_count_140 : decode prog_10_method_72_code 140 = .ok (.aload_n 0, 1) := by decide +kernel
theorem d_Mo_count_141 : decode prog_10_method_72_code 141 = .ok (.getfield 191, 3) := by decide +kernel
theorem d_Mo_count_144 : decode prog_10_method_72_code 144 = .ok (.ireturn, 1) := by decide +kernel
theorem d_Mo_count_145 : decode prog_10_method_72_code 145 = .ok (.aload_n 0, 1) := by decide +kernel
theorem d_Mo_count_146 : decode prog_10_method_72_code 146 = .ok (.invokevirtual 230, 3) := by decide +kernel
theorem d_Mo_count_149 : decode prog_10_method_72_code 149 = .ok (.ireturn, 1) := by decide +kernel
theorem d_Mo_count_150 : decode prog_10_method_72_code 150 = .ok (.ldc 112, 2) := by decide +kernel
theorem d_Mo_count_152 : decode prog_10_method_72_code 152 = .ok (.ireturn, 1) := by decide +kernel
theorem d_Mo_snapshots_0 : decode prog_10_method_71_code 0 = .ok (.aload_n 0, 1) := by decide +kernel
theorem d_Mo_snapshots_1 : decode prog_10_method_71_code 1 = .ok (.getfield 7, 3) := by decide +kernel
theorem d_Mo_snapshots_4 : decode prog_10_method_71_code 4 = .ok (.sipush 415, 3) := by decide +kernel
theorem d_Mo_snapshots_7 : decode prog_10_method_71_code 7 = .ok (.iaload, 1) := by decide +kernel
theorem d_Mo_snapshots_8 : decode prog_10_method_71_code 8 = .ok (.aload_n 0, 1) := by decide +kernel
theorem d_Mo_snapshots_9 : decode prog_10_method_71_code 9 = .ok (.getfield 7, 3) := by decide +kernel
theorem d_Mo_snapshots_12 : decode prog_10_method_71_code 12 = .ok (.sipush 650, 3) := by decide +kernel
theorem d_Mo_snapshots_15 : decode prog_10_method_71_code 15 = .ok (.iaload, 1) := by decide +kernel
theorem d_Mo_snapshots_16 : decode prog_10_method_71_code 16 = .ok (.iadd, 1) := by decide +kernel
theorem d_Mo_snapshots_17 : decode prog_10_method_71_code 17 = .ok (.aload_n 0, 1) := by decide +kernel
theorem d_Mo_snapshots_18 : decode prog_10_method_71_code 18 = .ok (.getfield 7, 3) := by decide +kernel
theorem d_Mo_snapshots_21 : decode prog_10_method_71_code 21 = .ok (.sipush 885, 3) := by decide +kernel
theorem d_Mo_snapshots_24 : decode prog_10_method_71_code 24 = .ok (.iaload, 1) := by decide +kernel
theorem d_Mo_snapshots_25 : decode prog_10_method_71_code 25 = .ok (.iadd, 1) := by decide +kernel
theorem d_Mo_snapshots_26 : decode prog_10_method_71_code 26 = .ok (.ireturn, 1) := by decide +kernel
theorem d_Mo_axis_0 : decode prog_10_method_73_code 0 = .ok (.aload_n 0, 1) := by decide +kernel
theorem d_Mo_axis_1 : decode prog_10_method_73_code 1 = .ok (.iconst 0, 1) := by decide +kernel
theorem d_Mo_axis_2 : decode prog_10_method_73_code 2 = .ok (.putfield 37, 3) := by decide +kernel
theorem d_Mo_axis_5 : decode prog_10_method_73_code 5 = .ok (.iload_n 1, 1) := by decide +kernel
theorem d_Mo_axis_6 : decode prog_10_method_73_code 6 = .ok (.invokestatic 51, 3) := by decide +kernel
theorem d_Mo_axis_9 : decode prog_10_method_73_code 9 = .ok (.ifCond .eq 12, 3) := by decide +kernel
theorem d_Mo_axis_12 : decode prog_10_method_73_code 12 = .ok (.iload_n 2, 1) := by decide +kernel
theorem d_Mo_axis_13 : decode prog_10_method_73_code 13 = .ok (.iconst 0, 1) := by decide +kernel
theorem d_Mo_axis_14 : decode prog_10_method_73_code 14 = .ok (.iconst 5, 1) := by decide +kernel
theorem d_Mo_axis_15 : decode prog_10_method_73_code 15 = .ok (.invokestatic 47, 3) := by decide +kernel
theorem d_Mo_axis_18 : decode prog_10_method_73_code 18 = .ok (.ifCond .ne 6, 3) := by decide +kernel
theorem d_Mo_axis_21 : decode prog_10_method_73_code 21 = .ok (.ldc 112, 2) := by decide +kernel
theorem d_Mo_axis_23 : decode prog_10_method_73_code 23 = .ok (.ireturn, 1) := by decide +kernel
theorem d_Mo_axis_24 : decode prog_10_method_73_code 24 = .ok (.aload_n 0, 1) := by decide +kernel
theorem d_Mo_axis_25 : decode prog_10_method_73_code 25 = .ok (.invokevirtual 154, 3) := by decide +kernel
theorem d_Mo_axis_28 : decode prog_10_method_73_code 28 = .ok (.iload_n 2, 1) := by decide +kernel
theorem d_Mo_axis_29 : decode prog_10_method_73_code 29 = .ok (.tableswitch 70 0 4 #[35, 41, 49, 56, 63], 35) := by decide +kernel
theorem d_Mo_axis_64 : decode prog_10_method_73_code 64 = .ok (.aload_n 0, 1) := by decide +kernel
theorem d_Mo_axis_65 : decode prog_10_method_73_code 65 = .ok (.iload_n 1, 1) := by decide +kernel
theorem d_Mo_axis_66 : decode prog_10_method_73_code 66 = .ok (.invokevirtual 55, 3) := by decide +kernel
theorem d_Mo_axis_69 : decode prog_10_method_73_code 69 = .ok (.ireturn, 1) := by decide +kernel
theorem d_Mo_axis_70 : decode prog_10_method_73_code 70 = .ok (.aload_n 0, 1) := by decide +kernel
theorem d_Mo_axis_71 : decode prog_10_method_73_code 71 = .ok (.iload_n 1, 1) := by decide +kernel
theorem d_Mo_axis_72 : decode prog_10_method_73_code 72 = .ok (.invokevirtual 233, 3) := by decide +kernel
theorem d_Mo_axis_75 : decode prog_10_method_73_code 75 = .ok (.iconst 1, 1) := by decide +kernel
theorem d_Mo_axis_76 : decode prog_10_method_73_code 76 = .ok (.iadd, 1) := by decide +kernel
theorem d_Mo_axis_77 : decode prog_10_method_73_code 77 = .ok (.ireturn, 1) := by decide +kernel
theorem d_Mo_axis_78 : decode prog_10_method_73_code 78 = .ok (.aload_n 0, 1) := by decide +kernel
theorem d_Mo_axis_79 : decode prog_10_method_73_code 79 = .ok (.getfield 22, 3) := by decide +kernel
theorem d_Mo_axis_82 : decode prog_10_method_73_code 82 = .ok (.iload_n 1, 1) := by decide +kernel
theorem d_Mo_axis_83 : decode prog_10_method_73_code 83 = .ok (.iaload, 1) := by decide +kernel
theorem d_Mo_axis_84 : decode prog_10_method_73_code 84 = .ok (.ireturn, 1) := by decide +kernel
theorem d_Mo_axis_85 : decode prog_10_method_73_code 85 = .ok (.aload_n 0, 1) := by decide +kernel
theorem d_Mo_axis_86 : decode prog_10_method_73_code 86 = .ok (.getfield 25, 3) := by decide +kernel
theorem d_Mo_axis_89 : decode prog_10_method_73_code 89 = .ok (.iload_n 1, 1) := by decide +kernel
theorem d_Mo_axis_90 : decode prog_10_method_73_code 90 = .ok (.iaload, 1) := by decide +kernel
theorem d_Mo_axis_91 : decode prog_10_method_73_code 91 = .ok (.ireturn, 1) := by decide +kernel
theorem d_Mo_axis_92 : decode prog_10_method_73_code 92 = .ok (.aload_n 0, 1) := by decide +kernel
theorem d_Mo_axis_93 : decode prog_10_method_73_code 93 = .ok (.getfield 28, 3) := by decide +kernel
theorem d_Mo_axis_96 : decode prog_10_method_73_code 96 = .ok (.iload_n 1, 1) := by decide +kernel
theorem d_Mo_axis_97 : decode prog_10_method_73_code 97 = .ok (.iaload, 1) := by decide +kernel
theorem d_Mo_axis_98 : decode prog_10_method_73_code 98 = .ok (.ireturn, 1) := by decide +kernel
theorem d_Mo_axis_99 : decode prog_10_method_73_code 99 = .ok (.aload_n 0, 1) := by decide +kernel
theorem d_Mo_axis_100 : decode prog_10_method_73_code 100 = .ok (.getfield 31, 3) := by decide +kernel
theorem d_Mo_axis_103 : decode prog_10_method_73_code 103 = .ok (.iload_n 1, 1) := by decide +kernel
theorem d_Mo_axis_104 : decode prog_10_method_73_code 104 = .ok (.iaload, 1) := by decide +kernel
theorem d_Mo_axis_105 : decode prog_10_method_73_code 105 = .ok (.ireturn, 1) := by decide +kernel
theorem d_Mo_stickyMany_0 : decode prog_10_method_20_code 0 = .ok (.iconst 0, 1) := by decide +kernel
theorem d_Mo_stickyMany_1 : decode prog_10_method_20_code 1 = .ok (.istore_n 2, 1) := by decide +kernel
theorem d_Mo_stickyMany_2 : decode prog_10_method_20_code 2 = .ok (.iconst 0, 1) := by decide +kernel
theorem d_Mo_stickyMany_3 : decode prog_10_method_20_code 3 = .ok (.istore_n 3, 1) := by decide +kernel
theorem d_Mo_stickyMany_4 : decode prog_10_method_20_code 4 = .ok (.iload_n 3, 1) := by decide +kernel
theorem d_Mo_stickyMany_5 : decode prog_10_method_20_code 5 = .ok (.aload_n 0, 1) := by decide +kernel
theorem d_Mo_stickyMany_6 : decode prog_10_method_20_code 6 = .ok (.iload_n 1, 1) := by decide +kernel
theorem d_Mo_stickyMany_7 : decode prog_10_method_20_code 7 = .ok (.invokevirtual 55, 3) := by decide +kernel
theorem d_Mo_stickyMany_10 : decode prog_10_method_20_code 10 = .ok (.if_icmp .ge 27, 3) := by decide +kernel
theorem d_Mo_stickyMany_13 : decode prog_10_method_20_code 13 = .ok (.iload_n 2, 1) := by decide +kernel
theorem d_Mo_stickyMany_14 : decode prog_10_method_20_code 14 = .ok (.aload_n 0, 1) := by decide +kernel
theorem d_Mo_stickyMany_15 : decode prog_10_method_20_code 15 = .ok (.iload_n 1, 1) := by decide +kernel
theorem d_Mo_stickyMany_16 : decode prog_10_method_20_code 16 = .ok (.iload_n 3, 1) := by decide +kernel
theorem d_Mo_stickyMany_17 : decode prog_10_method_20_code 17 = .ok (.iconst 1, 1) := by decide +kernel
theorem d_Mo_stickyMany_18 : decode prog_10_method_20_code 18 = .ok (.invokevirtual 63, 3) := by decide +kernel
theorem d_Mo_stickyMany_21 : decode prog_10_method_20_code 21 = .ok (.ifCond .ne 7, 3) := by decide +kernel
theorem d_Mo_stickyMany_24 : decode prog_10_method_20_code 24 = .ok (.iconst 1, 1) := by decide +kernel
theorem d_Mo_stickyMany_25 : decode prog_10_method_20_code 25 = .ok (.goto 4, 3) := by decide +kernel
theorem d_Mo_stickyMany_28 : decode prog_10_method_20_code 28 = .ok (.iconst 0, 1) := by decide +kernel
theorem d_Mo_stickyMany_29 : decode prog_10_method_20_code 29 = .ok (.iadd, 1) := by decide +kernel
theorem d_Mo_stickyMany_30 : decode prog_10_method_20_code 30 = .ok (.istore_n 2, 1) := by decide +kernel
theorem d_Mo_stickyMany_31 : decode prog_10_method_20_code 31 = .ok (.iinc 3 1, 3) := by decide +kernel
theorem d_Mo_stickyMany_34 : decode prog_10_method_20_code 34 = .ok (.goto (-30), 3) := by decide +kernel
theorem d_Mo_stickyMany_37 : decode prog_10_method_20_code 37 = .ok (.iload_n 2, 1) := by decide +kernel
theorem d_Mo_stickyMany_38 : decode prog_10_method_20_code 38 = .ok (.ireturn, 1) := by decide +kernel
theorem d_Mo_border_0 : decode prog_10_method_74_code 0 = .ok (.aload_n 0, 1) := by decide +kernel
theorem d_Mo_border_1 : decode prog_10_method_74_code 1 = .ok (.iconst 0, 1) := by decide +kernel
theorem d_Mo_border_2 : decode prog_10_method_74_code 2 = .ok (.putfield 37, 3) := by decide +kernel
theorem d_Mo_border_5 : decode prog_10_method_74_code 5 = .ok (.iload_n 1, 1) := by decide +kernel
theorem d_Mo_border_6 : decode prog_10_method_74_code 6 = .ok (.invokestatic 51, 3) := by decide +kernel
theorem d_Mo_border_9 : decode prog_10_method_74_code 9 = .ok (.ifCond .eq 16, 3) := by decide +kernel
theorem d_Mo_border_12 : decode prog_10_method_74_code 12 = .ok (.iload_n 2, 1) := by decide +kernel
theorem d_Mo_border_13 : decode prog_10_method_74_code 13 = .ok (.ifCond .lt 12, 3) := by decide +kernel
theorem d_Mo_border_16 : decode prog_10_method_74_code 16 = .ok (.iload_n 3, 1) := by decide +kernel
theorem d_Mo_border_17 : decode prog_10_method_74_code 17 = .ok (.iconst 0, 1) := by decide +kernel
theorem d_Mo_border_18 : decode prog_10_method_74_code 18 = .ok (.iconst 2, 1) := by decide +kernel
theorem d_Mo_border_19 : decode prog_10_method_74_code 19 = .ok (.invokestatic 47, 3) := by decide +kernel
theorem d_Mo_border_22 : decode prog_10_method_74_code 22 = .ok (.ifCond .ne 6, 3) := by decide +kernel
theorem d_Mo_border_25 : decode prog_10_method_74_code 25 = .ok (.ldc 112, 2) := by decide +kernel
theorem d_Mo_border_27 : decode prog_10_method_74_code 27 = .ok (.ireturn, 1) := by decide +kernel
theorem d_Mo_border_28 : decode prog_10_method_74_code 28 = .ok (.iload_n 2, 1) := by decide +kernel
theorem d_Mo_border_29 : decode prog_10_method_74_code 29 = .ok (.aload_n 0, 1) := by decide +kernel
theorem d_Mo_border_30 : decode prog_10_method_74_code 30 = .ok (.iload_n 1, 1) := by decide +kernel
theorem d_Mo_border_31 : decode prog_10_method_74_code 31 = .ok (.invokevirtual 55, 3) := by decide +kernel
theorem d_Mo_border_34 : decode prog_10_method_74_code 34 = .ok (.if_icmp .ge 13, 3) := by decide +kernel
theorem d_Mo_border_37 : decode prog_10_method_74_code 37 = .ok (.aload_n 0, 1) := by decide +kernel
theorem d_Mo_border_38 : decode prog_10_method_74_code 38 = .ok (.iload_n 1, 1) := by decide +kernel
theorem d_Mo_border_39 : decode prog_10_method_74_code 39 = .ok (.iload_n 2, 1) := by decide +kernel
theorem d_Mo_border_40 : decode prog_10_method_74_code 40 = .ok (.iload_n 3, 1) := by decide +kernel
theorem d_Mo_border_41 : decode prog_10_method_74_code 41 = .ok (.invokevirtual 63, 3) := by decide +kernel
theorem d_Mo_border_44 : decode prog_10_method_74_code 44 = .ok (.goto 5, 3) := by decide +kernel
theorem d_Mo_border_47 : decode prog_10_method_74_code 47 = .ok (.ldc 67, 2) := by decide +kernel
theorem d_Mo_border_49 : decode prog_10_method_74_code 49 = .ok (.ireturn, 1) := by decide +kernel
theorem d_Mo_region_0 : decode prog_10_method_75_code 0 = .ok (.aload_n 0, 1) := by decide +kernel
theorem d_Mo_region_1 : decode prog_10_method_75_code 1 = .ok (.iconst 0, 1) := by decide +kernel
theorem d_Mo_region_2 : decode prog_10_method_75_code 2 = .ok (.putfield 37, 3) := by decide +kernel
theorem d_Mo_region_5 : decode prog_10_method_75_code 5 = .ok (.aload_n 0, 1) := by decide +kernel
theorem d_Mo_region_6 : decode prog_10_method_75_code 6 = .ok (.iload_n 1, 1) := by decide +kernel
theorem d_Mo_region_7 : decode prog_10_method_75_code 7 = .ok (.iload_n 2, 1) := by decide +kernel
theorem d_Mo_region_8 : decode prog_10_method_75_code 8 = .ok (.invokevirtual 137, 3) := by decide +kernel
theorem d_Mo_region_11 : decode prog_10_method_75_code 11 = .ok (.ifCond .eq 12, 3) := by decide +kernel
theorem d_Mo_region_14 : decode prog_10_method_75_code 14 = .ok (.iload_n 3, 1) := by decide +kernel
theorem d_Mo_region_15 : decode prog_10_method_75_code 15 = .ok (.iconst 0, 1) := by decide +kernel
theorem d_Mo_region_16 : decode prog_10_method_75_code 16 = .ok (.iconst 3, 1) := by decide +kernel
theorem d_Mo_region_17 : decode prog_10_method_75_code 17 = .ok (.invokestatic 47, 3) := by decide +kernel
theorem d_Mo_region_20 : decode prog_10_method_75_code 20 = .ok (.ifCond .ne 6, 3) := by decide +kernel
theorem d_Mo_region_23 : decode prog_10_method_75_code 23 = .ok (.ldc 112, 2) := by decide +kernel
theorem d_Mo_region_25 : decode prog_10_method_75_code 25 = .ok (.ireturn, 1) := by decide +kernel
theorem d_Mo_region_26 : decode prog_10_method_75_code 26 = .ok (.aload_n 0, 1) := by decide +kernel
theorem d_Mo_region_27 : decode prog_10_method_75_code 27 = .ok (.getfield 7, 3) := by decide +kernel
theorem d_Mo_region_30 : decode prog_10_method_75_code 30 = .ok (.iload_n 1, 1) := by decide +kernel
theorem d_Mo_region_31 : decode prog_10_method_75_code 31 = .ok (.iload_n 2, 1) := by decide +kernel
theorem d_Mo_region_32 : decode prog_10_method_75_code 32 = .ok (.invokestatic 59, 3) := by decide +kernel
theorem d_Mo_region_35 : decode prog_10_method_75_code 35 = .ok (.iload_n 3, 1) := by decide +kernel
theorem d_Mo_region_36 : decode prog_10_method_75_code 36 = .ok (.iadd, 1) := by decide +kernel
theorem d_Mo_region_37 : decode prog_10_method_75_code 37 = .ok (.iaload, 1) := by decide +kernel
theorem d_Mo_region_38 : decode prog_10_method_75_code 38 = .ok (.istore 4, 2) := by decide +kernel
theorem d_Mo_region_40 : decode prog_10_method_75_code 40 = .ok (.iload_n 3, 1) := by decide +kernel
theorem d_Mo_region_41 : decode prog_10_method_75_code 41 = .ok (.iconst 3, 1) := by decide +kernel
theorem d_Mo_region_42 : decode prog_10_method_75_code 42 = .ok (.if_icmp .ne 14, 3) := by decide +kernel
theorem d_Mo_region_45 : decode prog_10_method_75_code 45 = .ok (.iload 4, 2) := by decide +kernel
theorem d_Mo_region_47 : decode prog_10_method_75_code 47 = .ok (.iconst (-1), 1) := by decide +kernel
theorem d_Mo_region_48 : decode prog_10_method_75_code 48 = .ok (.if_icmp .ne 8, 3) := by decide +kernel
theorem d_Mo_region_51 : decode prog_10_method_75_code 51 = .ok (.ldc 67, 2) := by decide +kernel
theorem d_Mo_region_53 : decode prog_10_method_75_code 53 = .ok (.goto 5, 3) := by decide +kernel
theorem d_Mo_region_56 : decode prog_10_method_75_code 56 = .ok (.iload 4, 2) := by decide +kernel
theorem d_Mo_region_58 : decode prog_10_method_75_code 58 = .ok (.ireturn, 1) := by decide +kernel
theorem d_Mo_operator_0 : decode prog_10_method_76_code 0 = .ok (.aload_n 0, 1) := by decide +kernel
theorem d_Mo_operator_1 : decode prog_10_method_76_code 1 = .ok (.iconst 0, 1) := by decide +kernel
theorem d_Mo_operator_2 : decode prog_10_method_76_code 2 = .ok (.putfield 37, 3) := by decide +kernel
theorem d_Mo_operator_5 : decode prog_10_method_76_code 5 = .ok (.iload_n 1, 1) := by decide +kernel
theorem d_Mo_operator_6 : decode prog_10_method_76_code 6 = .ok (.invokestatic 134, 3) := by decide +kernel
theorem d_Mo_operator_9 : decode prog_10_method_76_code 9 = .ok (.ifCond .eq 12, 3) := by decide +kernel
theorem d_Mo_operator_12 : decode prog_10_method_76_code 12 = .ok (.iload_n 2, 1) := by decide +kernel
theorem d_Mo_operator_13 : decode prog_10_method_76_code 13 = .ok (.iconst 0, 1) := by decide +kernel
theorem d_Mo_operator_14 : decode prog_10_method_76_code 14 = .ok (.iconst 3, 1) := by decide +kernel
theorem d_Mo_operator_15 : decode prog_10_method_76_code 15 = .ok (.invokestatic 47, 3) := by decide +kernel
theorem d_Mo_operator_18 : decode prog_10_method_76_code 18 = .ok (.ifCond .ne 6, 3) := by decide +kernel
theorem d_Mo_operator_21 : decode prog_10_method_76_code 21 = .ok (.ldc 112, 2) := by decide +kernel
theorem d_Mo_operator_23 : decode prog_10_method_76_code 23 = .ok (.ireturn, 1) := by decide +kernel
theorem d_Mo_operator_24 : decode prog_10_method_76_code 24 = .ok (.iload_n 2, 1) := by decide +kernel
theorem d_Mo_operator_25 : decode prog_10_method_76_code 25 = .ok (.iconst 2, 1) := by decide +kernel
theorem d_Mo_operator_26 : decode prog_10_method_76_code 26 = .ok (.if_icmp .ne 11, 3) := by decide +kernel
theorem d_Mo_operator_29 : decode prog_10_method_76_code 29 = .ok (.aload_n 0, 1) := by decide +kernel
theorem d_Mo_operator_30 : decode prog_10_method_76_code 30 = .ok (.iload_n 1, 1) := by decide +kernel
theorem d_Mo_operator_31 : decode prog_10_method_76_code 31 = .ok (.invokevirtual 151, 3) := by decide +kernel
theorem d_Mo_operator_34 : decode prog_10_method_76_code 34 = .ok (.goto 26, 3) := by decide +kernel
theorem d_Mo_operator_37 : decode prog_10_method_76_code 37 = .ok (.aload_n 0, 1) := by decide +kernel
theorem d_Mo_operator_38 : decode prog_10_method_76_code 38 = .ok (.getfield 7, 3) := by decide +kernel
theorem d_Mo_operator_41 : decode prog_10_method_76_code 41 = .ok (.sipush 241, 3) := by decide +kernel
theorem d_Mo_operator_44 : decode prog_10_method_76_code 44 = .ok (.iconst 3, 1) := by decide +kernel
theorem d_Mo_operator_45 : decode prog_10_method_76_code 45 = .ok (.iload_n 1, 1) := by decide +kernel
theorem d_Mo_operator_46 : decode prog_10_method_76_code 46 = .ok (.imul, 1) := by decide +kernel
theorem d_Mo_operator_47 : decode prog_10_method_76_code 47 = .ok (.iadd, 1) := by decide +kernel
theorem d_Mo_operator_48 : decode prog_10_method_76_code 48 = .ok (.iload_n 2, 1) := by decide +kernel
theorem d_Mo_operator_49 : decode prog_10_method_76_code 49 = .ok (.iconst 3, 1) := by decide +kernel
theorem d_Mo_operator_50 : decode prog_10_method_76_code 50 = .ok (.if_icmp .ne 7, 3) := by decide +kernel
theorem d_Mo_operator_53 : decode prog_10_method_76_code 53 = .ok (.iconst 2, 1) := by decide +kernel
theorem d_Mo_operator_54 : decode prog_10_method_76_code 54 = .ok (.goto 4, 3) := by decide +kernel
theorem d_Mo_operator_57 : decode prog_10_method_76_code 57 = .ok (.iload_n 2, 1) := by decide +kernel
theorem d_Mo_operator_58 : decode prog_10_method_76_code 58 = .ok (.iadd, 1) := by decide +kernel
theorem d_Mo_operator_59 : decode prog_10_method_76_code 59 = .ok (.iaload, 1) := by decide +kernel
theorem d_Mo_operator_60 : decode prog_10_method_76_code 60 = .ok (.ireturn, 1) := by decide +kernel
theorem d_Mo_account_0 : decode prog_10_method_77_code 0 = .ok (.aload_n 0, 1) := by decide +kernel
theorem d_Mo_account_1 : decode prog_10_method_77_code 1 = .ok (.iconst 0, 1) := by decide +kernel
theorem d_Mo_account_2 : decode prog_10_method_77_code 2 = .ok (.putfield 37, 3) := by decide +kernel
theorem d_Mo_account_5 : decode prog_10_method_77_code 5 = .ok (.iload_n 1, 1) := by decide +kernel
theorem d_Mo_account_6 : decode prog_10_method_77_code 6 = .ok (.iconst 0, 1) := by decide +kernel
theorem d_Mo_account_7 : decode prog_10_method_77_code 7 = .ok (.iconst 4, 1) := by decide +kernel
theorem d_Mo_account_8 : decode prog_10_method_77_code 8 = .ok (.invokestatic 47, 3) := by decide +kernel
theorem d_Mo_account_11 : decode prog_10_method_77_code 11 = .ok (.ifCond .ne 6, 3) := by decide +kernel
theorem d_Mo_account_14 : decode prog_10_method_77_code 14 = .ok (.ldc 112, 2) := by decide +kernel
theorem d_Mo_account_16 : decode prog_10_method_77_code 16 = .ok (.ireturn, 1) := by decide +kernel
theorem d_Mo_account_17 : decode prog_10_method_77_code 17 = .ok (.iload_n 1, 1) := by decide +kernel
theorem d_Mo_account_18 : decode prog_10_method_77_code 18 = .ok (.iconst 4, 1) := by decide +kernel
theorem d_Mo_account_19 : decode prog_10_method_77_code 19 = .ok (.if_icmp .ge 16, 3) := by decide +kernel
theorem d_Mo_account_22 : decode prog_10_method_77_code 22 = .ok (.aload_n 0, 1) := by decide +kernel
theorem d_Mo_account_23 : decode prog_10_method_77_code 23 = .ok (.getfield 7, 3) := by decide +kernel
theorem d_Mo_account_26 : decode prog_10_method_77_code 26 = .ok (.sipush 250, 3) := by decide +kernel
theorem d_Mo_account_29 : decode prog_10_method_77_code 29 = .ok (.iload_n 1, 1) := by decide +kernel
theorem d_Mo_account_30 : decode prog_10_method_77_code 30 = .ok (.iadd, 1) := by decide +kernel
theorem d_Mo_account_31 : decode prog_10_method_77_code 31 = .ok (.iaload, 1) := by decide +kernel
theorem d_Mo_account_32 : decode prog_10_method_77_code 32 = .ok (.goto 38, 3) := by decide +kernel
theorem d_Mo_account_35 : decode prog_10_method_77_code 35 = .ok (.aload_n 0, 1) := by decide +kernel
theorem d_Mo_account_36 : decode prog_10_method_77_code 36 = .ok (.getfield 7, 3) := by decide +kernel
theorem d_Mo_account_39 : decode prog_10_method_77_code 39 = .ok (.sipush 250, 3) := by decide +kernel
theorem d_Mo_account_42 : decode prog_10_method_77_code 42 = .ok (.iaload, 1) := by decide +kernel
theorem d_Mo_account_43 : decode prog_10_method_77_code 43 = .ok (.aload_n 0, 1) := by decide +kernel
theorem d_Mo_account_44 : decode prog_10_method_77_code 44 = .ok (.getfield 7, 3) := by decide +kernel
theorem d_Mo_account_47 : decode prog_10_method_77_code 47 = .ok (.sipush 251, 3) := by decide +kernel
theorem d_Mo_account_50 : decode prog_10_method_77_code 50 = .ok (.iaload, 1) := by decide +kernel
theorem d_Mo_account_51 : decode prog_10_method_77_code 51 = .ok (.iadd, 1) := by decide +kernel
theorem d_Mo_account_52 : decode prog_10_method_77_code 52 = .ok (.aload_n 0, 1) := by decide +kernel
theorem d_Mo_account_53 : decode prog_10_method_77_code 53 = .ok (.getfield 7, 3) := by decide +kernel
theorem d_Mo_account_56 : decode prog_10_method_77_code 56 = .ok (.sipush 252, 3) := by decide +kernel
theorem d_Mo_account_59 : decode prog_10_method_77_code 59 = .ok (.iaload, 1) := by decide +kernel
theorem d_Mo_account_60 : decode prog_10_method_77_code 60 = .ok (.iadd, 1) := by decide +kernel
theorem d_Mo_account_61 : decode prog_10_method_77_code 61 = .ok (.aload_n 0, 1) := by decide +kernel
theorem d_Mo_account_62 : decode prog_10_method_77_code 62 = .ok (.getfield 7, 3) := by decide +kernel
theorem d_Mo_account_65 : decode prog_10_method_77_code 65 = .ok (.sipush 253, 3) := by decide +kernel
theorem d_Mo_account_68 : decode prog_10_method_77_code 68 = .ok (.iaload, 1) := by decide +kernel
theorem d_Mo_account_69 : decode prog_10_method_77_code 69 = .ok (.iadd, 1) := by decide +kernel
theorem d_Mo_account_70 : decode prog_10_method_77_code 70 = .ok (.ireturn, 1) := by decide +kernel
theorem d_Mo_gain_0 : decode prog_10_method_78_code 0 = .ok (.aload_n 0, 1) := by decide +kernel
theorem d_Mo_gain_1 : decode prog_10_method_78_code 1 = .ok (.iconst 0, 1) := by decide +kernel
theorem d_Mo_gain_2 : decode prog_10_method_78_code 2 = .ok (.putfield 37, 3) := by decide +kernel
theorem d_Mo_gain_5 : decode prog_10_method_78_code 5 = .ok (.iload_n 1, 1) := by decide +kernel
theorem d_Mo_gain_6 : decode prog_10_method_78_code 6 = .ok (.iconst 0, 1) := by decide +kernel
theorem d_Mo_gain_7 : decode prog_10_method_78_code 7 = .ok (.iconst 2, 1) := by decide +kernel
theorem d_Mo_gain_8 : decode prog_10_method_78_code 8 = .ok (.invokestatic 47, 3) := by decide +kernel
theorem d_Mo_gain_11 : decode prog_10_method_78_code 11 = .ok (.ifCond .eq 12, 3) := by decide +kernel
theorem d_Mo_gain_14 : decode prog_10_method_78_code 14 = .ok (.iload_n 2, 1) := by decide +kernel
theorem d_Mo_gain_15 : decode prog_10_method_78_code 15 = .ok (.iconst 0, 1) := by decide +kernel
theorem d_Mo_gain_16 : decode prog_10_method_78_code 16 = .ok (.iconst 2, 1) := by decide +kernel
theorem d_Mo_gain_17 : decode prog_10_method_78_code 17 = .ok (.invokestatic 47, 3) := by decide +kernel
theorem d_Mo_gain_20 : decode prog_10_method_78_code 20 = .ok (.ifCond .ne 6, 3) := by decide +kernel
theorem d_Mo_gain_23 : decode prog_10_method_78_code 23 = .ok (.ldc 112, 2) := by decide +kernel
theorem d_Mo_gain_25 : decode prog_10_method_78_code 25 = .ok (.ireturn, 1) := by decide +kernel
theorem d_Mo_gain_26 : decode prog_10_method_78_code 26 = .ok (.aload_n 0, 1) := by decide +kernel
theorem d_Mo_gain_27 : decode prog_10_method_78_code 27 = .ok (.invokevirtual 154, 3) := by decide +kernel
theorem d_Mo_gain_30 : decode prog_10_method_78_code 30 = .ok (.iload_n 2, 1) := by decide +kernel
theorem d_Mo_gain_31 : decode prog_10_method_78_code 31 = .ok (.ifCond .ne 11, 3) := by decide +kernel
theorem d_Mo_gain_34 : decode prog_10_method_78_code 34 = .ok (.aload_n 0, 1) := by decide +kernel
theorem d_Mo_gain_35 : decode prog_10_method_78_code 35 = .ok (.iload_n 1, 1) := by decide +kernel
theorem d_Mo_gain_36 : decode prog_10_method_78_code 36 = .ok (.invokevirtual 157, 3) := by decide +kernel
theorem d_Mo_gain_39 : decode prog_10_method_78_code 39 = .ok (.goto 20, 3) := by decide +kernel
theorem d_Mo_gain_42 : decode prog_10_method_78_code 42 = .ok (.iload_n 2, 1) := by decide +kernel
theorem d_Mo_gain_43 : decode prog_10_method_78_code 43 = .ok (.iconst 1, 1) := by decide +kernel
theorem d_Mo_gain_44 : decode prog_10_method_78_code 44 = .ok (.if_icmp .ne 11, 3) := by decide +kernel
theorem d_Mo_gain_47 : decode prog_10_method_78_code 47 = .ok (.aload_n 0, 1) := by decide +kernel
theorem d_Mo_gain_48 : decode prog_10_method_78_code 48 = .ok (.iload_n 1, 1) := by decide +kernel
theorem d_Mo_gain_49 : decode prog_10_method_78_code 49 = .ok (.invokevirtual 78, 3) := by decide +kernel
theorem d_Mo_gain_52 : decode prog_10_method_78_code 52 = .ok (.goto 7, 3) := by decide +kernel
theorem d_Mo_gain_55 : decode prog_10_method_78_code 55 = .ok (.aload_n 0, 1) := by decide +kernel
theorem d_Mo_gain_56 : decode prog_10_method_78_code 56 = .ok (.invokevirtual 81, 3) := by decide +kernel
theorem d_Mo_gain_59 : decode prog_10_method_78_code 59 = .ok (.ireturn, 1) := by decide +kernel
theorem d_Mo_trail_0 : decode prog_10_method_79_code 0 = .ok (.aload_n 0, 1) := by decide +kernel
theorem d_Mo_trail_1 : decode prog_10_method_79_code 1 = .ok (.iconst 0, 1) := by decide +kernel
theorem d_Mo_trail_2 : decode prog_10_method_79_code 2 = .ok (.putfield 37, 3) := by decide +kernel
theorem d_Mo_trail_5 : decode prog_10_method_79_code 5 = .ok (.iload_n 1, 1) := by decide +kernel
theorem d_Mo_trail_6 : decode prog_10_method_79_code 6 = .ok (.ifCond .lt 13, 3) := by decide +kernel
theorem d_Mo_trail_9 : decode prog_10_method_79_code 9 = .ok (.iload_n 2, 1) := by decide +kernel
theorem d_Mo_trail_10 : decode prog_10_method_79_code 10 = .ok (.iconst 0, 1) := by decide +kernel
theorem d_Mo_trail_11 : decode prog_10_method_79_code 11 = .ok (.bipush 7, 2) := by decide +kernel
theorem d_Mo_trail_13 : decode prog_10_method_79_code 13 = .ok (.invokestatic 47, 3) := by decide +kernel
theorem d_Mo_trail_16 : decode prog_10_method_79_code 16 = .ok (.ifCond .ne 6, 3) := by decide +kernel
theorem d_Mo_trail_19 : decode prog_10_method_79_code 19 = .ok (.ldc 112, 2) := by decide +kernel
theorem d_Mo_trail_21 : decode prog_10_method_79_code 21 = .ok (.ireturn, 1) := by decide +kernel
theorem d_Mo_trail_22 : decode prog_10_method_79_code 22 = .ok (.iload_n 1, 1) := by decide +kernel
theorem d_Mo_trail_23 : decode prog_10_method_79_code 23 = .ok (.aload_n 0, 1) := by decide +kernel
theorem d_Mo_trail_24 : decode prog_10_method_79_code 24 = .ok (.getfield 7, 3) := by decide +kernel
theorem d_Mo_trail_27 : decode prog_10_method_79_code 27 = .ok (.sipush 254, 3) := by decide +kernel
theorem d_Mo_trail_30 : decode prog_10_method_79_code 30 = .ok (.iaload, 1) := by decide +kernel
theorem d_Mo_trail_31 : decode prog_10_method_79_code 31 = .ok (.if_icmp .ge 32, 3) := by decide +kernel
theorem d_Mo_trail_34 : decode prog_10_method_79_code 34 = .ok (.aload_n 0, 1) := by decide +kernel
theorem d_Mo_trail_35 : decode prog_10_method_79_code 35 = .ok (.getfield 7, 3) := by decide +kernel
theorem d_Mo_trail_38 : decode prog_10_method_79_code 38 = .ok (.sipush 255, 3) := by decide +kernel
theorem d_Mo_trail_41 : decode prog_10_method_79_code 41 = .ok (.bipush 8, 2) := by decide +kernel
theorem d_Mo_trail_43 : decode prog_10_method_79_code 43 = .ok (.aload_n 0, 1) := by decide +kernel
theorem d_Mo_trail_44 : decode prog_10_method_79_code 44 = .ok (.getfield 7, 3) := by decide +kernel
theorem d_Mo_trail_47 : decode prog_10_method_79_code 47 = .ok (.sipush 254, 3) := by decide +kernel
theorem d_Mo_trail_50 : decode prog_10_method_79_code 50 = .ok (.iaload, 1) := by decide +kernel
theorem d_Mo_trail_51 : decode prog_10_method_79_code 51 = .ok (.iconst 1, 1) := by decide +kernel
theorem d_Mo_trail_52 : decode prog_10_method_79_code 52 = .ok (.isub, 1) := by decide +kernel
theorem d_Mo_trail_53 : decode prog_10_method_79_code 53 = .ok (.iload_n 1, 1) := by decide +kernel
theorem d_Mo_trail_54 : decode prog_10_method_79_code 54 = .ok (.isub, 1) := by decide +kernel
theorem d_Mo_trail_55 : decode prog_10_method_79_code 55 = .ok (.imul, 1) := by decide +kernel
theorem d_Mo_trail_56 : decode prog_10_method_79_code 56 = .ok (.iadd, 1) := by decide +kernel
theorem d_Mo_trail_57 : decode prog_10_method_79_code 57 = .ok (.iload_n 2, 1) := by decide +kernel
theorem d_Mo_trail_58 : decode prog_10_method_79_code 58 = .ok (.iadd, 1) := by decide +kernel
theorem d_Mo_trail_59 : decode prog_10_method_79_code 59 = .ok (.iaload, 1) := by decide +kernel
theorem d_Mo_trail_60 : decode prog_10_method_79_code 60 = .ok (.goto 5, 3) := by decide +kernel
theorem d_Mo_trail_63 : decode prog_10_method_79_code 63 = .ok (.ldc 67, 2) := by decide +kernel
theorem d_Mo_trail_65 : decode prog_10_method_79_code 65 = .ok (.ireturn, 1) := by decide +kernel
theorem d_Mo_refusal_0 : decode prog_10_method_80_code 0 = .ok (.aload_n 0, 1) := by decide +kernel
theorem d_Mo_refusal_1 : decode prog_10_method_80_code 1 = .ok (.iconst 0, 1) := by decide +kernel
theorem d_Mo_refusal_2 : decode prog_10_method_80_code 2 = .ok (.putfield 37, 3) := by decide +kernel
theorem d_Mo_refusal_5 : decode prog_10_method_80_code 5 = .ok (.aload_n 0, 1) := by decide +kernel
theorem d_Mo_refusal_6 : decode prog_10_method_80_code 6 = .ok (.iload_n 1, 1) := by decide +kernel
theorem d_Mo_refusal_7 : decode prog_10_method_80_code 7 = .ok (.iload_n 2, 1) := by decide +kernel
theorem d_Mo_refusal_8 : decode prog_10_method_80_code 8 = .ok (.iload_n 3, 1) := by decide +kernel
theorem d_Mo_refusal_9 : decode prog_10_method_80_code 9 = .ok (.iload 4, 2) := by decide +kernel
theorem d_Mo_refusal_11 : decode prog_10_method_80_code 11 = .ok (.iload 5, 2) := by decide +kernel
theorem d_Mo_refusal_13 : decode prog_10_method_80_code 13 = .ok (.invokevirtual 140, 3) := by decide +kernel
theorem d_Mo_refusal_16 : decode prog_10_method_80_code 16 = .ok (.ifCond .eq 17, 3) := by decide +kernel
theorem d_Mo_refusal_19 : decode prog_10_method_80_code 19 = .ok (.aload_n 0, 1) := by decide +kernel
theorem d_Mo_refusal_20 : decode prog_10_method_80_code 20 = .ok (.iload_n 1, 1) := by decide +kernel
theorem d_Mo_refusal_21 : decode prog_10_method_80_code 21 = .ok (.iload_n 2, 1) := by decide +kernel
theorem d_Mo_refusal_22 : decode prog_10_method_80_code 22 = .ok (.iload_n 3, 1) := by decide +kernel
theorem d_Mo_refusal_23 : decode prog_10_method_80_code 23 = .ok (.iload 4, 2) := by decide +kernel
theorem d_Mo_refusal_25 : decode prog_10_method_80_code 25 = .ok (.iload 5, 2) := by decide +kernel
theorem d_Mo_refusal_27 : decode prog_10_method_80_code 27 = .ok (.invokevirtual 144, 3) := by decide +kernel
theorem d_Mo_refusal_30 : decode prog_10_method_80_code 30 = .ok (.goto 5, 3) := by decide +kernel
theorem d_Mo_refusal_33 : decode prog_10_method_80_code 33 = .ok (.ldc 112, 2) := by decide +kernel
theorem d_Mo_refusal_35 : decode prog_10_method_80_code 35 = .ok (.ireturn, 1) := by decide +kernel
theorem d_Mo_effect_0 : decode prog_10_method_81_code 0 = .ok (.aload_n 0, 1) := by decide +kernel
theorem d_Mo_effect_1 : decode prog_10_method_81_code 1 = .ok (.iconst 0, 1) := by decide +kernel
theorem d_Mo_effect_2 : decode prog_10_method_81_code 2 = .ok (.putfield 37, 3) := by decide +kernel
theorem d_Mo_effect_5 : decode prog_10_method_81_code 5 = .ok (.iload_n 1, 1) := by decide +kernel
theorem d_Mo_effect_6 : decode prog_10_method_81_code 6 = .ok (.invokestatic 179, 3) := by decide +kernel
theorem d_Mo_effect_9 : decode prog_10_method_81_code 9 = .ok (.ifCond .eq 10, 3) := by decide +kernel
theorem d_Mo_effect_12 : decode prog_10_method_81_code 12 = .ok (.iload_n 2, 1) := by decide +kernel
theorem d_Mo_effect_13 : decode prog_10_method_81_code 13 = .ok (.invokestatic 179, 3) := by decide +kernel
theorem d_Mo_effect_16 : decode prog_10_method_81_code 16 = .ok (.ifCond .ne 6, 3) := by decide +kernel
theorem d_Mo_effect_19 : decode prog_10_method_81_code 19 = .ok (.ldc 112, 2) := by decide +kernel
theorem d_Mo_effect_21 : decode prog_10_method_81_code 21 = .ok (.ireturn, 1) := by decide +kernel
theorem d_Mo_effect_22 : decode prog_10_method_81_code 22 = .ok (.aload_n 0, 1) := by decide +kernel
theorem d_Mo_effect_23 : decode prog_10_method_81_code 23 = .ok (.iload_n 1, 1) := by decide +kernel
theorem d_Mo_effect_24 : decode prog_10_method_81_code 24 = .ok (.iload_n 2, 1) := by decide +kernel
theorem d_Mo_effect_25 : decode prog_10_method_81_code 25 = .ok (.invokevirtual 163, 3) := by decide +kernel
theorem d_Mo_effect_28 : decode prog_10_method_81_code 28 = .ok (.ifCond .eq 5, 3) := by decide +kernel
theorem d_Mo_effect_31 : decode prog_10_method_81_code 31 = .ok (.iconst 0, 1) := by decide +kernel
theorem d_Mo_effect_32 : decode prog_10_method_81_code 32 = .ok (.ireturn, 1) := by decide +kernel
theorem d_Mo_effect_33 : decode prog_10_method_81_code 33 = .ok (.aload_n 0, 1) := by decide +kernel
theorem d_Mo_effect_34 : decode prog_10_method_81_code 34 = .ok (.invokevirtual 217, 3) := by decide +kernel
theorem d_Mo_effect_37 : decode prog_10_method_81_code 37 = .ok (.aload_n 0, 1) := by decide +kernel
theorem d_Mo_effect_38 : decode prog_10_method_81_code 38 = .ok (.getfield 7, 3) := by decide +kernel
theorem d_Mo_effect_41 : decode prog_10_method_81_code 41 = .ok (.sipush 236, 3) := by decide +kernel
theorem d_Mo_effect_44 : decode prog_10_method_81_code 44 = .ok (.iaload, 1) := by decide +kernel
theorem d_Mo_effect_45 : decode prog_10_method_81_code 45 = .ok (.istore_n 3, 1) := by decide +kernel
theorem d_Mo_effect_46 : decode prog_10_method_81_code 46 = .ok (.aload_n 0, 1) := by decide +kernel
theorem d_Mo_effect_47 : decode prog_10_method_81_code 47 = .ok (.getfield 7, 3) := by decide +kernel
theorem d_Mo_effect_50 : decode prog_10_method_81_code 50 = .ok (.sipush 237, 3) := by decide +kernel
theorem d_Mo_effect_53 : decode prog_10_method_81_code 53 = .ok (.iaload, 1) := by decide +kernel
theorem d_Mo_effect_54 : decode prog_10_method_81_code 54 = .ok (.istore 4, 2) := by decide +kernel
theorem d_Mo_effect_56 : decode prog_10_method_81_code 56 = .ok (.aload_n 0, 1) := by decide +kernel
theorem d_Mo_effect_57 : decode prog_10_method_81_code 57 = .ok (.invokevirtual 166, 3) := by decide +kernel
theorem d_Mo_effect_60 : decode prog_10_method_81_code 60 = .ok (.aload_n 0, 1) := by decide +kernel
theorem d_Mo_effect_61 : decode prog_10_method_81_code 61 = .ok (.iload_n 1, 1) := by decide +kernel
theorem d_Mo_effect_62 : decode prog_10_method_81_code 62 = .ok (.iload_n 2, 1) := by decide +kernel
theorem d_Mo_effect_63 : decode prog_10_method_81_code 63 = .ok (.invokevirtual 169, 3) := by decide +kernel
theorem d_Mo_effect_66 : decode prog_10_method_81_code 66 = .ok (.iconst 1, 1) := by decide +kernel
theorem d_Mo_effect_67 : decode prog_10_method_81_code 67 = .ok (.aload_n 0, 1) := by decide +kernel
theorem d_Mo_effect_68 : decode prog_10_method_81_code 68 = .ok (.getfield 7, 3) := by decide +kernel
theorem d_Mo_effect_71 : decode prog_10_method_81_code 71 = .ok (.sipush 236, 3) := by decide +kernel
theorem d_Mo_effect_74 : decode prog_10_method_81_code 74 = .ok (.iaload, 1) := by decide +kernel
theorem d_Mo_effect_75 : decode prog_10_method_81_code 75 = .ok (.iload_n 3, 1) := by decide +kernel
theorem d_Mo_effect_76 : decode prog_10_method_81_code 76 = .ok (.if_icmp .eq 7, 3) := by decide +kernel
theorem d_Mo_effect_79 : decode prog_10_method_81_code 79 = .ok (.iconst 2, 1) := by decide +kernel
theorem d_Mo_effect_80 : decode prog_10_method_81_code 80 = .ok (.goto 4, 3) := by decide +kernel
theorem d_Mo_effect_83 : decode prog_10_method_81_code 83 = .ok (.iconst 0, 1) := by decide +kernel
theorem d_Mo_effect_84 : decode prog_10_method_81_code 84 = .ok (.iadd, 1) := by decide +kernel
theorem d_Mo_effect_85 : decode prog_10_method_81_code 85 = .ok (.aload_n 0, 1) := by decide +kernel
theorem d_Mo_effect_86 : decode prog_10_method_81_code 86 = .ok (.getfield 7, 3) := by decide +kernel
theorem d_Mo_effect_89 : decode prog_10_method_81_code 89 = .ok (.sipush 237, 3) := by decide +kernel
theorem d_Mo_effect_92 : decode prog_10_method_81_code 92 = .ok (.iaload, 1) := by decide +kernel
theorem d_Mo_effect_93 : decode prog_10_method_81_code 93 = .ok (.iload 4, 2) := by decide +kernel
theorem d_Mo_effect_95 : decode prog_10_method_81_code 95 = .ok (.if_icmp .eq 7, 3) := by decide +kernel
theorem d_Mo_effect_98 : decode prog_10_method_81_code 98 = .ok (.iconst 4, 1) := by decide +kernel
theorem d_Mo_effect_99 : decode prog_10_method_81_code 99 = .ok (.goto 4, 3) := by decide +kernel
theorem d_Mo_effect_102 : decode prog_10_method_81_code 102 = .ok (.iconst 0, 1) := by decide +kernel
theorem d_Mo_effect_103 : decode prog_10_method_81_code 103 = .ok (.iadd, 1) := by decide +kernel
theorem d_Mo_effect_104 : decode prog_10_method_81_code 104 = .ok (.aload_n 0, 1) := by decide +kernel
theorem d_Mo_effect_105 : decode prog_10_method_81_code 105 = .ok (.invokevirtual 173, 3) := by decide +kernel
theorem d_Mo_effect_108 : decode prog_10_method_81_code 108 = .ok (.ifCond .le 8, 3) := by decide +kernel
theorem d_Mo_effect_111 : decode prog_10_method_81_code 111 = .ok (.bipush 8, 2) := by decide +kernel
theorem d_Mo_effect_113 : decode prog_10_method_81_code 113 = .ok (.goto 4, 3) := by decide +kernel
theorem d_Mo_effect_116 : decode prog_10_method_81_code 116 = .ok (.iconst 0, 1) := by decide +kernel
theorem d_Mo_effect_117 : decode prog_10_method_81_code 117 = .ok (.iadd, 1) := by decide +kernel
theorem d_Mo_effect_118 : decode prog_10_method_81_code 118 = .ok (.istore 5, 2) := by decide +kernel
theorem d_Mo_effect_120 : decode prog_10_method_81_code 120 = .ok (.aload_n 0, 1) := by decide +kernel
theorem d_Mo_effect_121 : decode prog_10_method_81_code 121 = .ok (.invokevirtual 223, 3) := by decide +kernel
theorem d_Mo_effect_124 : decode prog_10_method_81_code 124 = .ok (.iload 5, 2) := by decide +kernel
theorem d_Mo_effect_126 : decode prog_10_method_81_code 126 = .ok (.ireturn, 1) := by decide +kernel
theorem d_Mo_valueAt_0 : decode prog_10_method_83_code 0 = .ok (.aload_n 0, 1) := by decide +kernel
theorem d_Mo_valueAt_1 : decode prog_10_method_83_code 1 = .ok (.iconst 0, 1) := by decide +kernel
theorem d_Mo_valueAt_2 : decode prog_10_method_83_code 2 = .ok (.putfield 37, 3) := by decide +kernel
theorem d_Mo_valueAt_5 : decode prog_10_method_83_code 5 = .ok (.iload_n 1, 1) := by decide +kernel
theorem d_Mo_valueAt_6 : decode prog_10_method_83_code 6 = .ok (.invokestatic 179, 3) := by decide +kernel
theorem d_Mo_valueAt_9 : decode prog_10_method_83_code 9 = .ok (.ifCond .eq 29, 3) := by decide +kernel
theorem d_Mo_valueAt_12 : decode prog_10_method_83_code 12 = .ok (.iload_n 2, 1) := by decide +kernel
theorem d_Mo_valueAt_13 : decode prog_10_method_83_code 13 = .ok (.invokestatic 179, 3) := by decide +kernel
theorem d_Mo_valueAt_16 : decode prog_10_method_83_code 16 = .ok (.ifCond .eq 22, 3) := by decide +kernel
theorem d_Mo_valueAt_19 : decode prog_10_method_83_code 19 = .ok (.iload_n 3, 1) := by decide +kernel
theorem d_Mo_valueAt_20 : decode prog_10_method_83_code 20 = .ok (.iconst 0, 1) := by decide +kernel
theorem d_Mo_valueAt_21 : decode prog_10_method_83_code 21 = .ok (.iconst 2, 1) := by decide +kernel
theorem d_Mo_valueAt_22 : decode prog_10_method_83_code 22 = .ok (.invokestatic 47, 3) := by decide +kernel
theorem d_Mo_valueAt_25 : decode prog_10_method_83_code 25 = .ok (.ifCond .eq 13, 3) := by decide +kernel
theorem d_Mo_valueAt_28 : decode prog_10_method_83_code 28 = .ok (.aload_n 0, 1) := by decide +kernel
theorem d_Mo_valueAt_29 : decode prog_10_method_83_code 29 = .ok (.iload_n 1, 1) := by decide +kernel
theorem d_Mo_valueAt_30 : decode prog_10_method_83_code 30 = .ok (.iload_n 2, 1) := by decide +kernel
theorem d_Mo_valueAt_31 : decode prog_10_method_83_code 31 = .ok (.iload_n 3, 1) := by decide +kernel
theorem d_Mo_valueAt_32 : decode prog_10_method_83_code 32 = .ok (.invokevirtual 236, 3) := by decide +kernel
theorem d_Mo_valueAt_35 : decode prog_10_method_83_code 35 = .ok (.goto 5, 3) := by decide +kernel
theorem d_Mo_valueAt_38 : decode prog_10_method_83_code 38 = .ok (.ldc 112, 2) := by decide +kernel
theorem d_Mo_valueAt_40 : decode prog_10_method_83_code 40 = .ok (.ireturn, 1) := by decide +kernel
theorem d_Mo_valueThere_0 : decode prog_10_method_82_code 0 = .ok (.aload_n 0, 1) := by decide +kernel
theorem d_Mo_valueThere_1 : decode prog_10_method_82_code 1 = .ok (.iconst 0, 1) := by decide +kernel
theorem d_Mo_valueThere_2 : decode prog_10_method_82_code 2 = .ok (.aload_n 0, 1) := by decide +kernel
theorem d_Mo_valueThere_3 : decode prog_10_method_82_code 3 = .ok (.iconst 0, 1) := by decide +kernel
theorem d_Mo_valueThere_4 : decode prog_10_method_82_code 4 = .ok (.iload_n 1, 1) := by decide +kernel
theorem d_Mo_valueThere_5 : decode prog_10_method_82_code 5 = .ok (.invokevirtual 68, 3) := by decide +kernel
theorem d_Mo_valueThere_8 : decode prog_10_method_82_code 8 = .ok (.iload_n 1, 1) := by decide +kernel
theorem d_Mo_valueThere_9 : decode prog_10_method_82_code 9 = .ok (.invokevirtual 74, 3) := by decide +kernel
theorem d_Mo_valueThere_12 : decode prog_10_method_82_code 12 = .ok (.aload_n 0, 1) := by decide +kernel
theorem d_Mo_valueThere_13 : decode prog_10_method_82_code 13 = .ok (.iconst 1, 1) := by decide +kernel
theorem d_Mo_valueThere_14 : decode prog_10_method_82_code 14 = .ok (.aload_n 0, 1) := by decide +kernel
theorem d_Mo_valueThere_15 : decode prog_10_method_82_code 15 = .ok (.iconst 1, 1) := by decide +kernel
theorem d_Mo_valueThere_16 : decode prog_10_method_82_code 16 = .ok (.iload_n 2, 1) := by decide +kernel
theorem d_Mo_valueThere_17 : decode prog_10_method_82_code 17 = .ok (.invokevirtual 68, 3) := by decide +kernel
theorem d_Mo_valueThere_20 : decode prog_10_method_82_code 20 = .ok (.iload_n 2, 1) := by decide +kernel
theorem d_Mo_valueThere_21 : decode prog_10_method_82_code 21 = .ok (.invokevirtual 74, 3) := by decide +kernel
theorem d_Mo_valueThere_24 : decode prog_10_method_82_code 24 = .ok (.aload_n 0, 1) := by decide +kernel
theorem d_Mo_valueThere_25 : decode prog_10_method_82_code 25 = .ok (.iload_n 3, 1) := by decide +kernel
theorem d_Mo_valueThere_26 : decode prog_10_method_82_code 26 = .ok (.invokevirtual 157, 3) := by decide +kernel
theorem d_Mo_valueThere_29 : decode prog_10_method_82_code 29 = .ok (.ireturn, 1) := by decide +kernel
theorem d_Mo_chatter_0 : decode prog_10_method_85_code 0 = .ok (.aload_n 0, 1) := by decide +kernel
theorem d_Mo_chatter_1 : decode prog_10_method_85_code 1 = .ok (.iconst 0, 1) := by decide +kernel
theorem d_Mo_chatter_2 : decode prog_10_method_85_code 2 = .ok (.putfield 37, 3) := by decide +kernel
theorem d_Mo_chatter_5 : decode prog_10_method_85_code 5 = .ok (.iload_n 1, 1) := by decide +kernel
theorem d_Mo_chatter_6 : decode prog_10_method_85_code 6 = .ok (.invokestatic 51, 3) := by decide +kernel
theorem d_Mo_chatter_9 : decode prog_10_method_85_code 9 = .ok (.ifCond .eq 32, 3) := by decide +kernel
theorem d_Mo_chatter_12 : decode prog_10_method_85_code 12 = .ok (.iload_n 2, 1) := by decide +kernel
theorem d_Mo_chatter_13 : decode prog_10_method_85_code 13 = .ok (.invokestatic 179, 3) := by decide +kernel
theorem d_Mo_chatter_16 : decode prog_10_method_85_code 16 = .ok (.ifCond .eq 25, 3) := by decide +kernel
theorem d_Mo_chatter_19 : decode prog_10_method_85_code 19 = .ok (.iload_n 3, 1) := by decide +kernel
theorem d_Mo_chatter_20 : decode prog_10_method_85_code 20 = .ok (.iconst 0, 1) := by decide +kernel
theorem d_Mo_chatter_21 : decode prog_10_method_85_code 21 = .ok (.sipush 500, 3) := by decide +kernel
theorem d_Mo_chatter_24 : decode prog_10_method_85_code 24 = .ok (.invokestatic 47, 3) := by decide +kernel
theorem d_Mo_chatter_27 : decode prog_10_method_85_code 27 = .ok (.ifCond .eq 14, 3) := by decide +kernel
theorem d_Mo_chatter_30 : decode prog_10_method_85_code 30 = .ok (.iload 4, 2) := by decide +kernel
theorem d_Mo_chatter_32 : decode prog_10_method_85_code 32 = .ok (.iconst 1, 1) := by decide +kernel
theorem d_Mo_chatter_33 : decode prog_10_method_85_code 33 = .ok (.bipush 100, 2) := by decide +kernel
theorem d_Mo_chatter_35 : decode prog_10_method_85_code 35 = .ok (.invokestatic 47, 3) := by decide +kernel
theorem d_Mo_chatter_38 : decode prog_10_method_85_code 38 = .ok (.ifCond .ne 6, 3) := by decide +kernel
theorem d_Mo_chatter_41 : decode prog_10_method_85_code 41 = .ok (.ldc 112, 2) := by decide +kernel
theorem d_Mo_chatter_43 : decode prog_10_method_85_code 43 = .ok (.ireturn, 1) := by decide +kernel
theorem d_Mo_chatter_44 : decode prog_10_method_85_code 44 = .ok (.iload_n 2, 1) := by decide +kernel
theorem d_Mo_chatter_45 : decode prog_10_method_85_code 45 = .ok (.iload_n 3, 1) := by decide +kernel
theorem d_Mo_chatter_46 : decode prog_10_method_85_code 46 = .ok (.invokestatic 109, 3) := by decide +kernel
theorem d_Mo_chatter_49 : decode prog_10_method_85_code 49 = .ok (.ifCond .ne 6, 3) := by decide +kernel
theorem d_Mo_chatter_52 : decode prog_10_method_85_code 52 = .ok (.ldc 112, 2) := by decide +kernel
theorem d_Mo_chatter_54 : decode prog_10_method_85_code 54 = .ok (.ireturn, 1) := by decide +kernel
theorem d_Mo_chatter_55 : decode prog_10_method_85_code 55 = .ok (.aload_n 0, 1) := by decide +kernel
theorem d_Mo_chatter_56 : decode prog_10_method_85_code 56 = .ok (.iload_n 1, 1) := by decide +kernel
theorem d_Mo_chatter_57 : decode prog_10_method_85_code 57 = .ok (.aload_n 0, 1) := by decide +kernel
theorem d_Mo_chatter_58 : decode prog_10_method_85_code 58 = .ok (.getfield 7, 3) := by decide +kernel
theorem d_Mo_chatter_61 : decode prog_10_method_85_code 61 = .ok (.sipush 236, 3) := by decide +kernel
theorem d_Mo_chatter_64 : decode prog_10_method_85_code 64 = .ok (.iload_n 1, 1) := by decide +kernel
theorem d_Mo_chatter_65 : decode prog_10_method_85_code 65 = .ok (.iadd, 1) := by decide +kernel
theorem d_Mo_chatter_66 : decode prog_10_method_85_code 66 = .ok (.iaload, 1) := by decide +kernel
theorem d_Mo_chatter_67 : decode prog_10_method_85_code 67 = .ok (.iload_n 2, 1) := by decide +kernel
theorem d_Mo_chatter_68 : decode prog_10_method_85_code 68 = .ok (.iload_n 3, 1) := by decide +kernel
theorem d_Mo_chatter_69 : decode prog_10_method_85_code 69 = .ok (.iload 4, 2) := by decide +kernel
theorem d_Mo_chatter_71 : decode prog_10_method_85_code 71 = .ok (.invokevirtual 239, 3) := by decide +kernel
theorem d_Mo_chatter_74 : decode prog_10_method_85_code 74 = .ok (.ireturn, 1) := by decide +kernel
theorem d_Mo_chatters_0 : decode prog_10_method_84_code 0 = .ok (.iload_n 2, 1) := by decide +kernel
theorem d_Mo_chatters_1 : decode prog_10_method_84_code 1 = .ok (.istore 6, 2) := by decide +kernel
theorem d_Mo_chatters_3 : decode prog_10_method_84_code 3 = .ok (.iconst 0, 1) := by decide +kernel
theorem d_Mo_chatters_4 : decode prog_10_method_84_code 4 = .ok (.istore 7, 2) := by decide +kernel
theorem d_Mo_chatters_6 : decode prog_10_method_84_code 6 = .ok (.iconst 0, 1) := by decide +kernel
theorem d_Mo_chatters_7 : decode prog_10_method_84_code 7 = .ok (.istore 8, 2) := by decide +kernel
theorem d_Mo_chatters_9 : decode prog_10_method_84_code 9 = .ok (.iload 8, 2) := by decide +kernel
theorem d_Mo_chatters_11 : decode prog_10_method_84_code 11 = .ok (.iload 5, 2) := by decide +kernel
theorem d_Mo_chatters_13 : decode prog_10_method_84_code 13 = .ok (.if_icmp .ge 57, 3) := by decide +kernel
theorem d_Mo_chatters_16 : decode prog_10_method_84_code 16 = .ok (.aload_n 0, 1) := by decide +kernel
theorem d_Mo_chatters_17 : decode prog_10_method_84_code 17 = .ok (.iload_n 1, 1) := by decide +kernel
theorem d_Mo_chatters_18 : decode prog_10_method_84_code 18 = .ok (.iload 6, 2) := by decide +kernel
theorem d_Mo_chatters_20 : decode prog_10_method_84_code 20 = .ok (.iload 8, 2) := by decide +kernel
theorem d_Mo_chatters_22 : decode prog_10_method_84_code 22 = .ok (.iconst 2, 1) := by decide +kernel
theorem d_Mo_chatters_23 : decode prog_10_method_84_code 23 = .ok (.irem, 1) := by decide +kernel
theorem d_Mo_chatters_24 : decode prog_10_method_84_code 24 = .ok (.ifCond .ne 10, 3) := by decide +kernel
theorem d_Mo_chatters_27 : decode prog_10_method_84_code 27 = .ok (.iload_n 3, 1) := by decide +kernel
theorem d_Mo_chatters_28 : decode prog_10_method_84_code 28 = .ok (.iload 4, 2) := by decide +kernel
theorem d_Mo_chatters_30 : decode prog_10_method_84_code 30 = .ok (.iadd, 1) := by decide +kernel
theorem d_Mo_chatters_31 : decode prog_10_method_84_code 31 = .ok (.goto 7, 3) := by decide +kernel
theorem d_Mo_chatters_34 : decode prog_10_method_84_code 34 = .ok (.iload_n 3, 1) := by decide +kernel
theorem d_Mo_chatters_35 : decode prog_10_method_84_code 35 = .ok (.iload 4, 2) := by decide +kernel
theorem d_Mo_chatters_37 : decode prog_10_method_84_code 37 = .ok (.isub, 1) := by decide +kernel
theorem d_Mo_chatters_38 : decode prog_10_method_84_code 38 = .ok (.invokevirtual 160, 3) := by decide +kernel
theorem d_Mo_chatters_41 : decode prog_10_method_84_code 41 = .ok (.istore 9, 2) := by decide +kernel
theorem d_Mo_chatters_43 : decode prog_10_method_84_code 43 = .ok (.iload 7, 2) := by decide +kernel
theorem d_Mo_chatters_45 : decode prog_10_method_84_code 45 = .ok (.iload 9, 2) := by decide +kernel
theorem d_Mo_chatters_47 : decode prog_10_method_84_code 47 = .ok (.iload 6, 2) := by decide +kernel
theorem d_Mo_chatters_49 : decode prog_10_method_84_code 49 = .ok (.if_icmp .eq 7, 3) := by decide +kernel
theorem d_Mo_chatters_52 : decode prog_10_method_84_code 52 = .ok (.iconst 1, 1) := by decide +kernel
theorem d_Mo_chatters_53 : decode prog_10_method_84_code 53 = .ok (.goto 4, 3) := by decide +kernel
theorem d_Mo_chatters_56 : decode prog_10_method_84_code 56 = .ok (.iconst 0, 1) := by decide +kernel
theorem d_Mo_chatters_57 : decode prog_10_method_84_code 57 = .ok (.iadd, 1) := by decide +kernel
theorem d_Mo_chatters_58 : decode prog_10_method_84_code 58 = .ok (.istore 7, 2) := by decide +kernel
theorem d_Mo_chatters_60 : decode prog_10_method_84_code 60 = .ok (.iload 9, 2) := by decide +kernel
theorem d_Mo_chatters_62 : decode prog_10_method_84_code 62 = .ok (.istore 6, 2) := by decide +kernel
theorem d_Mo_chatters_64 : decode prog_10_method_84_code 64 = .ok (.iinc 8 1, 3) := by decide +kernel
theorem d_Mo_chatters_67 : decode prog_10_method_84_code 67 = .ok (.goto (-58), 3) := by decide +kernel
theorem d_Mo_chatters_70 : decode prog_10_method_84_code 70 = .ok (.iload 7, 2) := by decide +kernel
theorem d_Mo_chatters_72 : decode prog_10_method_84_code 72 = .ok (.ireturn, 1) := by decide +kernel
theorem d_Mo_calmReach_0 : decode prog_10_method_86_code 0 = .ok (.aload_n 0, 1) := by decide +kernel
theorem d_Mo_calmReach_1 : decode prog_10_method_86_code 1 = .ok (.iconst 0, 1) := by decide +kernel
theorem d_Mo_calmReach_2 : decode prog_10_method_86_code 2 = .ok (.putfield 37, 3) := by decide +kernel
theorem d_Mo_calmReach_5 : decode prog_10_method_86_code 5 = .ok (.aload_n 0, 1) := by decide +kernel
theorem d_Mo_calmReach_6 : decode prog_10_method_86_code 6 = .ok (.iload_n 1, 1) := by decide +kernel
theorem d_Mo_calmReach_7 : decode prog_10_method_86_code 7 = .ok (.iload_n 2, 1) := by decide +kernel
theorem d_Mo_calmReach_8 : decode prog_10_method_86_code 8 = .ok (.invokevirtual 130, 3) := by decide +kernel
theorem d_Mo_calmReach_11 : decode prog_10_method_86_code 11 = .ok (.ifCond .eq 14, 3) := by decide +kernel
theorem d_Mo_calmReach_14 : decode prog_10_method_86_code 14 = .ok (.iload_n 3, 1) := by decide +kernel
theorem d_Mo_calmReach_15 : decode prog_10_method_86_code 15 = .ok (.iconst 0, 1) := by decide +kernel
theorem d_Mo_calmReach_16 : decode prog_10_method_86_code 16 = .ok (.sipush 500, 3) := by decide +kernel
theorem d_Mo_calmReach_19 : decode prog_10_method_86_code 19 = .ok (.invokestatic 47, 3) := by decide +kernel
theorem d_Mo_calmReach_22 : decode prog_10_method_86_code 22 = .ok (.ifCond .ne 6, 3) := by decide +kernel
theorem d_Mo_calmReach_25 : decode prog_10_method_86_code 25 = .ok (.ldc 112, 2) := by decide +kernel
theorem d_Mo_calmReach_27 : decode prog_10_method_86_code 27 = .ok (.ireturn, 1) := by decide +kernel
theorem d_Mo_calmReach_28 : decode prog_10_method_86_code 28 = .ok (.aload_n 0, 1) := by decide +kernel
theorem d_Mo_calmReach_29 : decode prog_10_method_86_code 29 = .ok (.iload_n 1, 1) := by decide +kernel
theorem d_Mo_calmReach_30 : decode prog_10_method_86_code 30 = .ok (.iload_n 2, 1) := by decide +kernel
theorem d_Mo_calmReach_31 : decode prog_10_method_86_code 31 = .ok (.iconst 0, 1) := by decide +kernel
theorem d_Mo_calmReach_32 : decode prog_10_method_86_code 32 = .ok (.invokevirtual 63, 3) := by decide +kernel
theorem d_Mo_calmReach_35 : decode prog_10_method_86_code 35 = .ok (.istore 4, 2) := by decide +kernel
theorem d_Mo_calmReach_37 : decode prog_10_method_86_code 37 = .ok (.iload 4, 2) := by decide +kernel
theorem d_Mo_calmReach_39 : decode prog_10_method_86_code 39 = .ok (.iload_n 3, 1) := by decide +kernel
theorem d_Mo_calmReach_40 : decode prog_10_method_86_code 40 = .ok (.invokestatic 109, 3) := by decide +kernel
theorem d_Mo_calmReach_43 : decode prog_10_method_86_code 43 = .ok (.ifCond .ne 6, 3) := by decide +kernel
theorem d_Mo_calmReach_46 : decode prog_10_method_86_code 46 = .ok (.ldc 112, 2) := by decide +kernel
theorem d_Mo_calmReach_48 : decode prog_10_method_86_code 48 = .ok (.ireturn, 1) := by decide +kernel
theorem d_Mo_calmReach_49 : decode prog_10_method_86_code 49 = .ok (.aload_n 0, 1) := by decide +kernel
theorem d_Mo_calmReach_50 : decode prog_10_method_86_code 50 = .ok (.iload_n 1, 1) := by decide +kernel
theorem d_Mo_calmReach_51 : decode prog_10_method_86_code 51 = .ok (.iload_n 2, 1) := by decide +kernel
theorem d_Mo_calmReach_52 : decode prog_10_method_86_code 52 = .ok (.iconst 1, 1) := by decide +kernel
theorem d_Mo_calmReach_53 : decode prog_10_method_86_code 53 = .ok (.invokevirtual 63, 3) := by decide +kernel
theorem d_Mo_calmReach_56 : decode prog_10_method_86_code 56 = .ok (.ifCond .eq 6, 3) := by decide +kernel
theorem d_Mo_calmReach_59 : decode prog_10_method_86_code 59 = .ok (.ldc 117, 2) := by decide +kernel
theorem d_Mo_calmReach_61 : decode prog_10_method_86_code 61 = .ok (.ireturn, 1) := by decide +kernel
theorem d_Mo_calmReach_62 : decode prog_10_method_86_code 62 = .ok (.aload_n 0, 1) := by decide +kernel
theorem d_Mo_calmReach_63 : decode prog_10_method_86_code 63 = .ok (.iload_n 1, 1) := by decide +kernel
theorem d_Mo_calmReach_64 : decode prog_10_method_86_code 64 = .ok (.iload_n 2, 1) := by decide +kernel
theorem d_Mo_calmReach_65 : decode prog_10_method_86_code 65 = .ok (.iconst 2, 1) := by decide +kernel
theorem d_Mo_calmReach_66 : decode prog_10_method_86_code 66 = .ok (.invokevirtual 63, 3) := by decide +kernel
theorem d_Mo_calmReach_69 : decode prog_10_method_86_code 69 = .ok (.istore 5, 2) := by decide +kernel
theorem d_Mo_calmReach_71 : decode prog_10_method_86_code 71 = .ok (.ldc 67, 2) := by decide +kernel
theorem d_Mo_calmReach_73 : decode prog_10_method_86_code 73 = .ok (.istore 6, 2) := by decide +kernel
theorem d_Mo_calmReach_75 : decode prog_10_method_86_code 75 = .ok (.iconst 0, 1) := by decide +kernel
theorem d_Mo_calmReach_76 : decode prog_10_method_86_code 76 = .ok (.istore 7, 2) := by decide +kernel
theorem d_Mo_calmReach_78 : decode prog_10_method_86_code 78 = .ok (.iload 7, 2) := by decide +kernel
theorem d_Mo_calmReach_80 : decode prog_10_method_86_code 80 = .ok (.bipush 100, 2) := by decide +kernel
theorem d_Mo_calmReach_82 : decode prog_10_method_86_code 82 = .ok (.if_icmp .gt 88, 3) := by decide +kernel
theorem d_Mo_calmReach_85 : decode prog_10_method_86_code 85 = .ok (.iload 6, 2) := by decide +kernel
theorem d_Mo_calmReach_87 : decode prog_10_method_86_code 87 = .ok (.ldc 67, 2) := by decide +kernel
theorem d_Mo_calmReach_89 : decode prog_10_method_86_code 89 = .ok (.if_icmp .ne 81, 3) := by decide +kernel
theorem d_Mo_calmReach_92 : decode prog_10_method_86_code 92 = .ok (.iload 4, 2) := by decide +kernel
theorem d_Mo_calmReach_94 : decode prog_10_method_86_code 94 = .ok (.iload 7, 2) := by decide +kernel
theorem d_Mo_calmReach_96 : decode prog_10_method_86_code 96 = .ok (.invokestatic 109, 3) := by decide +kernel
theorem d_Mo_calmReach_99 : decode prog_10_method_86_code 99 = .ok (.ifCond .eq 65, 3) := by decide +kernel
theorem d_Mo_calmReach_102 : decode prog_10_method_86_code 102 = .ok (.aload_n 0, 1) := by decide +kernel
theorem d_Mo_calmReach_103 : decode prog_10_method_86_code 103 = .ok (.iload_n 1, 1) := by decide +kernel
theorem d_Mo_calmReach_104 : decode prog_10_method_86_code 104 = .ok (.iload 4, 2) := by decide +kernel
theorem d_Mo_calmReach_106 : decode prog_10_method_86_code 106 = .ok (.iload 7, 2) := by decide +kernel
theorem d_Mo_calmReach_108 : decode prog_10_method_86_code 108 = .ok (.iload_n 2, 1) := by decide +kernel
theorem d_Mo_calmReach_109 : decode prog_10_method_86_code 109 = .ok (.invokevirtual 113, 3) := by decide +kernel
theorem d_Mo_calmReach_112 : decode prog_10_method_86_code 112 = .ok (.ifCond .ne 52, 3) := by decide +kernel
theorem d_Mo_calmReach_115 : decode prog_10_method_86_code 115 = .ok (.aload_n 0, 1) := by decide +kernel
theorem d_Mo_calmReach_116 : decode prog_10_method_86_code 116 = .ok (.iload_n 1, 1) := by decide +kernel
theorem d_Mo_calmReach_117 : decode prog_10_method_86_code 117 = .ok (.iload_n 2, 1) := by decide +kernel
theorem d_Mo_calmReach_118 : decode prog_10_method_86_code 118 = .ok (.iload 4, 2) := by decide +kernel
theorem d_Mo_calmReach_120 : decode prog_10_method_86_code 120 = .ok (.iconst 0, 1) := by decide +kernel
theorem d_Mo_calmReach_121 : decode prog_10_method_86_code 121 = .ok (.iload 7, 2) := by decide +kernel
theorem d_Mo_calmReach_123 : decode prog_10_method_86_code 123 = .ok (.invokevirtual 92, 3) := by decide +kernel
theorem d_Mo_calmReach_126 : decode prog_10_method_86_code 126 = .ok (.aload_n 0, 1) := by decide +kernel
theorem d_Mo_calmReach_127 : decode prog_10_method_86_code 127 = .ok (.iload_n 1, 1) := by decide +kernel
theorem d_Mo_calmReach_128 : decode prog_10_method_86_code 128 = .ok (.aload_n 0, 1) := by decide +kernel
theorem d_Mo_calmReach_129 : decode prog_10_method_86_code 129 = .ok (.iload_n 1, 1) := by decide +kernel
theorem d_Mo_calmReach_130 : decode prog_10_method_86_code 130 = .ok (.aload_n 0, 1) := by decide +kernel
theorem d_Mo_calmReach_131 : decode prog_10_method_86_code 131 = .ok (.getfield 7, 3) := by decide +kernel
theorem d_Mo_calmReach_134 : decode prog_10_method_86_code 134 = .ok (.sipush 234, 3) := by decide +kernel
theorem d_Mo_calmReach_137 : decode prog_10_method_86_code 137 = .ok (.iload_n 1, 1) := by decide +kernel
theorem d_Mo_calmReach_138 : decode prog_10_method_86_code 138 = .ok (.iadd, 1) := by decide +kernel
theorem d_Mo_calmReach_139 : decode prog_10_method_86_code 139 = .ok (.iaload, 1) := by decide +kernel
theorem d_Mo_calmReach_140 : decode prog_10_method_86_code 140 = .ok (.invokevirtual 68, 3) := by decide +kernel
theorem d_Mo_calmReach_143 : decode prog_10_method_86_code 143 = .ok (.iload 4, 2) := by decide +kernel
theorem d_Mo_calmReach_145 : decode prog_10_method_86_code 145 = .ok (.iload_n 3, 1) := by decide +kernel
theorem d_Mo_calmReach_146 : decode prog_10_method_86_code 146 = .ok (.bipush 100, 2) := by decide +kernel
theorem d_Mo_calmReach_148 : decode prog_10_method_86_code 148 = .ok (.invokevirtual 239, 3) := by decide +kernel
theorem d_Mo_calmReach_151 : decode prog_10_method_86_code 151 = .ok (.iconst 1, 1) := by decide +kernel
theorem d_Mo_calmReach_152 : decode prog_10_method_86_code 152 = .ok (.if_icmp .gt 8, 3) := by decide +kernel
theorem d_Mo_calmReach_155 : decode prog_10_method_86_code 155 = .ok (.iload 7, 2) := by decide +kernel
theorem d_Mo_calmReach_157 : decode prog_10_method_86_code 157 = .ok (.goto 5, 3) := by decide +kernel
theorem d_Mo_calmReach_160 : decode prog_10_method_86_code 160 = .ok (.ldc 67, 2) := by decide +kernel
theorem d_Mo_calmReach_162 : decode prog_10_method_86_code 162 = .ok (.istore 6, 2) := by decide +kernel
theorem d_Mo_calmReach_164 : decode prog_10_method_86_code 164 = .ok (.iinc 7 1, 3) := by decide +kernel
theorem d_Mo_calmReach_167 : decode prog_10_method_86_code 167 = .ok (.goto (-89), 3) := by decide +kernel
theorem d_Mo_calmReach_170 : decode prog_10_method_86_code 170 = .ok (.aload_n 0, 1) := by decide +kernel
theorem d_Mo_calmReach_171 : decode prog_10_method_86_code 171 = .ok (.iload_n 1, 1) := by decide +kernel
theorem d_Mo_calmReach_172 : decode prog_10_method_86_code 172 = .ok (.iload_n 2, 1) := by decide +kernel
theorem d_Mo_calmReach_173 : decode prog_10_method_86_code 173 = .ok (.iload 4, 2) := by decide +kernel
theorem d_Mo_calmReach_175 : decode prog_10_method_86_code 175 = .ok (.iconst 0, 1) := by decide +kernel
theorem d_Mo_calmReach_176 : decode prog_10_method_86_code 176 = .ok (.iload 5, 2) := by decide +kernel
theorem d_Mo_calmReach_178 : decode prog_10_method_86_code 178 = .ok (.invokevirtual 92, 3) := by decide +kernel
theorem d_Mo_calmReach_181 : decode prog_10_method_86_code 181 = .ok (.iload 6, 2) := by decide +kernel
theorem d_Mo_calmReach_183 : decode prog_10_method_86_code 183 = .ok (.ireturn, 1) := by decide +kernel
theorem d_Mo_steepest_0 : decode prog_10_method_87_code 0 = .ok (.aload_n 0, 1) := by decide +kernel
theorem d_Mo_steepest_1 : decode prog_10_method_87_code 1 = .ok (.iconst 0, 1) := by decide +kernel
theorem d_Mo_steepest_2 : decode prog_10_method_87_code 2 = .ok (.putfield 37, 3) := by decide +kernel
theorem d_Mo_steepest_5 : decode prog_10_method_87_code 5 = .ok (.iload_n 1, 1) := by decide +kernel
theorem d_Mo_steepest_6 : decode prog_10_method_87_code 6 = .ok (.invokestatic 51, 3) := by decide +kernel
theorem d_Mo_steepest_9 : decode prog_10_method_87_code 9 = .ok (.ifCond .eq 21, 3) := by decide +kernel
theorem d_Mo_steepest_12 : decode prog_10_method_87_code 12 = .ok (.iload_n 2, 1) := by decide +kernel
theorem d_Mo_steepest_13 : decode prog_10_method_87_code 13 = .ok (.iconst 0, 1) := by decide +kernel
theorem d_Mo_steepest_14 : decode prog_10_method_87_code 14 = .ok (.iconst 2, 1) := by decide +kernel
theorem d_Mo_steepest_15 : decode prog_10_method_87_code 15 = .ok (.invokestatic 47, 3) := by decide +kernel
theorem d_Mo_steepest_18 : decode prog_10_method_87_code 18 = .ok (.ifCond .eq 12, 3) := by decide +kernel
theorem d_Mo_steepest_21 : decode prog_10_method_87_code 21 = .ok (.iload_n 3, 1) := by decide +kernel
theorem d_Mo_steepest_22 : decode prog_10_method_87_code 22 = .ok (.iconst 0, 1) := by decide +kernel
theorem d_Mo_steepest_23 : decode prog_10_method_87_code 23 = .ok (.iconst 1, 1) := by decide +kernel
theorem d_Mo_steepest_24 : decode prog_10_method_87_code 24 = .ok (.invokestatic 47, 3) := by decide +kernel
theorem d_Mo_steepest_27 : decode prog_10_method_87_code 27 = .ok (.ifCond .ne 6, 3) := by decide +kernel
theorem d_Mo_steepest_30 : decode prog_10_method_87_code 30 = .ok (.ldc 112, 2) := by decide +kernel
theorem d_Mo_steepest_32 : decode prog_10_method_87_code 32 = .ok (.ireturn, 1) := by decide +kernel
theorem d_Mo_steepest_33 : decode prog_10_method_87_code 33 = .ok (.iconst (-1), 1) := by decide +kernel
theorem d_Mo_steepest_34 : decode prog_10_method_87_code 34 = .ok (.istore 4, 2) := by decide +kernel
theorem d_Mo_steepest_36 : decode prog_10_method_87_code 36 = .ok (.iconst 0, 1) := by decide +kernel
theorem d_Mo_steepest_37 : decode prog_10_method_87_code 37 = .ok (.istore 5, 2) := by decide +kernel
theorem d_Mo_steepest_39 : decode prog_10_method_87_code 39 = .ok (.iload_n 1, 1) := by decide +kernel
theorem d_Mo_steepest_40 : decode prog_10_method_87_code 40 = .ok (.ifCond .ne 20, 3) := by decide +kernel
theorem d_Mo_steepest_43 : decode prog_10_method_87_code 43 = .ok (.aload_n 0, 1) := by decide +kernel
theorem d_Mo_steepest_44 : decode prog_10_method_87_code 44 = .ok (.iconst 0, 1) := by decide +kernel
theorem d_Mo_steepest_45 : decode prog_10_method_87_code 45 = .ok (.aload_n 0, 1) := by decide +kernel
theorem d_Mo_steepest_46 : decode prog_10_method_87_code 46 = .ok (.getfield 7, 3) := by decide +kernel
theorem d_Mo_steepest_49 : decode prog_10_method_87_code 49 = .ok (.sipush 235, 3) := by decide +kernel
theorem d_Mo_steepest_52 : decode prog_10_method_87_code 52 = .ok (.iaload, 1) := by decide +kernel
theorem d_Mo_steepest_53 : decode prog_10_method_87_code 53 = .ok (.iload_n 2, 1) := by decide +kernel
theorem d_Mo_steepest_54 : decode prog_10_method_87_code 54 = .ok (.invokevirtual 236, 3) := by decide +kernel
theorem d_Mo_steepest_57 : decode prog_10_method_87_code 57 = .ok (.goto 17, 3) := by decide +kernel
theorem d_Mo_steepest_60 : decode prog_10_method_87_code 60 = .ok (.aload_n 0, 1) := by decide +kernel
theorem d_Mo_steepest_61 : decode prog_10_method_87_code 61 = .ok (.aload_n 0, 1) := by decide +kernel
theorem d_Mo_steepest_62 : decode prog_10_method_87_code 62 = .ok (.getfield 7, 3) := by decide +kernel
theorem d_Mo_steepest_65 : decode prog_10_method_87_code 65 = .ok (.sipush 234, 3) := by decide +kernel
theorem d_Mo_steepest_68 : decode prog_10_method_87_code 68 = .ok (.iaload, 1) := by decide +kernel
theorem d_Mo_steepest_69 : decode prog_10_method_87_code 69 = .ok (.iconst 0, 1) := by decide +kernel
theorem d_Mo_steepest_70 : decode prog_10_method_87_code 70 = .ok (.iload_n 2, 1) := by decide +kernel
theorem d_Mo_steepest_71 : decode prog_10_method_87_code 71 = .ok (.invokevirtual 236, 3) := by decide +kernel
theorem d_Mo_steepest_74 : decode prog_10_method_87_code 74 = .ok (.istore 6, 2) := by decide +kernel
theorem d_Mo_steepest_76 : decode prog_10_method_87_code 76 = .ok (.iconst 0, 1) := by decide +kernel
theorem d_Mo_steepest_77 : decode prog_10_method_87_code 77 = .ok (.istore 7, 2) := by decide +kernel
theorem d_Mo_steepest_79 : decode prog_10_method_87_code 79 = .ok (.iload 7, 2) := by decide +kernel
theorem d_Mo_steepest_81 : decode prog_10_method_87_code 81 = .ok (.sipush 1000, 3) := by decide +kernel
theorem d_Mo_steepest_84 : decode prog_10_method_87_code 84 = .ok (.if_icmp .ge 103, 3) := by decide +kernel
theorem d_Mo_steepest_87 : decode prog_10_method_87_code 87 = .ok (.iload_n 1, 1) := by decide +kernel
theorem d_Mo_steepest_88 : decode prog_10_method_87_code 88 = .ok (.ifCond .ne 23, 3) := by decide +kernel
theorem d_Mo_steepest_91 : decode prog_10_method_87_code 91 = .ok (.aload_n 0, 1) := by decide +kernel
theorem d_Mo_steepest_92 : decode prog_10_method_87_code 92 = .ok (.iload 7, 2) := by decide +kernel
theorem d_Mo_steepest_94 : decode prog_10_method_87_code 94 = .ok (.iconst 1, 1) := by decide +kernel
theorem d_Mo_steepest_95 : decode prog_10_method_87_code 95 = .ok (.iadd, 1) := by decide +kernel
theorem d_Mo_steepest_96 : decode prog_10_method_87_code 96 = .ok (.aload_n 0, 1) := by decide +kernel
theorem d_Mo_steepest_97 : decode prog_10_method_87_code 97 = .ok (.getfield 7, 3) := by decide +kernel
theorem d_Mo_steepest_100 : decode prog_10_method_87_code 100 = .ok (.sipush 235, 3) := by decide +kernel
theorem d_Mo_steepest_103 : decode prog_10_method_87_code 103 = .ok (.iaload, 1) := by decide +kernel
theorem d_Mo_steepest_104 : decode prog_10_method_87_code 104 = .ok (.iload_n 2, 1) := by decide +kernel
theorem d_Mo_steepest_105 : decode prog_10_method_87_code 105 = .ok (.invokevirtual 236, 3) := by decide +kernel
theorem d_Mo_steepest_108 : decode prog_10_method_87_code 108 = .ok (.goto 20, 3) := by decide +kernel
theorem d_Mo_steepest_111 : decode prog_10_method_87_code 111 = .ok (.aload_n 0, 1) := by decide +kernel
theorem d_Mo_steepest_112 : decode prog_10_method_87_code 112 = .ok (.aload_n 0, 1) := by decide +kernel
theorem d_Mo_steepest_113 : decode prog_10_method_87_code 113 = .ok (.getfield 7, 3) := by decide +kernel
theorem d_Mo_steepest_116 : decode prog_10_method_87_code 116 = .ok (.sipush 234, 3) := by decide +kernel
theorem d_Mo_steepest_119 : decode prog_10_method_87_code 119 = .ok (.iaload, 1) := by decide +kernel
theorem d_Mo_steepest_120 : decode prog_10_method_87_code 120 = .ok (.iload 7, 2) := by decide +kernel
theorem d_Mo_steepest_122 : decode prog_10_method_87_code 122 = .ok (.iconst 1, 1) := by decide +kernel
theorem d_Mo_steepest_123 : decode prog_10_method_87_code 123 = .ok (.iadd, 1) := by decide +kernel
theorem d_Mo_steepest_124 : decode prog_10_method_87_code 124 = .ok (.iload_n 2, 1) := by decide +kernel
theorem d_Mo_steepest_125 : decode prog_10_method_87_code 125 = .ok (.invokevirtual 236, 3) := by decide +kernel
theorem d_Mo_steepest_128 : decode prog_10_method_87_code 128 = .ok (.istore 8, 2) := by decide +kernel
theorem d_Mo_steepest_130 : decode prog_10_method_87_code 130 = .ok (.iload 8, 2) := by decide +kernel
theorem d_Mo_steepest_132 : decode prog_10_method_87_code 132 = .ok (.iload 6, 2) := by decide +kernel
theorem d_Mo_steepest_134 : decode prog_10_method_87_code 134 = .ok (.invokestatic 85, 3) := by decide +kernel
theorem d_Mo_steepest_137 : decode prog_10_method_87_code 137 = .ok (.iload 4, 2) := by decide +kernel
theorem d_Mo_steepest_139 : decode prog_10_method_87_code 139 = .ok (.if_icmp .le 8, 3) := by decide +kernel
theorem d_Mo_steepest_142 : decode prog_10_method_87_code 142 = .ok (.iload 7, 2) := by decide +kernel
theorem d_Mo_steepest_144 : decode prog_10_method_87_code 144 = .ok (.goto 5, 3) := by decide +kernel
theorem d_Mo_steepest_147 : decode prog_10_method_87_code 147 = .ok (.iload 5, 2) := by decide +kernel
theorem d_Mo_steepest_149 : decode prog_10_method_87_code 149 = .ok (.istore 5, 2) := by decide +kernel
theorem d_Mo_steepest_151 : decode prog_10_method_87_code 151 = .ok (.iload 8, 2) := by decide +kernel
theorem d_Mo_steepest_153 : decode prog_10_method_87_code 153 = .ok (.iload 6, 2) := by decide +kernel
theorem d_Mo_steepest_155 : decode prog_10_method_87_code 155 = .ok (.invokestatic 85, 3) := by decide +kernel
theorem d_Mo_steepest_158 : decode prog_10_method_87_code 158 = .ok (.iload 4, 2) := by decide +kernel
theorem d_Mo_steepest_160 : decode prog_10_method_87_code 160 = .ok (.if_icmp .le 13, 3) := by decide +kernel
theorem d_Mo_steepest_163 : decode prog_10_method_87_code 163 = .ok (.iload 8, 2) := by decide +kernel
theorem d_Mo_steepest_165 : decode prog_10_method_87_code 165 = .ok (.iload 6, 2) := by decide +kernel
theorem d_Mo_steepest_167 : decode prog_10_method_87_code 167 = .ok (.invokestatic 85, 3) := by decide +kernel
theorem d_Mo_steepest_170 : decode prog_10_method_87_code 170 = .ok (.goto 5, 3) := by decide +kernel
theorem d_Mo_steepest_173 : decode prog_10_method_87_code 173 = .ok (.iload 4, 2) := by decide +kernel
theorem d_Mo_steepest_175 : decode prog_10_method_87_code 175 = .ok (.istore 4, 2) := by decide +kernel
theorem d_Mo_steepest_177 : decode prog_10_method_87_code 177 = .ok (.iload 8, 2) := by decide +kernel
theorem d_Mo_steepest_179 : decode prog_10_method_87_code 179 = .ok (.istore 6, 2) := by decide +kernel
theorem d_Mo_steepest_181 : decode prog_10_method_87_code 181 = .ok (.iinc 7 1, 3) := by decide +kernel
theorem d_Mo_steepest_184 : decode prog_10_method_87_code 184 = .ok (.goto (-105), 3) := by decide +kernel
theorem d_Mo_steepest_187 : decode prog_10_method_87_code 187 = .ok (.iload_n 3, 1) := by decide +kernel
theorem d_Mo_steepest_188 : decode prog_10_method_87_code 188 = .ok (.ifCond .ne 8, 3) := by decide +kernel
theorem d_Mo_steepest_191 : decode prog_10_method_87_code 191 = .ok (.iload 4, 2) := by decide +kernel
theorem d_Mo_steepest_193 : decode prog_10_method_87_code 193 = .ok (.goto 5, 3) := by decide +kernel
theorem d_Mo_steepest_196 : decode prog_10_method_87_code 196 = .ok (.iload 5, 2) := by decide +kernel
theorem d_Mo_steepest_198 : decode prog_10_method_87_code 198 = .ok (.ireturn, 1) := by decide +kernel
