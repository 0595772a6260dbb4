theorem dL_stirred_0 : decode cL_stirred 0 = .ok (.aload_n 0, 1) := by decide +kernel
theorem dL_stirred_1 : decode cL_stirred 1 = .ok (.arraylength, 1) := by decide +kernel
theorem dL_stirred_2 : decode cL_stirred 2 = .ok (.iconst 5, 1) := by decide +kernel
theorem dL_stirred_3 : decode cL_stirred 3 = .ok (.iadd, 1) := by decide +kernel
theorem dL_stirred_4 : decode cL_stirred 4 = .ok (.istore_n 1, 1) := by decide +kernel
theorem dL_stirred_5 : decode cL_stirred 5 = .ok (.aload_n 0, 1) := by decide +kernel
theorem dL_stirred_6 : decode cL_stirred 6 = .ok (.astore_n 2, 1) := by decide +kernel
theorem dL_stirred_7 : decode cL_stirred 7 = .ok (.aload_n 2, 1) := by decide +kernel
theorem dL_stirred_8 : decode cL_stirred 8 = .ok (.arraylength, 1) := by decide +kernel
theorem dL_stirred_9 : decode cL_stirred 9 = .ok (.istore_n 3, 1) := by decide +kernel
theorem dL_stirred_10 : decode cL_stirred 10 = .ok (.iconst 0, 1) := by decide +kernel
theorem dL_stirred_11 : decode cL_stirred 11 = .ok (.istore 4, 2) := by decide +kernel
theorem dL_stirred_13 : decode cL_stirred 13 = .ok (.iload 4, 2) := by decide +kernel
theorem dL_stirred_15 : decode cL_stirred 15 = .ok (.iload_n 3, 1) := by decide +kernel
theorem dL_stirred_16 : decode cL_stirred 16 = .ok (.if_icmp .ge 23, 3) := by decide +kernel
theorem dL_stirred_19 : decode cL_stirred 19 = .ok (.aload_n 2, 1) := by decide +kernel
theorem dL_stirred_20 : decode cL_stirred 20 = .ok (.iload 4, 2) := by decide +kernel
theorem dL_stirred_22 : decode cL_stirred 22 = .ok (.iaload, 1) := by decide +kernel
theorem dL_stirred_23 : decode cL_stirred 23 = .ok (.istore 5, 2) := by decide +kernel
theorem dL_stirred_25 : decode cL_stirred 25 = .ok (.iload_n 1, 1) := by decide +kernel
theorem dL_stirred_26 : decode cL_stirred 26 = .ok (.iload 5, 2) := by decide +kernel
theorem dL_stirred_28 : decode cL_stirred 28 = .ok (.ixor, 1) := by decide +kernel
theorem dL_stirred_29 : decode cL_stirred 29 = .ok (.ldc 7, 2) := by decide +kernel
theorem dL_stirred_31 : decode cL_stirred 31 = .ok (.imul, 1) := by decide +kernel
theorem dL_stirred_32 : decode cL_stirred 32 = .ok (.istore_n 1, 1) := by decide +kernel
theorem dL_stirred_33 : decode cL_stirred 33 = .ok (.iinc 4 1, 3) := by decide +kernel
theorem dL_stirred_36 : decode cL_stirred 36 = .ok (.goto (-23), 3) := by decide +kernel
theorem dL_stirred_39 : decode cL_stirred 39 = .ok (.iload_n 1, 1) := by decide +kernel
theorem dL_stirred_40 : decode cL_stirred 40 = .ok (.iload_n 1, 1) := by decide +kernel
theorem dL_stirred_41 : decode cL_stirred 41 = .ok (.bipush 15, 2) := by decide +kernel
theorem dL_stirred_43 : decode cL_stirred 43 = .ok (.iushr, 1) := by decide +kernel
theorem dL_stirred_44 : decode cL_stirred 44 = .ok (.ixor, 1) := by decide +kernel
theorem dL_stirred_45 : decode cL_stirred 45 = .ok (.istore_n 1, 1) := by decide +kernel
theorem dL_stirred_46 : decode cL_stirred 46 = .ok (.iload_n 1, 1) := by decide +kernel
theorem dL_stirred_47 : decode cL_stirred 47 = .ok (.iconst 3, 1) := by decide +kernel
theorem dL_stirred_48 : decode cL_stirred 48 = .ok (.iand, 1) := by decide +kernel
theorem dL_stirred_49 : decode cL_stirred 49 = .ok (.ifCond .ne 7, 3) := by decide +kernel
theorem dL_stirred_52 : decode cL_stirred 52 = .ok (.iconst 0, 1) := by decide +kernel
theorem dL_stirred_53 : decode cL_stirred 53 = .ok (.goto 4, 3) := by decide +kernel
theorem dL_stirred_56 : decode cL_stirred 56 = .ok (.iload_n 1, 1) := by decide +kernel
theorem dL_stirred_57 : decode cL_stirred 57 = .ok (.ireturn, 1) := by decide +kernel
theorem dL_cell_0 : decode cL_cell 0 = .ok (.aload_n 0, 1) := by decide +kernel
theorem dL_cell_1 : decode cL_cell 1 = .ok (.invokestatic 8, 3) := by decide +kernel
theorem dL_cell_4 : decode cL_cell 4 = .ok (.istore_n 2, 1) := by decide +kernel
theorem dL_cell_5 : decode cL_cell 5 = .ok (.iload_n 2, 1) := by decide +kernel
theorem dL_cell_6 : decode cL_cell 6 = .ok (.ifCond .ne 24, 3) := by decide +kernel
theorem dL_cell_9 : decode cL_cell 9 = .ok (.iload_n 1, 1) := by decide +kernel
theorem dL_cell_10 : decode cL_cell 10 = .ok (.aload_n 0, 1) := by decide +kernel
theorem dL_cell_11 : decode cL_cell 11 = .ok (.arraylength, 1) := by decide +kernel
theorem dL_cell_12 : decode cL_cell 12 = .ok (.if_icmp .ge 9, 3) := by decide +kernel
theorem dL_cell_15 : decode cL_cell 15 = .ok (.aload_n 0, 1) := by decide +kernel
theorem dL_cell_16 : decode cL_cell 16 = .ok (.iload_n 1, 1) := by decide +kernel
theorem dL_cell_17 : decode cL_cell 17 = .ok (.iaload, 1) := by decide +kernel
theorem dL_cell_18 : decode cL_cell 18 = .ok (.goto 11, 3) := by decide +kernel
theorem dL_cell_21 : decode cL_cell 21 = .ok (.sipush 5003, 3) := by decide +kernel
theorem dL_cell_24 : decode cL_cell 24 = .ok (.iload_n 1, 1) := by decide +kernel
theorem dL_cell_25 : decode cL_cell 25 = .ok (.imul, 1) := by decide +kernel
theorem dL_cell_26 : decode cL_cell 26 = .ok (.bipush 29, 2) := by decide +kernel
theorem dL_cell_28 : decode cL_cell 28 = .ok (.iadd, 1) := by decide +kernel
theorem dL_cell_29 : decode cL_cell 29 = .ok (.ireturn, 1) := by decide +kernel
theorem dL_cell_30 : decode cL_cell 30 = .ok (.iload_n 2, 1) := by decide +kernel
theorem dL_cell_31 : decode cL_cell 31 = .ok (.ldc 14, 2) := by decide +kernel
theorem dL_cell_33 : decode cL_cell 33 = .ok (.iload_n 1, 1) := by decide +kernel
theorem dL_cell_34 : decode cL_cell 34 = .ok (.imul, 1) := by decide +kernel
theorem dL_cell_35 : decode cL_cell 35 = .ok (.ixor, 1) := by decide +kernel
theorem dL_cell_36 : decode cL_cell 36 = .ok (.ldc 15, 2) := by decide +kernel
theorem dL_cell_38 : decode cL_cell 38 = .ok (.imul, 1) := by decide +kernel
theorem dL_cell_39 : decode cL_cell 39 = .ok (.istore_n 2, 1) := by decide +kernel
theorem dL_cell_40 : decode cL_cell 40 = .ok (.iload_n 2, 1) := by decide +kernel
theorem dL_cell_41 : decode cL_cell 41 = .ok (.iload_n 2, 1) := by decide +kernel
theorem dL_cell_42 : decode cL_cell 42 = .ok (.bipush 12, 2) := by decide +kernel
theorem dL_cell_44 : decode cL_cell 44 = .ok (.iushr, 1) := by decide +kernel
theorem dL_cell_45 : decode cL_cell 45 = .ok (.ixor, 1) := by decide +kernel
theorem dL_cell_46 : decode cL_cell 46 = .ok (.ldc 16, 2) := by decide +kernel
theorem dL_cell_48 : decode cL_cell 48 = .ok (.imul, 1) := by decide +kernel
theorem dL_cell_49 : decode cL_cell 49 = .ok (.istore_n 2, 1) := by decide +kernel
theorem dL_cell_50 : decode cL_cell 50 = .ok (.iload_n 2, 1) := by decide +kernel
theorem dL_cell_51 : decode cL_cell 51 = .ok (.iload_n 2, 1) := by decide +kernel
theorem dL_cell_52 : decode cL_cell 52 = .ok (.bipush 15, 2) := by decide +kernel
theorem dL_cell_54 : decode cL_cell 54 = .ok (.iushr, 1) := by decide +kernel
theorem dL_cell_55 : decode cL_cell 55 = .ok (.ixor, 1) := by decide +kernel
theorem dL_cell_56 : decode cL_cell 56 = .ok (.ireturn, 1) := by decide +kernel
theorem dL_some_0 : decode cL_some 0 = .ok (.aload_n 0, 1) := by decide +kernel
theorem dL_some_1 : decode cL_some 1 = .ok (.iload_n 1, 1) := by decide +kernel
theorem dL_some_2 : decode cL_some 2 = .ok (.invokestatic 17, 3) := by decide +kernel
theorem dL_some_5 : decode cL_some 5 = .ok (.iconst 3, 1) := by decide +kernel
theorem dL_some_6 : decode cL_some 6 = .ok (.iushr, 1) := by decide +kernel
theorem dL_some_7 : decode cL_some 7 = .ok (.iload_n 2, 1) := by decide +kernel
theorem dL_some_8 : decode cL_some 8 = .ok (.irem, 1) := by decide +kernel
theorem dL_some_9 : decode cL_some 9 = .ok (.ireturn, 1) := by decide +kernel
theorem dL_draws_0 : decode cL_draws 0 = .ok (.iconst 1, 1) := by decide +kernel
theorem dL_draws_1 : decode cL_draws 1 = .ok (.aload_n 1, 1) := by decide +kernel
theorem dL_draws_2 : decode cL_draws 2 = .ok (.iload_n 2, 1) := by decide +kernel
theorem dL_draws_3 : decode cL_draws 3 = .ok (.bipush 6, 2) := by decide +kernel
theorem dL_draws_5 : decode cL_draws 5 = .ok (.invokestatic 21, 3) := by decide +kernel
theorem dL_draws_8 : decode cL_draws 8 = .ok (.iadd, 1) := by decide +kernel
theorem dL_draws_9 : decode cL_draws 9 = .ok (.istore_n 3, 1) := by decide +kernel
theorem dL_draws_10 : decode cL_draws 10 = .ok (.iconst 1, 1) := by decide +kernel
theorem dL_draws_11 : decode cL_draws 11 = .ok (.aload_n 1, 1) := by decide +kernel
theorem dL_draws_12 : decode cL_draws 12 = .ok (.iload_n 2, 1) := by decide +kernel
theorem dL_draws_13 : decode cL_draws 13 = .ok (.iconst 1, 1) := by decide +kernel
theorem dL_draws_14 : decode cL_draws 14 = .ok (.iadd, 1) := by decide +kernel
theorem dL_draws_15 : decode cL_draws 15 = .ok (.bipush 6, 2) := by decide +kernel
theorem dL_draws_17 : decode cL_draws 17 = .ok (.invokestatic 21, 3) := by decide +kernel
theorem dL_draws_20 : decode cL_draws 20 = .ok (.iadd, 1) := by decide +kernel
theorem dL_draws_21 : decode cL_draws 21 = .ok (.istore 4, 2) := by decide +kernel
theorem dL_draws_23 : decode cL_draws 23 = .ok (.aload_n 0, 1) := by decide +kernel
theorem dL_draws_24 : decode cL_draws 24 = .ok (.iload_n 3, 1) := by decide +kernel
theorem dL_draws_25 : decode cL_draws 25 = .ok (.iload 4, 2) := by decide +kernel
theorem dL_draws_27 : decode cL_draws 27 = .ok (.iconst 1, 1) := by decide +kernel
theorem dL_draws_28 : decode cL_draws 28 = .ok (.aload_n 1, 1) := by decide +kernel
theorem dL_draws_29 : decode cL_draws 29 = .ok (.iload_n 2, 1) := by decide +kernel
theorem dL_draws_30 : decode cL_draws 30 = .ok (.iconst 2, 1) := by decide +kernel
theorem dL_draws_31 : decode cL_draws 31 = .ok (.iadd, 1) := by decide +kernel
theorem dL_draws_32 : decode cL_draws 32 = .ok (.iconst 3, 1) := by decide +kernel
theorem dL_draws_33 : decode cL_draws 33 = .ok (.invokestatic 21, 3) := by decide +kernel
theorem dL_draws_36 : decode cL_draws 36 = .ok (.iadd, 1) := by decide +kernel
theorem dL_draws_37 : decode cL_draws 37 = .ok (.invokevirtual 25, 3) := by decide +kernel
theorem dL_draws_40 : decode cL_draws 40 = .ok (.iload_n 3, 1) := by decide +kernel
theorem dL_draws_41 : decode cL_draws 41 = .ok (.iload 4, 2) := by decide +kernel
theorem dL_draws_43 : decode cL_draws 43 = .ok (.iadd, 1) := by decide +kernel
theorem dL_draws_44 : decode cL_draws 44 = .ok (.if_icmp .ne 21, 3) := by decide +kernel
theorem dL_draws_47 : decode cL_draws 47 = .ok (.aload_n 0, 1) := by decide +kernel
theorem dL_draws_48 : decode cL_draws 48 = .ok (.aload_n 1, 1) := by decide +kernel
theorem dL_draws_49 : decode cL_draws 49 = .ok (.iload_n 2, 1) := by decide +kernel
theorem dL_draws_50 : decode cL_draws 50 = .ok (.iconst 3, 1) := by decide +kernel
theorem dL_draws_51 : decode cL_draws 51 = .ok (.iadd, 1) := by decide +kernel
theorem dL_draws_52 : decode cL_draws 52 = .ok (.invokestatic 17, 3) := by decide +kernel
theorem dL_draws_55 : decode cL_draws 55 = .ok (.invokevirtual 31, 3) := by decide +kernel
theorem dL_draws_58 : decode cL_draws 58 = .ok (.ifCond .lt 7, 3) := by decide +kernel
theorem dL_draws_61 : decode cL_draws 61 = .ok (.iconst 1, 1) := by decide +kernel
theorem dL_draws_62 : decode cL_draws 62 = .ok (.goto 4, 3) := by decide +kernel
theorem dL_draws_65 : decode cL_draws 65 = .ok (.iconst 0, 1) := by decide +kernel
theorem dL_draws_66 : decode cL_draws 66 = .ok (.ireturn, 1) := by decide +kernel
theorem dL_law_0 : decode cL_law 0 = .ok (.new 26, 3) := by decide +kernel
theorem dL_law_3 : decode cL_law 3 = .ok (.dup, 1) := by decide +kernel
theorem dL_law_4 : decode cL_law 4 = .ok (.invokespecial 35, 3) := by decide +kernel
theorem dL_law_7 : decode cL_law 7 = .ok (.astore_n 1, 1) := by decide +kernel
theorem dL_law_8 : decode cL_law 8 = .ok (.iconst 0, 1) := by decide +kernel
theorem dL_law_9 : decode cL_law 9 = .ok (.istore_n 2, 1) := by decide +kernel
theorem dL_law_10 : decode cL_law 10 = .ok (.iload_n 2, 1) := by decide +kernel
theorem dL_law_11 : decode cL_law 11 = .ok (.bipush 40, 2) := by decide +kernel
theorem dL_law_13 : decode cL_law 13 = .ok (.if_icmp .ge 262, 3) := by decide +kernel
theorem dL_law_16 : decode cL_law 16 = .ok (.aload_n 1, 1) := by decide +kernel
theorem dL_law_17 : decode cL_law 17 = .ok (.aload_n 0, 1) := by decide +kernel
theorem dL_law_18 : decode cL_law 18 = .ok (.iload_n 2, 1) := by decide +kernel
theorem dL_law_19 : decode cL_law 19 = .ok (.invokestatic 36, 3) := by decide +kernel
theorem dL_law_22 : decode cL_law 22 = .ok (.ifCond .ne 5, 3) := by decide +kernel
theorem dL_law_25 : decode cL_law 25 = .ok (.iconst 0, 1) := by decide +kernel
theorem dL_law_26 : decode cL_law 26 = .ok (.ireturn, 1) := by decide +kernel
theorem dL_law_27 : decode cL_law 27 = .ok (.aload_n 1, 1) := by decide +kernel
theorem dL_law_28 : decode cL_law 28 = .ok (.invokevirtual 40, 3) := by decide +kernel
theorem dL_law_31 : decode cL_law 31 = .ok (.istore_n 3, 1) := by decide +kernel
theorem dL_law_32 : decode cL_law 32 = .ok (.aload_n 1, 1) := by decide +kernel
theorem dL_law_33 : decode cL_law 33 = .ok (.invokevirtual 44, 3) := by decide +kernel
theorem dL_law_36 : decode cL_law 36 = .ok (.istore 4, 2) := by decide +kernel
theorem dL_law_38 : decode cL_law 38 = .ok (.iload_n 3, 1) := by decide +kernel
theorem dL_law_39 : decode cL_law 39 = .ok (.iload 4, 2) := by decide +kernel
theorem dL_law_41 : decode cL_law 41 = .ok (.imul, 1) := by decide +kernel
theorem dL_law_42 : decode cL_law 42 = .ok (.newarray .int, 2) := by decide +kernel
theorem dL_law_44 : decode cL_law 44 = .ok (.astore 5, 2) := by decide +kernel
theorem dL_law_46 : decode cL_law 46 = .ok (.iconst 0, 1) := by decide +kernel
theorem dL_law_47 : decode cL_law 47 = .ok (.istore 6, 2) := by decide +kernel
theorem dL_law_49 : decode cL_law 49 = .ok (.iload 6, 2) := by decide +kernel
theorem dL_law_51 : decode cL_law 51 = .ok (.aload 5, 2) := by decide +kernel
theorem dL_law_53 : decode cL_law 53 = .ok (.arraylength, 1) := by decide +kernel
theorem dL_law_54 : decode cL_law 54 = .ok (.if_icmp .ge 28, 3) := by decide +kernel
theorem dL_law_57 : decode cL_law 57 = .ok (.aload 5, 2) := by decide +kernel
theorem dL_law_59 : decode cL_law 59 = .ok (.iload 6, 2) := by decide +kernel
theorem dL_law_61 : decode cL_law 61 = .ok (.aload_n 1, 1) := by decide +kernel
theorem dL_law_62 : decode cL_law 62 = .ok (.iload 6, 2) := by decide +kernel
theorem dL_law_64 : decode cL_law 64 = .ok (.iload 4, 2) := by decide +kernel
theorem dL_law_66 : decode cL_law 66 = .ok (.idiv, 1) := by decide +kernel
theorem dL_law_67 : decode cL_law 67 = .ok (.iload 6, 2) := by decide +kernel
theorem dL_law_69 : decode cL_law 69 = .ok (.iload 4, 2) := by decide +kernel
theorem dL_law_71 : decode cL_law 71 = .ok (.irem, 1) := by decide +kernel
theorem dL_law_72 : decode cL_law 72 = .ok (.invokevirtual 47, 3) := by decide +kernel
theorem dL_law_75 : decode cL_law 75 = .ok (.iastore, 1) := by decide +kernel
theorem dL_law_76 : decode cL_law 76 = .ok (.iinc 6 1, 3) := by decide +kernel
theorem dL_law_79 : decode cL_law 79 = .ok (.goto (-30), 3) := by decide +kernel
theorem dL_law_82 : decode cL_law 82 = .ok (.aload_n 1, 1) := by decide +kernel
theorem dL_law_83 : decode cL_law 83 = .ok (.invokevirtual 51, 3) := by decide +kernel
theorem dL_law_86 : decode cL_law 86 = .ok (.bipush (-8), 2) := by decide +kernel
theorem dL_law_88 : decode cL_law 88 = .ok (.if_icmp .ne 21, 3) := by decide +kernel
theorem dL_law_91 : decode cL_law 91 = .ok (.aload_n 1, 1) := by decide +kernel
theorem dL_law_92 : decode cL_law 92 = .ok (.invokevirtual 54, 3) := by decide +kernel
theorem dL_law_95 : decode cL_law 95 = .ok (.iconst 1, 1) := by decide +kernel
theorem dL_law_96 : decode cL_law 96 = .ok (.if_icmp .ne 13, 3) := by decide +kernel
theorem dL_law_99 : decode cL_law 99 = .ok (.aload_n 1, 1) := by decide +kernel
theorem dL_law_100 : decode cL_law 100 = .ok (.invokevirtual 57, 3) := by decide +kernel
theorem dL_law_103 : decode cL_law 103 = .ok (.aload 5, 2) := by decide +kernel
theorem dL_law_105 : decode cL_law 105 = .ok (.arraylength, 1) := by decide +kernel
theorem dL_law_106 : decode cL_law 106 = .ok (.if_icmp .eq 5, 3) := by decide +kernel
theorem dL_law_109 : decode cL_law 109 = .ok (.iconst 0, 1) := by decide +kernel
theorem dL_law_110 : decode cL_law 110 = .ok (.ireturn, 1) := by decide +kernel
theorem dL_law_111 : decode cL_law 111 = .ok (.iconst 0, 1) := by decide +kernel
theorem dL_law_112 : decode cL_law 112 = .ok (.istore 6, 2) := by decide +kernel
theorem dL_law_114 : decode cL_law 114 = .ok (.iload 6, 2) := by decide +kernel
theorem dL_law_116 : decode cL_law 116 = .ok (.iconst 3, 1) := by decide +kernel
theorem dL_law_117 : decode cL_law 117 = .ok (.if_icmp .ge 48, 3) := by decide +kernel
theorem dL_law_120 : decode cL_law 120 = .ok (.aload_n 0, 1) := by decide +kernel
theorem dL_law_121 : decode cL_law 121 = .ok (.iload_n 2, 1) := by decide +kernel
theorem dL_law_122 : decode cL_law 122 = .ok (.iconst 4, 1) := by decide +kernel
theorem dL_law_123 : decode cL_law 123 = .ok (.iadd, 1) := by decide +kernel
theorem dL_law_124 : decode cL_law 124 = .ok (.iload 6, 2) := by decide +kernel
theorem dL_law_126 : decode cL_law 126 = .ok (.iadd, 1) := by decide +kernel
theorem dL_law_127 : decode cL_law 127 = .ok (.aload 5, 2) := by decide +kernel
theorem dL_law_129 : decode cL_law 129 = .ok (.arraylength, 1) := by decide +kernel
theorem dL_law_130 : decode cL_law 130 = .ok (.invokestatic 21, 3) := by decide +kernel
theorem dL_law_133 : decode cL_law 133 = .ok (.istore 7, 2) := by decide +kernel
theorem dL_law_135 : decode cL_law 135 = .ok (.aload_n 1, 1) := by decide +kernel
theorem dL_law_136 : decode cL_law 136 = .ok (.iload 7, 2) := by decide +kernel
theorem dL_law_138 : decode cL_law 138 = .ok (.iload 4, 2) := by decide +kernel
theorem dL_law_140 : decode cL_law 140 = .ok (.idiv, 1) := by decide +kernel
theorem dL_law_141 : decode cL_law 141 = .ok (.iload 7, 2) := by decide +kernel
theorem dL_law_143 : decode cL_law 143 = .ok (.iload 4, 2) := by decide +kernel
theorem dL_law_145 : decode cL_law 145 = .ok (.irem, 1) := by decide +kernel
theorem dL_law_146 : decode cL_law 146 = .ok (.aload 5, 2) := by decide +kernel
theorem dL_law_148 : decode cL_law 148 = .ok (.iload 7, 2) := by decide +kernel
theorem dL_law_150 : decode cL_law 150 = .ok (.iaload, 1) := by decide +kernel
theorem dL_law_151 : decode cL_law 151 = .ok (.invokevirtual 60, 3) := by decide +kernel
theorem dL_law_154 : decode cL_law 154 = .ok (.ifCond .ge 5, 3) := by decide +kernel
theorem dL_law_157 : decode cL_law 157 = .ok (.iconst 0, 1) := by decide +kernel
theorem dL_law_158 : decode cL_law 158 = .ok (.ireturn, 1) := by decide +kernel
theorem dL_law_159 : decode cL_law 159 = .ok (.iinc 6 1, 3) := by decide +kernel
theorem dL_law_162 : decode cL_law 162 = .ok (.goto (-48), 3) := by decide +kernel
theorem dL_law_165 : decode cL_law 165 = .ok (.aload_n 1, 1) := by decide +kernel
theorem dL_law_166 : decode cL_law 166 = .ok (.invokevirtual 63, 3) := by decide +kernel
theorem dL_law_169 : decode cL_law 169 = .ok (.ifCond .lt 28, 3) := by decide +kernel
theorem dL_law_172 : decode cL_law 172 = .ok (.aload_n 1, 1) := by decide +kernel
theorem dL_law_173 : decode cL_law 173 = .ok (.aload 5, 2) := by decide +kernel
theorem dL_law_175 : decode cL_law 175 = .ok (.invokestatic 66, 3) := by decide +kernel
theorem dL_law_178 : decode cL_law 178 = .ok (.ifCond .eq 19, 3) := by decide +kernel
theorem dL_law_181 : decode cL_law 181 = .ok (.aload_n 1, 1) := by decide +kernel
theorem dL_law_182 : decode cL_law 182 = .ok (.invokevirtual 70, 3) := by decide +kernel
theorem dL_law_185 : decode cL_law 185 = .ok (.ifCond .lt 12, 3) := by decide +kernel
theorem dL_law_188 : decode cL_law 188 = .ok (.aload_n 1, 1) := by decide +kernel
theorem dL_law_189 : decode cL_law 189 = .ok (.aload 5, 2) := by decide +kernel
theorem dL_law_191 : decode cL_law 191 = .ok (.invokestatic 66, 3) := by decide +kernel
theorem dL_law_194 : decode cL_law 194 = .ok (.ifCond .ne 5, 3) := by decide +kernel
theorem dL_law_197 : decode cL_law 197 = .ok (.iconst 0, 1) := by decide +kernel
theorem dL_law_198 : decode cL_law 198 = .ok (.ireturn, 1) := by decide +kernel
theorem dL_law_199 : decode cL_law 199 = .ok (.aload_n 1, 1) := by decide +kernel
theorem dL_law_200 : decode cL_law 200 = .ok (.invokevirtual 54, 3) := by decide +kernel
theorem dL_law_203 : decode cL_law 203 = .ok (.istore 6, 2) := by decide +kernel
theorem dL_law_205 : decode cL_law 205 = .ok (.iload 6, 2) := by decide +kernel
theorem dL_law_207 : decode cL_law 207 = .ok (.ifCond .ne 14, 3) := by decide +kernel
theorem dL_law_210 : decode cL_law 210 = .ok (.aload_n 1, 1) := by decide +kernel
theorem dL_law_211 : decode cL_law 211 = .ok (.iconst 2, 1) := by decide +kernel
theorem dL_law_212 : decode cL_law 212 = .ok (.invokevirtual 73, 3) := by decide +kernel
theorem dL_law_215 : decode cL_law 215 = .ok (.iconst 2, 1) := by decide +kernel
theorem dL_law_216 : decode cL_law 216 = .ok (.if_icmp .eq 5, 3) := by decide +kernel
theorem dL_law_219 : decode cL_law 219 = .ok (.iconst 0, 1) := by decide +kernel
theorem dL_law_220 : decode cL_law 220 = .ok (.ireturn, 1) := by decide +kernel
theorem dL_law_221 : decode cL_law 221 = .ok (.iconst 0, 1) := by decide +kernel
theorem dL_law_222 : decode cL_law 222 = .ok (.istore 7, 2) := by decide +kernel
theorem dL_law_224 : decode cL_law 224 = .ok (.iload 7, 2) := by decide +kernel
theorem dL_law_226 : decode cL_law 226 = .ok (.aload 5, 2) := by decide +kernel
theorem dL_law_228 : decode cL_law 228 = .ok (.arraylength, 1) := by decide +kernel
theorem dL_law_229 : decode cL_law 229 = .ok (.if_icmp .ge 40, 3) := by decide +kernel
theorem dL_law_232 : decode cL_law 232 = .ok (.iload 6, 2) := by decide +kernel
theorem dL_law_234 : decode cL_law 234 = .ok (.iconst 1, 1) := by decide +kernel
theorem dL_law_235 : decode cL_law 235 = .ok (.if_icmp .ne 34, 3) := by decide +kernel
theorem dL_law_238 : decode cL_law 238 = .ok (.aload_n 1, 1) := by decide +kernel
theorem dL_law_239 : decode cL_law 239 = .ok (.iconst 0, 1) := by decide +kernel
theorem dL_law_240 : decode cL_law 240 = .ok (.iload 7, 2) := by decide +kernel
theorem dL_law_242 : decode cL_law 242 = .ok (.iload 4, 2) := by decide +kernel
theorem dL_law_244 : decode cL_law 244 = .ok (.idiv, 1) := by decide +kernel
theorem dL_law_245 : decode cL_law 245 = .ok (.iload 7, 2) := by decide +kernel
theorem dL_law_247 : decode cL_law 247 = .ok (.iload 4, 2) := by decide +kernel
theorem dL_law_249 : decode cL_law 249 = .ok (.irem, 1) := by decide +kernel
theorem dL_law_250 : decode cL_law 250 = .ok (.invokevirtual 76, 3) := by decide +kernel
theorem dL_law_253 : decode cL_law 253 = .ok (.aload 5, 2) := by decide +kernel
theorem dL_law_255 : decode cL_law 255 = .ok (.iload 7, 2) := by decide +kernel
theorem dL_law_257 : decode cL_law 257 = .ok (.iaload, 1) := by decide +kernel
theorem dL_law_258 : decode cL_law 258 = .ok (.if_icmp .eq 5, 3) := by decide +kernel
theorem dL_law_261 : decode cL_law 261 = .ok (.iconst 0, 1) := by decide +kernel
theorem dL_law_262 : decode cL_law 262 = .ok (.ireturn, 1) := by decide +kernel
theorem dL_law_263 : decode cL_law 263 = .ok (.iinc 7 1, 3) := by decide +kernel
theorem dL_law_266 : decode cL_law 266 = .ok (.goto (-42), 3) := by decide +kernel
theorem dL_law_269 : decode cL_law 269 = .ok (.iinc 2 8, 3) := by decide +kernel
theorem dL_law_272 : decode cL_law 272 = .ok (.goto (-262), 3) := by decide +kernel
theorem dL_law_275 : decode cL_law 275 = .ok (.iconst 1, 1) := by decide +kernel
theorem dL_law_276 : decode cL_law 276 = .ok (.ireturn, 1) := by decide +kernel
theorem dL_isThere_0 : decode cL_isThere 0 = .ok (.iconst 0, 1) := by decide +kernel
theorem dL_isThere_1 : decode cL_isThere 1 = .ok (.istore_n 2, 1) := by decide +kernel
theorem dL_isThere_2 : decode cL_isThere 2 = .ok (.iload_n 2, 1) := by decide +kernel
theorem dL_isThere_3 : decode cL_isThere 3 = .ok (.aload_n 1, 1) := by decide +kernel
theorem dL_isThere_4 : decode cL_isThere 4 = .ok (.arraylength, 1) := by decide +kernel
theorem dL_isThere_5 : decode cL_isThere 5 = .ok (.if_icmp .ge 36, 3) := by decide +kernel
theorem dL_isThere_8 : decode cL_isThere 8 = .ok (.aload_n 0, 1) := by decide +kernel
theorem dL_isThere_9 : decode cL_isThere 9 = .ok (.iload_n 2, 1) := by decide +kernel
theorem dL_isThere_10 : decode cL_isThere 10 = .ok (.aload_n 0, 1) := by decide +kernel
theorem dL_isThere_11 : decode cL_isThere 11 = .ok (.invokevirtual 44, 3) := by decide +kernel
theorem dL_isThere_14 : decode cL_isThere 14 = .ok (.idiv, 1) := by decide +kernel
theorem dL_isThere_15 : decode cL_isThere 15 = .ok (.iload_n 2, 1) := by decide +kernel
theorem dL_isThere_16 : decode cL_isThere 16 = .ok (.aload_n 0, 1) := by decide +kernel
theorem dL_isThere_17 : decode cL_isThere 17 = .ok (.invokevirtual 44, 3) := by decide +kernel
theorem dL_isThere_20 : decode cL_isThere 20 = .ok (.irem, 1) := by decide +kernel
theorem dL_isThere_21 : decode cL_isThere 21 = .ok (.invokevirtual 79, 3) := by decide +kernel
theorem dL_isThere_24 : decode cL_isThere 24 = .ok (.aload_n 1, 1) := by decide +kernel
theorem dL_isThere_25 : decode cL_isThere 25 = .ok (.iload_n 2, 1) := by decide +kernel
theorem dL_isThere_26 : decode cL_isThere 26 = .ok (.iaload, 1) := by decide +kernel
theorem dL_isThere_27 : decode cL_isThere 27 = .ok (.ishr, 1) := by decide +kernel
theorem dL_isThere_28 : decode cL_isThere 28 = .ok (.iconst 1, 1) := by decide +kernel
theorem dL_isThere_29 : decode cL_isThere 29 = .ok (.iand, 1) := by decide +kernel
theorem dL_isThere_30 : decode cL_isThere 30 = .ok (.ifCond .ne 5, 3) := by decide +kernel
theorem dL_isThere_33 : decode cL_isThere 33 = .ok (.iconst 0, 1) := by decide +kernel
theorem dL_isThere_34 : decode cL_isThere 34 = .ok (.ireturn, 1) := by decide +kernel
theorem dL_isThere_35 : decode cL_isThere 35 = .ok (.iinc 2 1, 3) := by decide +kernel
theorem dL_isThere_38 : decode cL_isThere 38 = .ok (.goto (-36), 3) := by decide +kernel
theorem dL_isThere_41 : decode cL_isThere 41 = .ok (.iconst 1, 1) := by decide +kernel
theorem dL_isThere_42 : decode cL_isThere 42 = .ok (.ireturn, 1) := by decide +kernel
