theorem dX9_init_0 : decode cX9_init 0 = .ok (.aload_n 0, 1) := by decide +kernel
theorem dX9_init_1 : decode cX9_init 1 = .ok (.invokespecial 3, 3) := by decide +kernel
theorem dX9_init_4 : decode cX9_init 4 = .ok (.aload_n 0, 1) := by decide +kernel
theorem dX9_init_5 : decode cX9_init 5 = .ok (.new 9, 3) := by decide +kernel
theorem dX9_init_8 : decode cX9_init 8 = .ok (.dup, 1) := by decide +kernel
theorem dX9_init_9 : decode cX9_init 9 = .ok (.invokespecial 11, 3) := by decide +kernel
theorem dX9_init_12 : decode cX9_init 12 = .ok (.putfield 12, 3) := by decide +kernel
theorem dX9_init_15 : decode cX9_init 15 = .ok (.aload_n 0, 1) := by decide +kernel
theorem dX9_init_16 : decode cX9_init 16 = .ok (.new 9, 3) := by decide +kernel
theorem dX9_init_19 : decode cX9_init 19 = .ok (.dup, 1) := by decide +kernel
theorem dX9_init_20 : decode cX9_init 20 = .ok (.invokespecial 11, 3) := by decide +kernel
theorem dX9_init_23 : decode cX9_init 23 = .ok (.putfield 16, 3) := by decide +kernel
theorem dX9_init_26 : decode cX9_init 26 = .ok (.aload_n 0, 1) := by decide +kernel
theorem dX9_init_27 : decode cX9_init 27 = .ok (.new 9, 3) := by decide +kernel
theorem dX9_init_30 : decode cX9_init 30 = .ok (.dup, 1) := by decide +kernel
theorem dX9_init_31 : decode cX9_init 31 = .ok (.invokespecial 11, 3) := by decide +kernel
theorem dX9_init_34 : decode cX9_init 34 = .ok (.putfield 19, 3) := by decide +kernel
theorem dX9_init_37 : decode cX9_init 37 = .ok (.aload_n 0, 1) := by decide +kernel
theorem dX9_init_38 : decode cX9_init 38 = .ok (.iconst 0, 1) := by decide +kernel
theorem dX9_init_39 : decode cX9_init 39 = .ok (.putfield 22, 3) := by decide +kernel
theorem dX9_init_42 : decode cX9_init 42 = .ok (.aload_n 0, 1) := by decide +kernel
theorem dX9_init_43 : decode cX9_init 43 = .ok (.new 26, 3) := by decide +kernel
theorem dX9_init_46 : decode cX9_init 46 = .ok (.dup, 1) := by decide +kernel
theorem dX9_init_47 : decode cX9_init 47 = .ok (.invokespecial 28, 3) := by decide +kernel
theorem dX9_init_50 : decode cX9_init 50 = .ok (.putfield 29, 3) := by decide +kernel
theorem dX9_init_53 : decode cX9_init 53 = .ok (.aload_n 0, 1) := by decide +kernel
theorem dX9_init_54 : decode cX9_init 54 = .ok (.new 33, 3) := by decide +kernel
theorem dX9_init_57 : decode cX9_init 57 = .ok (.dup, 1) := by decide +kernel
theorem dX9_init_58 : decode cX9_init 58 = .ok (.invokespecial 35, 3) := by decide +kernel
theorem dX9_init_61 : decode cX9_init 61 = .ok (.putfield 36, 3) := by decide +kernel
theorem dX9_init_64 : decode cX9_init 64 = .ok (.aload_n 0, 1) := by decide +kernel
theorem dX9_init_65 : decode cX9_init 65 = .ok (.new 40, 3) := by decide +kernel
theorem dX9_init_68 : decode cX9_init 68 = .ok (.dup, 1) := by decide +kernel
theorem dX9_init_69 : decode cX9_init 69 = .ok (.invokespecial 42, 3) := by decide +kernel
theorem dX9_init_72 : decode cX9_init 72 = .ok (.putfield 43, 3) := by decide +kernel
theorem dX9_init_75 : decode cX9_init 75 = .ok (.aload_n 0, 1) := by decide +kernel
theorem dX9_init_76 : decode cX9_init 76 = .ok (.new 47, 3) := by decide +kernel
theorem dX9_init_79 : decode cX9_init 79 = .ok (.dup, 1) := by decide +kernel
theorem dX9_init_80 : decode cX9_init 80 = .ok (.invokespecial 49, 3) := by decide +kernel
theorem dX9_init_83 : decode cX9_init 83 = .ok (.putfield 50, 3) := by decide +kernel
theorem dX9_init_86 : decode cX9_init 86 = .ok (.aload_n 0, 1) := by decide +kernel
theorem dX9_init_87 : decode cX9_init 87 = .ok (.new 54, 3) := by decide +kernel
theorem dX9_init_90 : decode cX9_init 90 = .ok (.dup, 1) := by decide +kernel
theorem dX9_init_91 : decode cX9_init 91 = .ok (.invokespecial 56, 3) := by decide +kernel
theorem dX9_init_94 : decode cX9_init 94 = .ok (.putfield 57, 3) := by decide +kernel
theorem dX9_init_97 : decode cX9_init 97 = .ok (.aload_n 0, 1) := by decide +kernel
theorem dX9_init_98 : decode cX9_init 98 = .ok (.iconst 0, 1) := by decide +kernel
theorem dX9_init_99 : decode cX9_init 99 = .ok (.putfield 61, 3) := by decide +kernel
theorem dX9_init_102 : decode cX9_init 102 = .ok (.aload_n 0, 1) := by decide +kernel
theorem dX9_init_103 : decode cX9_init 103 = .ok (.bipush (-8), 2) := by decide +kernel
theorem dX9_init_105 : decode cX9_init 105 = .ok (.putfield 65, 3) := by decide +kernel
theorem dX9_init_108 : decode cX9_init 108 = .ok (.aload_n 0, 1) := by decide +kernel
theorem dX9_init_109 : decode cX9_init 109 = .ok (.bipush (-8), 2) := by decide +kernel
theorem dX9_init_111 : decode cX9_init 111 = .ok (.putfield 68, 3) := by decide +kernel
theorem dX9_init_114 : decode cX9_init 114 = .ok (.aload_n 0, 1) := by decide +kernel
theorem dX9_init_115 : decode cX9_init 115 = .ok (.new 71, 3) := by decide +kernel
theorem dX9_init_118 : decode cX9_init 118 = .ok (.dup, 1) := by decide +kernel
theorem dX9_init_119 : decode cX9_init 119 = .ok (.bipush 120, 2) := by decide +kernel
theorem dX9_init_121 : decode cX9_init 121 = .ok (.invokespecial 73, 3) := by decide +kernel
theorem dX9_init_124 : decode cX9_init 124 = .ok (.putfield 76, 3) := by decide +kernel
theorem dX9_init_127 : decode cX9_init 127 = .ok (.aload_n 0, 1) := by decide +kernel
theorem dX9_init_128 : decode cX9_init 128 = .ok (.new 71, 3) := by decide +kernel
theorem dX9_init_131 : decode cX9_init 131 = .ok (.dup, 1) := by decide +kernel
theorem dX9_init_132 : decode cX9_init 132 = .ok (.sipush 271, 3) := by decide +kernel
theorem dX9_init_135 : decode cX9_init 135 = .ok (.invokespecial 73, 3) := by decide +kernel
theorem dX9_init_138 : decode cX9_init 138 = .ok (.putfield 80, 3) := by decide +kernel
theorem dX9_init_141 : decode cX9_init 141 = .ok (.aload_n 0, 1) := by decide +kernel
theorem dX9_init_142 : decode cX9_init 142 = .ok (.new 83, 3) := by decide +kernel
theorem dX9_init_145 : decode cX9_init 145 = .ok (.dup, 1) := by decide +kernel
theorem dX9_init_146 : decode cX9_init 146 = .ok (.invokespecial 85, 3) := by decide +kernel
theorem dX9_init_149 : decode cX9_init 149 = .ok (.putfield 86, 3) := by decide +kernel
theorem dX9_init_152 : decode cX9_init 152 = .ok (.aload_n 0, 1) := by decide +kernel
theorem dX9_init_153 : decode cX9_init 153 = .ok (.iconst 3, 1) := by decide +kernel
theorem dX9_init_154 : decode cX9_init 154 = .ok (.anewarray 90, 3) := by decide +kernel
theorem dX9_init_157 : decode cX9_init 157 = .ok (.dup, 1) := by decide +kernel
theorem dX9_init_158 : decode cX9_init 158 = .ok (.iconst 0, 1) := by decide +kernel
theorem dX9_init_159 : decode cX9_init 159 = .ok (.new 90, 3) := by decide +kernel
theorem dX9_init_162 : decode cX9_init 162 = .ok (.dup, 1) := by decide +kernel
theorem dX9_init_163 : decode cX9_init 163 = .ok (.invokespecial 92, 3) := by decide +kernel
theorem dX9_init_166 : decode cX9_init 166 = .ok (.aastore, 1) := by decide +kernel
theorem dX9_init_167 : decode cX9_init 167 = .ok (.dup, 1) := by decide +kernel
theorem dX9_init_168 : decode cX9_init 168 = .ok (.iconst 1, 1) := by decide +kernel
theorem dX9_init_169 : decode cX9_init 169 = .ok (.new 90, 3) := by decide +kernel
theorem dX9_init_172 : decode cX9_init 172 = .ok (.dup, 1) := by decide +kernel
theorem dX9_init_173 : decode cX9_init 173 = .ok (.invokespecial 92, 3) := by decide +kernel
theorem dX9_init_176 : decode cX9_init 176 = .ok (.aastore, 1) := by decide +kernel
theorem dX9_init_177 : decode cX9_init 177 = .ok (.dup, 1) := by decide +kernel
theorem dX9_init_178 : decode cX9_init 178 = .ok (.iconst 2, 1) := by decide +kernel
theorem dX9_init_179 : decode cX9_init 179 = .ok (.new 90, 3) := by decide +kernel
theorem dX9_init_182 : decode cX9_init 182 = .ok (.dup, 1) := by decide +kernel
theorem dX9_init_183 : decode cX9_init 183 = .ok (.invokespecial 92, 3) := by decide +kernel
theorem dX9_init_186 : decode cX9_init 186 = .ok (.aastore, 1) := by decide +kernel
theorem dX9_init_187 : decode cX9_init 187 = .ok (.putfield 93, 3) := by decide +kernel
theorem dX9_init_190 : decode cX9_init 190 = .ok (.aload_n 0, 1) := by decide +kernel
theorem dX9_init_191 : decode cX9_init 191 = .ok (.getfield 12, 3) := by decide +kernel
theorem dX9_init_194 : decode cX9_init 194 = .ok (.iconst 5, 1) := by decide +kernel
theorem dX9_init_195 : decode cX9_init 195 = .ok (.iconst 5, 1) := by decide +kernel
theorem dX9_init_196 : decode cX9_init 196 = .ok (.iconst 1, 1) := by decide +kernel
theorem dX9_init_197 : decode cX9_init 197 = .ok (.invokevirtual 97, 3) := by decide +kernel
theorem dX9_init_200 : decode cX9_init 200 = .ok (.return_, 1) := by decide +kernel
theorem dX9_reset_0 : decode cX9_reset 0 = .ok (.iload_n 1, 1) := by decide +kernel
theorem dX9_reset_1 : decode cX9_reset 1 = .ok (.iconst 1, 1) := by decide +kernel
theorem dX9_reset_2 : decode cX9_reset 2 = .ok (.bipush 8, 2) := by decide +kernel
theorem dX9_reset_4 : decode cX9_reset 4 = .ok (.invokestatic 101, 3) := by decide +kernel
theorem dX9_reset_7 : decode cX9_reset 7 = .ok (.ifCond .eq 22, 3) := by decide +kernel
theorem dX9_reset_10 : decode cX9_reset 10 = .ok (.iload_n 2, 1) := by decide +kernel
theorem dX9_reset_11 : decode cX9_reset 11 = .ok (.iconst 1, 1) := by decide +kernel
theorem dX9_reset_12 : decode cX9_reset 12 = .ok (.bipush 8, 2) := by decide +kernel
theorem dX9_reset_14 : decode cX9_reset 14 = .ok (.invokestatic 101, 3) := by decide +kernel
theorem dX9_reset_17 : decode cX9_reset 17 = .ok (.ifCond .eq 12, 3) := by decide +kernel
theorem dX9_reset_20 : decode cX9_reset 20 = .ok (.iload_n 3, 1) := by decide +kernel
theorem dX9_reset_21 : decode cX9_reset 21 = .ok (.iconst 1, 1) := by decide +kernel
theorem dX9_reset_22 : decode cX9_reset 22 = .ok (.iconst 3, 1) := by decide +kernel
theorem dX9_reset_23 : decode cX9_reset 23 = .ok (.invokestatic 101, 3) := by decide +kernel
theorem dX9_reset_26 : decode cX9_reset 26 = .ok (.ifCond .ne 6, 3) := by decide +kernel
theorem dX9_reset_29 : decode cX9_reset 29 = .ok (.bipush (-2), 2) := by decide +kernel
theorem dX9_reset_31 : decode cX9_reset 31 = .ok (.ireturn, 1) := by decide +kernel
theorem dX9_reset_32 : decode cX9_reset 32 = .ok (.aload_n 0, 1) := by decide +kernel
theorem dX9_reset_33 : decode cX9_reset 33 = .ok (.getfield 12, 3) := by decide +kernel
theorem dX9_reset_36 : decode cX9_reset 36 = .ok (.iload_n 1, 1) := by decide +kernel
theorem dX9_reset_37 : decode cX9_reset 37 = .ok (.iload_n 2, 1) := by decide +kernel
theorem dX9_reset_38 : decode cX9_reset 38 = .ok (.iload_n 3, 1) := by decide +kernel
theorem dX9_reset_39 : decode cX9_reset 39 = .ok (.invokevirtual 97, 3) := by decide +kernel
theorem dX9_reset_42 : decode cX9_reset 42 = .ok (.aload_n 0, 1) := by decide +kernel
theorem dX9_reset_43 : decode cX9_reset 43 = .ok (.getfield 29, 3) := by decide +kernel
theorem dX9_reset_46 : decode cX9_reset 46 = .ok (.invokevirtual 105, 3) := by decide +kernel
theorem dX9_reset_49 : decode cX9_reset 49 = .ok (.aload_n 0, 1) := by decide +kernel
theorem dX9_reset_50 : decode cX9_reset 50 = .ok (.invokevirtual 108, 3) := by decide +kernel
theorem dX9_reset_53 : decode cX9_reset 53 = .ok (.aload_n 0, 1) := by decide +kernel
theorem dX9_reset_54 : decode cX9_reset 54 = .ok (.getfield 12, 3) := by decide +kernel
theorem dX9_reset_57 : decode cX9_reset 57 = .ok (.invokevirtual 111, 3) := by decide +kernel
theorem dX9_reset_60 : decode cX9_reset 60 = .ok (.ireturn, 1) := by decide +kernel
theorem dX9_rowCount_0 : decode cX9_rowCount 0 = .ok (.aload_n 0, 1) := by decide +kernel
theorem dX9_rowCount_1 : decode cX9_rowCount 1 = .ok (.getfield 12, 3) := by decide +kernel
theorem dX9_rowCount_4 : decode cX9_rowCount 4 = .ok (.getfield 115, 3) := by decide +kernel
theorem dX9_rowCount_7 : decode cX9_rowCount 7 = .ok (.ireturn, 1) := by decide +kernel
theorem dX9_columnCount_0 : decode cX9_columnCount 0 = .ok (.aload_n 0, 1) := by decide +kernel
theorem dX9_columnCount_1 : decode cX9_columnCount 1 = .ok (.getfield 12, 3) := by decide +kernel
theorem dX9_columnCount_4 : decode cX9_columnCount 4 = .ok (.getfield 118, 3) := by decide +kernel
theorem dX9_columnCount_7 : decode cX9_columnCount 7 = .ok (.ireturn, 1) := by decide +kernel
theorem dX9_candidates_0 : decode cX9_candidates 0 = .ok (.aload_n 0, 1) := by decide +kernel
theorem dX9_candidates_1 : decode cX9_candidates 1 = .ok (.getfield 12, 3) := by decide +kernel
theorem dX9_candidates_4 : decode cX9_candidates 4 = .ok (.iload_n 1, 1) := by decide +kernel
theorem dX9_candidates_5 : decode cX9_candidates 5 = .ok (.iload_n 2, 1) := by decide +kernel
theorem dX9_candidates_6 : decode cX9_candidates 6 = .ok (.invokevirtual 162, 3) := by decide +kernel
theorem dX9_candidates_9 : decode cX9_candidates 9 = .ok (.ifCond .eq 23, 3) := by decide +kernel
theorem dX9_candidates_12 : decode cX9_candidates 12 = .ok (.aload_n 0, 1) := by decide +kernel
theorem dX9_candidates_13 : decode cX9_candidates 13 = .ok (.getfield 12, 3) := by decide +kernel
theorem dX9_candidates_16 : decode cX9_candidates 16 = .ok (.getfield 165, 3) := by decide +kernel
theorem dX9_candidates_19 : decode cX9_candidates 19 = .ok (.aload_n 0, 1) := by decide +kernel
theorem dX9_candidates_20 : decode cX9_candidates 20 = .ok (.getfield 12, 3) := by decide +kernel
theorem dX9_candidates_23 : decode cX9_candidates 23 = .ok (.iload_n 1, 1) := by decide +kernel
theorem dX9_candidates_24 : decode cX9_candidates 24 = .ok (.iload_n 2, 1) := by decide +kernel
theorem dX9_candidates_25 : decode cX9_candidates 25 = .ok (.invokevirtual 169, 3) := by decide +kernel
theorem dX9_candidates_28 : decode cX9_candidates 28 = .ok (.iaload, 1) := by decide +kernel
theorem dX9_candidates_29 : decode cX9_candidates 29 = .ok (.goto 4, 3) := by decide +kernel
theorem dX9_candidates_32 : decode cX9_candidates 32 = .ok (.iconst (-1), 1) := by decide +kernel
theorem dX9_candidates_33 : decode cX9_candidates 33 = .ok (.ireturn, 1) := by decide +kernel
theorem dX9_color_0 : decode cX9_color 0 = .ok (.aload_n 0, 1) := by decide +kernel
theorem dX9_color_1 : decode cX9_color 1 = .ok (.getfield 12, 3) := by decide +kernel
theorem dX9_color_4 : decode cX9_color 4 = .ok (.iload_n 1, 1) := by decide +kernel
theorem dX9_color_5 : decode cX9_color 5 = .ok (.iload_n 2, 1) := by decide +kernel
theorem dX9_color_6 : decode cX9_color 6 = .ok (.invokevirtual 162, 3) := by decide +kernel
theorem dX9_color_9 : decode cX9_color 9 = .ok (.ifCond .ne 5, 3) := by decide +kernel
theorem dX9_color_12 : decode cX9_color 12 = .ok (.iconst (-1), 1) := by decide +kernel
theorem dX9_color_13 : decode cX9_color 13 = .ok (.ireturn, 1) := by decide +kernel
theorem dX9_color_14 : decode cX9_color 14 = .ok (.aload_n 0, 1) := by decide +kernel
theorem dX9_color_15 : decode cX9_color 15 = .ok (.getfield 12, 3) := by decide +kernel
theorem dX9_color_18 : decode cX9_color 18 = .ok (.iload_n 1, 1) := by decide +kernel
theorem dX9_color_19 : decode cX9_color 19 = .ok (.iload_n 2, 1) := by decide +kernel
theorem dX9_color_20 : decode cX9_color 20 = .ok (.invokevirtual 169, 3) := by decide +kernel
theorem dX9_color_23 : decode cX9_color 23 = .ok (.istore_n 3, 1) := by decide +kernel
theorem dX9_color_24 : decode cX9_color 24 = .ok (.aload_n 0, 1) := by decide +kernel
theorem dX9_color_25 : decode cX9_color 25 = .ok (.getfield 12, 3) := by decide +kernel
theorem dX9_color_28 : decode cX9_color 28 = .ok (.iload_n 3, 1) := by decide +kernel
theorem dX9_color_29 : decode cX9_color 29 = .ok (.invokevirtual 172, 3) := by decide +kernel
theorem dX9_color_32 : decode cX9_color 32 = .ok (.ifCond .eq 14, 3) := by decide +kernel
theorem dX9_color_35 : decode cX9_color 35 = .ok (.aload_n 0, 1) := by decide +kernel
theorem dX9_color_36 : decode cX9_color 36 = .ok (.getfield 12, 3) := by decide +kernel
theorem dX9_color_39 : decode cX9_color 39 = .ok (.iload_n 3, 1) := by decide +kernel
theorem dX9_color_40 : decode cX9_color 40 = .ok (.invokevirtual 175, 3) := by decide +kernel
theorem dX9_color_43 : decode cX9_color 43 = .ok (.goto 5, 3) := by decide +kernel
theorem dX9_color_46 : decode cX9_color 46 = .ok (.bipush (-6), 2) := by decide +kernel
theorem dX9_color_48 : decode cX9_color 48 = .ok (.ireturn, 1) := by decide +kernel
theorem dX9_keepOnly_0 : decode cX9_keepOnly 0 = .ok (.aload_n 0, 1) := by decide +kernel
theorem dX9_keepOnly_1 : decode cX9_keepOnly 1 = .ok (.iload_n 1, 1) := by decide +kernel
theorem dX9_keepOnly_2 : decode cX9_keepOnly 2 = .ok (.iload_n 2, 1) := by decide +kernel
theorem dX9_keepOnly_3 : decode cX9_keepOnly 3 = .ok (.iload_n 3, 1) := by decide +kernel
theorem dX9_keepOnly_4 : decode cX9_keepOnly 4 = .ok (.invokevirtual 178, 3) := by decide +kernel
theorem dX9_keepOnly_7 : decode cX9_keepOnly 7 = .ok (.istore 4, 2) := by decide +kernel
theorem dX9_keepOnly_9 : decode cX9_keepOnly 9 = .ok (.iload 4, 2) := by decide +kernel
theorem dX9_keepOnly_11 : decode cX9_keepOnly 11 = .ok (.ifCond .eq 6, 3) := by decide +kernel
theorem dX9_keepOnly_14 : decode cX9_keepOnly 14 = .ok (.iload 4, 2) := by decide +kernel
theorem dX9_keepOnly_16 : decode cX9_keepOnly 16 = .ok (.ireturn, 1) := by decide +kernel
theorem dX9_keepOnly_17 : decode cX9_keepOnly 17 = .ok (.aload_n 0, 1) := by decide +kernel
theorem dX9_keepOnly_18 : decode cX9_keepOnly 18 = .ok (.getfield 12, 3) := by decide +kernel
theorem dX9_keepOnly_21 : decode cX9_keepOnly 21 = .ok (.iload_n 1, 1) := by decide +kernel
theorem dX9_keepOnly_22 : decode cX9_keepOnly 22 = .ok (.iload_n 2, 1) := by decide +kernel
theorem dX9_keepOnly_23 : decode cX9_keepOnly 23 = .ok (.invokevirtual 169, 3) := by decide +kernel
theorem dX9_keepOnly_26 : decode cX9_keepOnly 26 = .ok (.istore 5, 2) := by decide +kernel
theorem dX9_keepOnly_28 : decode cX9_keepOnly 28 = .ok (.aload_n 0, 1) := by decide +kernel
theorem dX9_keepOnly_29 : decode cX9_keepOnly 29 = .ok (.getfield 12, 3) := by decide +kernel
theorem dX9_keepOnly_32 : decode cX9_keepOnly 32 = .ok (.getfield 165, 3) := by decide +kernel
theorem dX9_keepOnly_35 : decode cX9_keepOnly 35 = .ok (.iload 5, 2) := by decide +kernel
theorem dX9_keepOnly_37 : decode cX9_keepOnly 37 = .ok (.iaload, 1) := by decide +kernel
theorem dX9_keepOnly_38 : decode cX9_keepOnly 38 = .ok (.invokestatic 182, 3) := by decide +kernel
theorem dX9_keepOnly_41 : decode cX9_keepOnly 41 = .ok (.iconst 1, 1) := by decide +kernel
theorem dX9_keepOnly_42 : decode cX9_keepOnly 42 = .ok (.isub, 1) := by decide +kernel
theorem dX9_keepOnly_43 : decode cX9_keepOnly 43 = .ok (.istore 6, 2) := by decide +kernel
theorem dX9_keepOnly_45 : decode cX9_keepOnly 45 = .ok (.aload_n 0, 1) := by decide +kernel
theorem dX9_keepOnly_46 : decode cX9_keepOnly 46 = .ok (.getfield 29, 3) := by decide +kernel
theorem dX9_keepOnly_49 : decode cX9_keepOnly 49 = .ok (.aload_n 0, 1) := by decide +kernel
theorem dX9_keepOnly_50 : decode cX9_keepOnly 50 = .ok (.getfield 12, 3) := by decide +kernel
theorem dX9_keepOnly_53 : decode cX9_keepOnly 53 = .ok (.invokevirtual 134, 3) := by decide +kernel
theorem dX9_keepOnly_56 : decode cX9_keepOnly 56 = .ok (.aload_n 0, 1) := by decide +kernel
theorem dX9_keepOnly_57 : decode cX9_keepOnly 57 = .ok (.getfield 12, 3) := by decide +kernel
theorem dX9_keepOnly_60 : decode cX9_keepOnly 60 = .ok (.getfield 165, 3) := by decide +kernel
theorem dX9_keepOnly_63 : decode cX9_keepOnly 63 = .ok (.iload 5, 2) := by decide +kernel
theorem dX9_keepOnly_65 : decode cX9_keepOnly 65 = .ok (.iconst 1, 1) := by decide +kernel
theorem dX9_keepOnly_66 : decode cX9_keepOnly 66 = .ok (.iload_n 3, 1) := by decide +kernel
theorem dX9_keepOnly_67 : decode cX9_keepOnly 67 = .ok (.ishl, 1) := by decide +kernel
theorem dX9_keepOnly_68 : decode cX9_keepOnly 68 = .ok (.iastore, 1) := by decide +kernel
theorem dX9_keepOnly_69 : decode cX9_keepOnly 69 = .ok (.iload 6, 2) := by decide +kernel
theorem dX9_keepOnly_71 : decode cX9_keepOnly 71 = .ok (.ireturn, 1) := by decide +kernel
theorem dX9_propagate_0 : decode cX9_propagate 0 = .ok (.aload_n 0, 1) := by decide +kernel
theorem dX9_propagate_1 : decode cX9_propagate 1 = .ok (.getfield 16, 3) := by decide +kernel
theorem dX9_propagate_4 : decode cX9_propagate 4 = .ok (.aload_n 0, 1) := by decide +kernel
theorem dX9_propagate_5 : decode cX9_propagate 5 = .ok (.getfield 12, 3) := by decide +kernel
theorem dX9_propagate_8 : decode cX9_propagate 8 = .ok (.invokevirtual 209, 3) := by decide +kernel
theorem dX9_propagate_11 : decode cX9_propagate 11 = .ok (.aload_n 0, 1) := by decide +kernel
theorem dX9_propagate_12 : decode cX9_propagate 12 = .ok (.getfield 43, 3) := by decide +kernel
theorem dX9_propagate_15 : decode cX9_propagate 15 = .ok (.aload_n 0, 1) := by decide +kernel
theorem dX9_propagate_16 : decode cX9_propagate 16 = .ok (.getfield 16, 3) := by decide +kernel
theorem dX9_propagate_19 : decode cX9_propagate 19 = .ok (.aload_n 0, 1) := by decide +kernel
theorem dX9_propagate_20 : decode cX9_propagate 20 = .ok (.getfield 16, 3) := by decide +kernel
theorem dX9_propagate_23 : decode cX9_propagate 23 = .ok (.invokevirtual 225, 3) := by decide +kernel
theorem dX9_propagate_26 : decode cX9_propagate 26 = .ok (.invokevirtual 228, 3) := by decide +kernel
theorem dX9_propagate_29 : decode cX9_propagate 29 = .ok (.ifCond .ne 16, 3) := by decide +kernel
theorem dX9_propagate_32 : decode cX9_propagate 32 = .ok (.aload_n 0, 1) := by decide +kernel
theorem dX9_propagate_33 : decode cX9_propagate 33 = .ok (.aload_n 0, 1) := by decide +kernel
theorem dX9_propagate_34 : decode cX9_propagate 34 = .ok (.getfield 43, 3) := by decide +kernel
theorem dX9_propagate_37 : decode cX9_propagate 37 = .ok (.getfield 231, 3) := by decide +kernel
theorem dX9_propagate_40 : decode cX9_propagate 40 = .ok (.iconst 0, 1) := by decide +kernel
theorem dX9_propagate_41 : decode cX9_propagate 41 = .ok (.invokevirtual 216, 3) := by decide +kernel
theorem dX9_propagate_44 : decode cX9_propagate 44 = .ok (.ireturn, 1) := by decide +kernel
theorem dX9_propagate_45 : decode cX9_propagate 45 = .ok (.aload_n 0, 1) := by decide +kernel
theorem dX9_propagate_46 : decode cX9_propagate 46 = .ok (.invokevirtual 219, 3) := by decide +kernel
theorem dX9_propagate_49 : decode cX9_propagate 49 = .ok (.aload_n 0, 1) := by decide +kernel
theorem dX9_propagate_50 : decode cX9_propagate 50 = .ok (.getfield 43, 3) := by decide +kernel
theorem dX9_propagate_53 : decode cX9_propagate 53 = .ok (.getfield 234, 3) := by decide +kernel
theorem dX9_propagate_56 : decode cX9_propagate 56 = .ok (.ireturn, 1) := by decide +kernel
theorem dX9_probeAll_0 : decode cX9_probeAll 0 = .ok (.aload_n 0, 1) := by decide +kernel
theorem dX9_probeAll_1 : decode cX9_probeAll 1 = .ok (.getfield 16, 3) := by decide +kernel
theorem dX9_probeAll_4 : decode cX9_probeAll 4 = .ok (.aload_n 0, 1) := by decide +kernel
theorem dX9_probeAll_5 : decode cX9_probeAll 5 = .ok (.getfield 12, 3) := by decide +kernel
theorem dX9_probeAll_8 : decode cX9_probeAll 8 = .ok (.invokevirtual 209, 3) := by decide +kernel
theorem dX9_probeAll_11 : decode cX9_probeAll 11 = .ok (.aload_n 0, 1) := by decide +kernel
theorem dX9_probeAll_12 : decode cX9_probeAll 12 = .ok (.getfield 50, 3) := by decide +kernel
theorem dX9_probeAll_15 : decode cX9_probeAll 15 = .ok (.aload_n 0, 1) := by decide +kernel
theorem dX9_probeAll_16 : decode cX9_probeAll 16 = .ok (.getfield 16, 3) := by decide +kernel
theorem dX9_probeAll_19 : decode cX9_probeAll 19 = .ok (.invokevirtual 238, 3) := by decide +kernel
theorem dX9_probeAll_22 : decode cX9_probeAll 22 = .ok (.istore_n 1, 1) := by decide +kernel
theorem dX9_probeAll_23 : decode cX9_probeAll 23 = .ok (.iconst 0, 1) := by decide +kernel
theorem dX9_probeAll_24 : decode cX9_probeAll 24 = .ok (.istore_n 2, 1) := by decide +kernel
theorem dX9_probeAll_25 : decode cX9_probeAll 25 = .ok (.iconst 0, 1) := by decide +kernel
theorem dX9_probeAll_26 : decode cX9_probeAll 26 = .ok (.istore_n 3, 1) := by decide +kernel
theorem dX9_probeAll_27 : decode cX9_probeAll 27 = .ok (.iload_n 1, 1) := by decide +kernel
theorem dX9_probeAll_28 : decode cX9_probeAll 28 = .ok (.ifCond .eq 59, 3) := by decide +kernel
theorem dX9_probeAll_31 : decode cX9_probeAll 31 = .ok (.iload_n 2, 1) := by decide +kernel
theorem dX9_probeAll_32 : decode cX9_probeAll 32 = .ok (.ifCond .ne 55, 3) := by decide +kernel
theorem dX9_probeAll_35 : decode cX9_probeAll 35 = .ok (.iload_n 3, 1) := by decide +kernel
theorem dX9_probeAll_36 : decode cX9_probeAll 36 = .ok (.sipush 192, 3) := by decide +kernel
theorem dX9_probeAll_39 : decode cX9_probeAll 39 = .ok (.if_icmp .gt 48, 3) := by decide +kernel
theorem dX9_probeAll_42 : decode cX9_probeAll 42 = .ok (.aload_n 0, 1) := by decide +kernel
theorem dX9_probeAll_43 : decode cX9_probeAll 43 = .ok (.getfield 50, 3) := by decide +kernel
theorem dX9_probeAll_46 : decode cX9_probeAll 46 = .ok (.getfield 242, 3) := by decide +kernel
theorem dX9_probeAll_49 : decode cX9_probeAll 49 = .ok (.istore 4, 2) := by decide +kernel
theorem dX9_probeAll_51 : decode cX9_probeAll 51 = .ok (.aload_n 0, 1) := by decide +kernel
theorem dX9_probeAll_52 : decode cX9_probeAll 52 = .ok (.getfield 50, 3) := by decide +kernel
theorem dX9_probeAll_55 : decode cX9_probeAll 55 = .ok (.aload_n 0, 1) := by decide +kernel
theorem dX9_probeAll_56 : decode cX9_probeAll 56 = .ok (.getfield 16, 3) := by decide +kernel
theorem dX9_probeAll_59 : decode cX9_probeAll 59 = .ok (.invokevirtual 245, 3) := by decide +kernel
theorem dX9_probeAll_62 : decode cX9_probeAll 62 = .ok (.istore_n 1, 1) := by decide +kernel
theorem dX9_probeAll_63 : decode cX9_probeAll 63 = .ok (.aload_n 0, 1) := by decide +kernel
theorem dX9_probeAll_64 : decode cX9_probeAll 64 = .ok (.getfield 50, 3) := by decide +kernel
theorem dX9_probeAll_67 : decode cX9_probeAll 67 = .ok (.getfield 242, 3) := by decide +kernel
theorem dX9_probeAll_70 : decode cX9_probeAll 70 = .ok (.iload 4, 2) := by decide +kernel
theorem dX9_probeAll_72 : decode cX9_probeAll 72 = .ok (.if_icmp .ne 7, 3) := by decide +kernel
theorem dX9_probeAll_75 : decode cX9_probeAll 75 = .ok (.iconst 1, 1) := by decide +kernel
theorem dX9_probeAll_76 : decode cX9_probeAll 76 = .ok (.goto 4, 3) := by decide +kernel
theorem dX9_probeAll_79 : decode cX9_probeAll 79 = .ok (.iconst 0, 1) := by decide +kernel
theorem dX9_probeAll_80 : decode cX9_probeAll 80 = .ok (.istore_n 2, 1) := by decide +kernel
theorem dX9_probeAll_81 : decode cX9_probeAll 81 = .ok (.iinc 3 1, 3) := by decide +kernel
theorem dX9_probeAll_84 : decode cX9_probeAll 84 = .ok (.goto (-57), 3) := by decide +kernel
theorem dX9_probeAll_87 : decode cX9_probeAll 87 = .ok (.iload_n 1, 1) := by decide +kernel
theorem dX9_probeAll_88 : decode cX9_probeAll 88 = .ok (.ifCond .ne 22, 3) := by decide +kernel
theorem dX9_probeAll_91 : decode cX9_probeAll 91 = .ok (.aload_n 0, 1) := by decide +kernel
theorem dX9_probeAll_92 : decode cX9_probeAll 92 = .ok (.aload_n 0, 1) := by decide +kernel
theorem dX9_probeAll_93 : decode cX9_probeAll 93 = .ok (.getfield 50, 3) := by decide +kernel
theorem dX9_probeAll_96 : decode cX9_probeAll 96 = .ok (.getfield 248, 3) := by decide +kernel
theorem dX9_probeAll_99 : decode cX9_probeAll 99 = .ok (.aload_n 0, 1) := by decide +kernel
theorem dX9_probeAll_100 : decode cX9_probeAll 100 = .ok (.getfield 50, 3) := by decide +kernel
theorem dX9_probeAll_103 : decode cX9_probeAll 103 = .ok (.getfield 242, 3) := by decide +kernel
theorem dX9_probeAll_106 : decode cX9_probeAll 106 = .ok (.invokevirtual 216, 3) := by decide +kernel
theorem dX9_probeAll_109 : decode cX9_probeAll 109 = .ok (.ireturn, 1) := by decide +kernel
theorem dX9_probeAll_110 : decode cX9_probeAll 110 = .ok (.aload_n 0, 1) := by decide +kernel
theorem dX9_probeAll_111 : decode cX9_probeAll 111 = .ok (.invokevirtual 219, 3) := by decide +kernel
theorem dX9_probeAll_114 : decode cX9_probeAll 114 = .ok (.aload_n 0, 1) := by decide +kernel
theorem dX9_probeAll_115 : decode cX9_probeAll 115 = .ok (.getfield 50, 3) := by decide +kernel
theorem dX9_probeAll_118 : decode cX9_probeAll 118 = .ok (.getfield 242, 3) := by decide +kernel
theorem dX9_probeAll_121 : decode cX9_probeAll 121 = .ok (.ireturn, 1) := by decide +kernel
theorem dX9_countSolutions_0 : decode cX9_countSolutions 0 = .ok (.iload_n 1, 1) := by decide +kernel
theorem dX9_countSolutions_1 : decode cX9_countSolutions 1 = .ok (.iconst 1, 1) := by decide +kernel
theorem dX9_countSolutions_2 : decode cX9_countSolutions 2 = .ok (.bipush 20, 2) := by decide +kernel
theorem dX9_countSolutions_4 : decode cX9_countSolutions 4 = .ok (.invokestatic 101, 3) := by decide +kernel
theorem dX9_countSolutions_7 : decode cX9_countSolutions 7 = .ok (.ifCond .ne 6, 3) := by decide +kernel
theorem dX9_countSolutions_10 : decode cX9_countSolutions 10 = .ok (.bipush (-2), 2) := by decide +kernel
theorem dX9_countSolutions_12 : decode cX9_countSolutions 12 = .ok (.ireturn, 1) := by decide +kernel
theorem dX9_countSolutions_13 : decode cX9_countSolutions 13 = .ok (.aload_n 0, 1) := by decide +kernel
theorem dX9_countSolutions_14 : decode cX9_countSolutions 14 = .ok (.getfield 57, 3) := by decide +kernel
theorem dX9_countSolutions_17 : decode cX9_countSolutions 17 = .ok (.aload_n 0, 1) := by decide +kernel
theorem dX9_countSolutions_18 : decode cX9_countSolutions 18 = .ok (.getfield 12, 3) := by decide +kernel
theorem dX9_countSolutions_21 : decode cX9_countSolutions 21 = .ok (.aload_n 0, 1) := by decide +kernel
theorem dX9_countSolutions_22 : decode cX9_countSolutions 22 = .ok (.getfield 61, 3) := by decide +kernel
theorem dX9_countSolutions_25 : decode cX9_countSolutions 25 = .ok (.iload_n 1, 1) := by decide +kernel
theorem dX9_countSolutions_26 : decode cX9_countSolutions 26 = .ok (.invokevirtual 249, 3) := by decide +kernel
theorem dX9_countSolutions_29 : decode cX9_countSolutions 29 = .ok (.aload_n 0, 1) := by decide +kernel
theorem dX9_countSolutions_30 : decode cX9_countSolutions 30 = .ok (.getfield 57, 3) := by decide +kernel
theorem dX9_countSolutions_33 : decode cX9_countSolutions 33 = .ok (.getfield 253, 3) := by decide +kernel
theorem dX9_countSolutions_36 : decode cX9_countSolutions 36 = .ok (.ifCond .eq 8, 3) := by decide +kernel
theorem dX9_countSolutions_39 : decode cX9_countSolutions 39 = .ok (.bipush (-7), 2) := by decide +kernel
theorem dX9_countSolutions_41 : decode cX9_countSolutions 41 = .ok (.goto 10, 3) := by decide +kernel
theorem dX9_countSolutions_44 : decode cX9_countSolutions 44 = .ok (.aload_n 0, 1) := by decide +kernel
theorem dX9_countSolutions_45 : decode cX9_countSolutions 45 = .ok (.getfield 57, 3) := by decide +kernel
theorem dX9_countSolutions_48 : decode cX9_countSolutions 48 = .ok (.getfield 256, 3) := by decide +kernel
theorem dX9_countSolutions_51 : decode cX9_countSolutions 51 = .ok (.ireturn, 1) := by decide +kernel
theorem dX9_solutionColor_0 : decode cX9_solutionColor 0 = .ok (.iload_n 1, 1) := by decide +kernel
theorem dX9_solutionColor_1 : decode cX9_solutionColor 1 = .ok (.iconst 0, 1) := by decide +kernel
theorem dX9_solutionColor_2 : decode cX9_solutionColor 2 = .ok (.bipush 19, 2) := by decide +kernel
theorem dX9_solutionColor_4 : decode cX9_solutionColor 4 = .ok (.invokestatic 101, 3) := by decide +kernel
theorem dX9_solutionColor_7 : decode cX9_solutionColor 7 = .ok (.ifCond .ne 6, 3) := by decide +kernel
theorem dX9_solutionColor_10 : decode cX9_solutionColor 10 = .ok (.bipush (-2), 2) := by decide +kernel
theorem dX9_solutionColor_12 : decode cX9_solutionColor 12 = .ok (.ireturn, 1) := by decide +kernel
theorem dX9_solutionColor_13 : decode cX9_solutionColor 13 = .ok (.aload_n 0, 1) := by decide +kernel
theorem dX9_solutionColor_14 : decode cX9_solutionColor 14 = .ok (.getfield 12, 3) := by decide +kernel
theorem dX9_solutionColor_17 : decode cX9_solutionColor 17 = .ok (.iload_n 2, 1) := by decide +kernel
theorem dX9_solutionColor_18 : decode cX9_solutionColor 18 = .ok (.iload_n 3, 1) := by decide +kernel
theorem dX9_solutionColor_19 : decode cX9_solutionColor 19 = .ok (.invokevirtual 162, 3) := by decide +kernel
theorem dX9_solutionColor_22 : decode cX9_solutionColor 22 = .ok (.ifCond .ne 5, 3) := by decide +kernel
theorem dX9_solutionColor_25 : decode cX9_solutionColor 25 = .ok (.iconst (-1), 1) := by decide +kernel
theorem dX9_solutionColor_26 : decode cX9_solutionColor 26 = .ok (.ireturn, 1) := by decide +kernel
theorem dX9_solutionColor_27 : decode cX9_solutionColor 27 = .ok (.aload_n 0, 1) := by decide +kernel
theorem dX9_solutionColor_28 : decode cX9_solutionColor 28 = .ok (.getfield 57, 3) := by decide +kernel
theorem dX9_solutionColor_31 : decode cX9_solutionColor 31 = .ok (.aload_n 0, 1) := by decide +kernel
theorem dX9_solutionColor_32 : decode cX9_solutionColor 32 = .ok (.getfield 12, 3) := by decide +kernel
theorem dX9_solutionColor_35 : decode cX9_solutionColor 35 = .ok (.aload_n 0, 1) := by decide +kernel
theorem dX9_solutionColor_36 : decode cX9_solutionColor 36 = .ok (.getfield 61, 3) := by decide +kernel
theorem dX9_solutionColor_39 : decode cX9_solutionColor 39 = .ok (.iload_n 1, 1) := by decide +kernel
theorem dX9_solutionColor_40 : decode cX9_solutionColor 40 = .ok (.iconst 1, 1) := by decide +kernel
theorem dX9_solutionColor_41 : decode cX9_solutionColor 41 = .ok (.iadd, 1) := by decide +kernel
theorem dX9_solutionColor_42 : decode cX9_solutionColor 42 = .ok (.invokevirtual 249, 3) := by decide +kernel
theorem dX9_solutionColor_45 : decode cX9_solutionColor 45 = .ok (.aload_n 0, 1) := by decide +kernel
theorem dX9_solutionColor_46 : decode cX9_solutionColor 46 = .ok (.getfield 57, 3) := by decide +kernel
theorem dX9_solutionColor_49 : decode cX9_solutionColor 49 = .ok (.getfield 253, 3) := by decide +kernel
theorem dX9_solutionColor_52 : decode cX9_solutionColor 52 = .ok (.ifCond .eq 6, 3) := by decide +kernel
theorem dX9_solutionColor_55 : decode cX9_solutionColor 55 = .ok (.bipush (-7), 2) := by decide +kernel
theorem dX9_solutionColor_57 : decode cX9_solutionColor 57 = .ok (.ireturn, 1) := by decide +kernel
theorem dX9_solutionColor_58 : decode cX9_solutionColor 58 = .ok (.aload_n 0, 1) := by decide +kernel
theorem dX9_solutionColor_59 : decode cX9_solutionColor 59 = .ok (.getfield 57, 3) := by decide +kernel
theorem dX9_solutionColor_62 : decode cX9_solutionColor 62 = .ok (.getfield 256, 3) := by decide +kernel
theorem dX9_solutionColor_65 : decode cX9_solutionColor 65 = .ok (.iload_n 1, 1) := by decide +kernel
theorem dX9_solutionColor_66 : decode cX9_solutionColor 66 = .ok (.if_icmp .le 22, 3) := by decide +kernel
theorem dX9_solutionColor_69 : decode cX9_solutionColor 69 = .ok (.aload_n 0, 1) := by decide +kernel
theorem dX9_solutionColor_70 : decode cX9_solutionColor 70 = .ok (.getfield 57, 3) := by decide +kernel
theorem dX9_solutionColor_73 : decode cX9_solutionColor 73 = .ok (.aload_n 0, 1) := by decide +kernel
theorem dX9_solutionColor_74 : decode cX9_solutionColor 74 = .ok (.getfield 12, 3) := by decide +kernel
theorem dX9_solutionColor_77 : decode cX9_solutionColor 77 = .ok (.iload_n 2, 1) := by decide +kernel
theorem dX9_solutionColor_78 : decode cX9_solutionColor 78 = .ok (.iload_n 3, 1) := by decide +kernel
theorem dX9_solutionColor_79 : decode cX9_solutionColor 79 = .ok (.invokevirtual 169, 3) := by decide +kernel
theorem dX9_solutionColor_82 : decode cX9_solutionColor 82 = .ok (.invokevirtual 259, 3) := by decide +kernel
theorem dX9_solutionColor_85 : decode cX9_solutionColor 85 = .ok (.goto 5, 3) := by decide +kernel
theorem dX9_solutionColor_88 : decode cX9_solutionColor 88 = .ok (.bipush (-8), 2) := by decide +kernel
theorem dX9_solutionColor_90 : decode cX9_solutionColor 90 = .ok (.ireturn, 1) := by decide +kernel
theorem dX9_isUnique_0 : decode cX9_isUnique 0 = .ok (.aload_n 0, 1) := by decide +kernel
theorem dX9_isUnique_1 : decode cX9_isUnique 1 = .ok (.getfield 57, 3) := by decide +kernel
theorem dX9_isUnique_4 : decode cX9_isUnique 4 = .ok (.aload_n 0, 1) := by decide +kernel
theorem dX9_isUnique_5 : decode cX9_isUnique 5 = .ok (.getfield 12, 3) := by decide +kernel
theorem dX9_isUnique_8 : decode cX9_isUnique 8 = .ok (.aload_n 0, 1) := by decide +kernel
theorem dX9_isUnique_9 : decode cX9_isUnique 9 = .ok (.getfield 61, 3) := by decide +kernel
theorem dX9_isUnique_12 : decode cX9_isUnique 12 = .ok (.iconst 2, 1) := by decide +kernel
theorem dX9_isUnique_13 : decode cX9_isUnique 13 = .ok (.invokevirtual 249, 3) := by decide +kernel
theorem dX9_isUnique_16 : decode cX9_isUnique 16 = .ok (.aload_n 0, 1) := by decide +kernel
theorem dX9_isUnique_17 : decode cX9_isUnique 17 = .ok (.getfield 57, 3) := by decide +kernel
theorem dX9_isUnique_20 : decode cX9_isUnique 20 = .ok (.getfield 253, 3) := by decide +kernel
theorem dX9_isUnique_23 : decode cX9_isUnique 23 = .ok (.ifCond .eq 6, 3) := by decide +kernel
theorem dX9_isUnique_26 : decode cX9_isUnique 26 = .ok (.bipush (-7), 2) := by decide +kernel
theorem dX9_isUnique_28 : decode cX9_isUnique 28 = .ok (.ireturn, 1) := by decide +kernel
theorem dX9_isUnique_29 : decode cX9_isUnique 29 = .ok (.aload_n 0, 1) := by decide +kernel
theorem dX9_isUnique_30 : decode cX9_isUnique 30 = .ok (.getfield 57, 3) := by decide +kernel
theorem dX9_isUnique_33 : decode cX9_isUnique 33 = .ok (.getfield 256, 3) := by decide +kernel
theorem dX9_isUnique_36 : decode cX9_isUnique 36 = .ok (.iconst 1, 1) := by decide +kernel
theorem dX9_isUnique_37 : decode cX9_isUnique 37 = .ok (.if_icmp .ne 7, 3) := by decide +kernel
theorem dX9_isUnique_40 : decode cX9_isUnique 40 = .ok (.iconst 1, 1) := by decide +kernel
theorem dX9_isUnique_41 : decode cX9_isUnique 41 = .ok (.goto 4, 3) := by decide +kernel
theorem dX9_isUnique_44 : decode cX9_isUnique 44 = .ok (.iconst 0, 1) := by decide +kernel
theorem dX9_isUnique_45 : decode cX9_isUnique 45 = .ok (.ireturn, 1) := by decide +kernel
theorem dX9_firstMismatch_0 : decode cX9_firstMismatch 0 = .ok (.aload_n 0, 1) := by decide +kernel
theorem dX9_firstMismatch_1 : decode cX9_firstMismatch 1 = .ok (.getfield 12, 3) := by decide +kernel
theorem dX9_firstMismatch_4 : decode cX9_firstMismatch 4 = .ok (.invokevirtual 265, 3) := by decide +kernel
theorem dX9_firstMismatch_7 : decode cX9_firstMismatch 7 = .ok (.ifCond .ne 6, 3) := by decide +kernel
theorem dX9_firstMismatch_10 : decode cX9_firstMismatch 10 = .ok (.bipush (-6), 2) := by decide +kernel
theorem dX9_firstMismatch_12 : decode cX9_firstMismatch 12 = .ok (.ireturn, 1) := by decide +kernel
theorem dX9_firstMismatch_13 : decode cX9_firstMismatch 13 = .ok (.iconst 0, 1) := by decide +kernel
theorem dX9_firstMismatch_14 : decode cX9_firstMismatch 14 = .ok (.istore_n 1, 1) := by decide +kernel
theorem dX9_firstMismatch_15 : decode cX9_firstMismatch 15 = .ok (.iload_n 1, 1) := by decide +kernel
theorem dX9_firstMismatch_16 : decode cX9_firstMismatch 16 = .ok (.aload_n 0, 1) := by decide +kernel
theorem dX9_firstMismatch_17 : decode cX9_firstMismatch 17 = .ok (.getfield 12, 3) := by decide +kernel
theorem dX9_firstMismatch_20 : decode cX9_firstMismatch 20 = .ok (.invokevirtual 111, 3) := by decide +kernel
theorem dX9_firstMismatch_23 : decode cX9_firstMismatch 23 = .ok (.if_icmp .ge 33, 3) := by decide +kernel
theorem dX9_firstMismatch_26 : decode cX9_firstMismatch 26 = .ok (.aload_n 0, 1) := by decide +kernel
theorem dX9_firstMismatch_27 : decode cX9_firstMismatch 27 = .ok (.getfield 36, 3) := by decide +kernel
theorem dX9_firstMismatch_30 : decode cX9_firstMismatch 30 = .ok (.aload_n 0, 1) := by decide +kernel
theorem dX9_firstMismatch_31 : decode cX9_firstMismatch 31 = .ok (.getfield 12, 3) := by decide +kernel
theorem dX9_firstMismatch_34 : decode cX9_firstMismatch 34 = .ok (.iload_n 1, 1) := by decide +kernel
theorem dX9_firstMismatch_35 : decode cX9_firstMismatch 35 = .ok (.invokevirtual 199, 3) := by decide +kernel
theorem dX9_firstMismatch_38 : decode cX9_firstMismatch 38 = .ok (.aload_n 0, 1) := by decide +kernel
theorem dX9_firstMismatch_39 : decode cX9_firstMismatch 39 = .ok (.getfield 36, 3) := by decide +kernel
theorem dX9_firstMismatch_42 : decode cX9_firstMismatch 42 = .ok (.invokevirtual 203, 3) := by decide +kernel
theorem dX9_firstMismatch_45 : decode cX9_firstMismatch 45 = .ok (.ifCond .ne 5, 3) := by decide +kernel
theorem dX9_firstMismatch_48 : decode cX9_firstMismatch 48 = .ok (.iload_n 1, 1) := by decide +kernel
theorem dX9_firstMismatch_49 : decode cX9_firstMismatch 49 = .ok (.ireturn, 1) := by decide +kernel
theorem dX9_firstMismatch_50 : decode cX9_firstMismatch 50 = .ok (.iinc 1 1, 3) := by decide +kernel
theorem dX9_firstMismatch_53 : decode cX9_firstMismatch 53 = .ok (.goto (-38), 3) := by decide +kernel
theorem dX9_firstMismatch_56 : decode cX9_firstMismatch 56 = .ok (.bipush (-8), 2) := by decide +kernel
theorem dX9_firstMismatch_58 : decode cX9_firstMismatch 58 = .ok (.ireturn, 1) := by decide +kernel
theorem dX9_drawPicture_0 : decode cX9_drawPicture 0 = .ok (.aload_n 0, 1) := by decide +kernel
theorem dX9_drawPicture_1 : decode cX9_drawPicture 1 = .ok (.getfield 12, 3) := by decide +kernel
theorem dX9_drawPicture_4 : decode cX9_drawPicture 4 = .ok (.getfield 121, 3) := by decide +kernel
theorem dX9_drawPicture_7 : decode cX9_drawPicture 7 = .ok (.iconst 1, 1) := by decide +kernel
theorem dX9_drawPicture_8 : decode cX9_drawPicture 8 = .ok (.iadd, 1) := by decide +kernel
theorem dX9_drawPicture_9 : decode cX9_drawPicture 9 = .ok (.istore_n 2, 1) := by decide +kernel
theorem dX9_drawPicture_10 : decode cX9_drawPicture 10 = .ok (.iload_n 1, 1) := by decide +kernel
theorem dX9_drawPicture_11 : decode cX9_drawPicture 11 = .ok (.istore_n 3, 1) := by decide +kernel
theorem dX9_drawPicture_12 : decode cX9_drawPicture 12 = .ok (.iconst 0, 1) := by decide +kernel
theorem dX9_drawPicture_13 : decode cX9_drawPicture 13 = .ok (.istore 4, 2) := by decide +kernel
theorem dX9_drawPicture_15 : decode cX9_drawPicture 15 = .ok (.iconst 0, 1) := by decide +kernel
theorem dX9_drawPicture_16 : decode cX9_drawPicture 16 = .ok (.istore 5, 2) := by decide +kernel
theorem dX9_drawPicture_18 : decode cX9_drawPicture 18 = .ok (.iload 5, 2) := by decide +kernel
theorem dX9_drawPicture_20 : decode cX9_drawPicture 20 = .ok (.aload_n 0, 1) := by decide +kernel
theorem dX9_drawPicture_21 : decode cX9_drawPicture 21 = .ok (.getfield 12, 3) := by decide +kernel
theorem dX9_drawPicture_24 : decode cX9_drawPicture 24 = .ok (.invokevirtual 275, 3) := by decide +kernel
theorem dX9_drawPicture_27 : decode cX9_drawPicture 27 = .ok (.if_icmp .ge 57, 3) := by decide +kernel
theorem dX9_drawPicture_30 : decode cX9_drawPicture 30 = .ok (.iload_n 3, 1) := by decide +kernel
theorem dX9_drawPicture_31 : decode cX9_drawPicture 31 = .ok (.ldc_w 278, 3) := by decide +kernel
theorem dX9_drawPicture_34 : decode cX9_drawPicture 34 = .ok (.imul, 1) := by decide +kernel
theorem dX9_drawPicture_35 : decode cX9_drawPicture 35 = .ok (.sipush 12345, 3) := by decide +kernel
theorem dX9_drawPicture_38 : decode cX9_drawPicture 38 = .ok (.iadd, 1) := by decide +kernel
theorem dX9_drawPicture_39 : decode cX9_drawPicture 39 = .ok (.istore_n 3, 1) := by decide +kernel
theorem dX9_drawPicture_40 : decode cX9_drawPicture 40 = .ok (.iload_n 2, 1) := by decide +kernel
theorem dX9_drawPicture_41 : decode cX9_drawPicture 41 = .ok (.ifCond .le 12, 3) := by decide +kernel
theorem dX9_drawPicture_44 : decode cX9_drawPicture 44 = .ok (.iload_n 3, 1) := by decide +kernel
theorem dX9_drawPicture_45 : decode cX9_drawPicture 45 = .ok (.bipush 16, 2) := by decide +kernel
theorem dX9_drawPicture_47 : decode cX9_drawPicture 47 = .ok (.iushr, 1) := by decide +kernel
theorem dX9_drawPicture_48 : decode cX9_drawPicture 48 = .ok (.iload_n 2, 1) := by decide +kernel
theorem dX9_drawPicture_49 : decode cX9_drawPicture 49 = .ok (.irem, 1) := by decide +kernel
theorem dX9_drawPicture_50 : decode cX9_drawPicture 50 = .ok (.goto 4, 3) := by decide +kernel
theorem dX9_drawPicture_53 : decode cX9_drawPicture 53 = .ok (.iconst 0, 1) := by decide +kernel
theorem dX9_drawPicture_54 : decode cX9_drawPicture 54 = .ok (.istore 6, 2) := by decide +kernel
theorem dX9_drawPicture_56 : decode cX9_drawPicture 56 = .ok (.aload_n 0, 1) := by decide +kernel
theorem dX9_drawPicture_57 : decode cX9_drawPicture 57 = .ok (.getfield 12, 3) := by decide +kernel
theorem dX9_drawPicture_60 : decode cX9_drawPicture 60 = .ok (.getfield 165, 3) := by decide +kernel
theorem dX9_drawPicture_63 : decode cX9_drawPicture 63 = .ok (.iload 5, 2) := by decide +kernel
theorem dX9_drawPicture_65 : decode cX9_drawPicture 65 = .ok (.iconst 1, 1) := by decide +kernel
theorem dX9_drawPicture_66 : decode cX9_drawPicture 66 = .ok (.iload 6, 2) := by decide +kernel
theorem dX9_drawPicture_68 : decode cX9_drawPicture 68 = .ok (.ishl, 1) := by decide +kernel
theorem dX9_drawPicture_69 : decode cX9_drawPicture 69 = .ok (.iastore, 1) := by decide +kernel
theorem dX9_drawPicture_70 : decode cX9_drawPicture 70 = .ok (.iload 6, 2) := by decide +kernel
theorem dX9_drawPicture_72 : decode cX9_drawPicture 72 = .ok (.ifCond .eq 6, 3) := by decide +kernel
theorem dX9_drawPicture_75 : decode cX9_drawPicture 75 = .ok (.iinc 4 1, 3) := by decide +kernel
theorem dX9_drawPicture_78 : decode cX9_drawPicture 78 = .ok (.iinc 5 1, 3) := by decide +kernel
theorem dX9_drawPicture_81 : decode cX9_drawPicture 81 = .ok (.goto (-63), 3) := by decide +kernel
theorem dX9_drawPicture_84 : decode cX9_drawPicture 84 = .ok (.aload_n 0, 1) := by decide +kernel
theorem dX9_drawPicture_85 : decode cX9_drawPicture 85 = .ok (.getfield 12, 3) := by decide +kernel
theorem dX9_drawPicture_88 : decode cX9_drawPicture 88 = .ok (.invokevirtual 269, 3) := by decide +kernel
theorem dX9_drawPicture_91 : decode cX9_drawPicture 91 = .ok (.aload_n 0, 1) := by decide +kernel
theorem dX9_drawPicture_92 : decode cX9_drawPicture 92 = .ok (.getfield 29, 3) := by decide +kernel
theorem dX9_drawPicture_95 : decode cX9_drawPicture 95 = .ok (.invokevirtual 105, 3) := by decide +kernel
theorem dX9_drawPicture_98 : decode cX9_drawPicture 98 = .ok (.iload 4, 2) := by decide +kernel
theorem dX9_drawPicture_100 : decode cX9_drawPicture 100 = .ok (.ireturn, 1) := by decide +kernel
theorem dX9_clearCells_0 : decode cX9_clearCells 0 = .ok (.aload_n 0, 1) := by decide +kernel
theorem dX9_clearCells_1 : decode cX9_clearCells 1 = .ok (.getfield 12, 3) := by decide +kernel
theorem dX9_clearCells_4 : decode cX9_clearCells 4 = .ok (.invokevirtual 190, 3) := by decide +kernel
theorem dX9_clearCells_7 : decode cX9_clearCells 7 = .ok (.istore_n 1, 1) := by decide +kernel
theorem dX9_clearCells_8 : decode cX9_clearCells 8 = .ok (.aload_n 0, 1) := by decide +kernel
theorem dX9_clearCells_9 : decode cX9_clearCells 9 = .ok (.getfield 12, 3) := by decide +kernel
theorem dX9_clearCells_12 : decode cX9_clearCells 12 = .ok (.invokevirtual 279, 3) := by decide +kernel
theorem dX9_clearCells_15 : decode cX9_clearCells 15 = .ok (.aload_n 0, 1) := by decide +kernel
theorem dX9_clearCells_16 : decode cX9_clearCells 16 = .ok (.getfield 29, 3) := by decide +kernel
theorem dX9_clearCells_19 : decode cX9_clearCells 19 = .ok (.invokevirtual 105, 3) := by decide +kernel
theorem dX9_clearCells_22 : decode cX9_clearCells 22 = .ok (.iload_n 1, 1) := by decide +kernel
theorem dX9_clearCells_23 : decode cX9_clearCells 23 = .ok (.ireturn, 1) := by decide +kernel
theorem dX9_isWithin_0 : decode cX9_isWithin 0 = .ok (.iload_n 0, 1) := by decide +kernel
theorem dX9_isWithin_1 : decode cX9_isWithin 1 = .ok (.iload_n 1, 1) := by decide +kernel
theorem dX9_isWithin_2 : decode cX9_isWithin 2 = .ok (.if_icmp .lt 12, 3) := by decide +kernel
theorem dX9_isWithin_5 : decode cX9_isWithin 5 = .ok (.iload_n 0, 1) := by decide +kernel
theorem dX9_isWithin_6 : decode cX9_isWithin 6 = .ok (.iload_n 2, 1) := by decide +kernel
theorem dX9_isWithin_7 : decode cX9_isWithin 7 = .ok (.if_icmp .gt 7, 3) := by decide +kernel
theorem dX9_isWithin_10 : decode cX9_isWithin 10 = .ok (.iconst 1, 1) := by decide +kernel
theorem dX9_isWithin_11 : decode cX9_isWithin 11 = .ok (.goto 4, 3) := by decide +kernel
theorem dX9_isWithin_14 : decode cX9_isWithin 14 = .ok (.iconst 0, 1) := by decide +kernel
theorem dX9_isWithin_15 : decode cX9_isWithin 15 = .ok (.ireturn, 1) := by decide +kernel
theorem dX9_candidateError_0 : decode cX9_candidateError 0 = .ok (.aload_n 0, 1) := by decide +kernel
theorem dX9_candidateError_1 : decode cX9_candidateError 1 = .ok (.getfield 12, 3) := by decide +kernel
theorem dX9_candidateError_4 : decode cX9_candidateError 4 = .ok (.iload_n 1, 1) := by decide +kernel
theorem dX9_candidateError_5 : decode cX9_candidateError 5 = .ok (.iload_n 2, 1) := by decide +kernel
theorem dX9_candidateError_6 : decode cX9_candidateError 6 = .ok (.invokevirtual 162, 3) := by decide +kernel
theorem dX9_candidateError_9 : decode cX9_candidateError 9 = .ok (.ifCond .ne 5, 3) := by decide +kernel
theorem dX9_candidateError_12 : decode cX9_candidateError 12 = .ok (.iconst (-1), 1) := by decide +kernel
theorem dX9_candidateError_13 : decode cX9_candidateError 13 = .ok (.ireturn, 1) := by decide +kernel
theorem dX9_candidateError_14 : decode cX9_candidateError 14 = .ok (.iload_n 3, 1) := by decide +kernel
theorem dX9_candidateError_15 : decode cX9_candidateError 15 = .ok (.iconst 0, 1) := by decide +kernel
theorem dX9_candidateError_16 : decode cX9_candidateError 16 = .ok (.aload_n 0, 1) := by decide +kernel
theorem dX9_candidateError_17 : decode cX9_candidateError 17 = .ok (.getfield 12, 3) := by decide +kernel
theorem dX9_candidateError_20 : decode cX9_candidateError 20 = .ok (.getfield 121, 3) := by decide +kernel
theorem dX9_candidateError_23 : decode cX9_candidateError 23 = .ok (.invokestatic 101, 3) := by decide +kernel
theorem dX9_candidateError_26 : decode cX9_candidateError 26 = .ok (.ifCond .ne 6, 3) := by decide +kernel
theorem dX9_candidateError_29 : decode cX9_candidateError 29 = .ok (.bipush (-2), 2) := by decide +kernel
theorem dX9_candidateError_31 : decode cX9_candidateError 31 = .ok (.ireturn, 1) := by decide +kernel
theorem dX9_candidateError_32 : decode cX9_candidateError 32 = .ok (.aload_n 0, 1) := by decide +kernel
theorem dX9_candidateError_33 : decode cX9_candidateError 33 = .ok (.getfield 12, 3) := by decide +kernel
theorem dX9_candidateError_36 : decode cX9_candidateError 36 = .ok (.aload_n 0, 1) := by decide +kernel
theorem dX9_candidateError_37 : decode cX9_candidateError 37 = .ok (.getfield 12, 3) := by decide +kernel
theorem dX9_candidateError_40 : decode cX9_candidateError 40 = .ok (.iload_n 1, 1) := by decide +kernel
theorem dX9_candidateError_41 : decode cX9_candidateError 41 = .ok (.iload_n 2, 1) := by decide +kernel
theorem dX9_candidateError_42 : decode cX9_candidateError 42 = .ok (.invokevirtual 169, 3) := by decide +kernel
theorem dX9_candidateError_45 : decode cX9_candidateError 45 = .ok (.iload_n 3, 1) := by decide +kernel
theorem dX9_candidateError_46 : decode cX9_candidateError 46 = .ok (.invokevirtual 332, 3) := by decide +kernel
theorem dX9_candidateError_49 : decode cX9_candidateError 49 = .ok (.ifCond .eq 7, 3) := by decide +kernel
theorem dX9_candidateError_52 : decode cX9_candidateError 52 = .ok (.iconst 0, 1) := by decide +kernel
theorem dX9_candidateError_53 : decode cX9_candidateError 53 = .ok (.goto 5, 3) := by decide +kernel
theorem dX9_candidateError_56 : decode cX9_candidateError 56 = .ok (.bipush (-5), 2) := by decide +kernel
theorem dX9_candidateError_58 : decode cX9_candidateError 58 = .ok (.ireturn, 1) := by decide +kernel
theorem dX9_commitWork_0 : decode cX9_commitWork 0 = .ok (.aload_n 0, 1) := by decide +kernel
theorem dX9_commitWork_1 : decode cX9_commitWork 1 = .ok (.getfield 29, 3) := by decide +kernel
theorem dX9_commitWork_4 : decode cX9_commitWork 4 = .ok (.aload_n 0, 1) := by decide +kernel
theorem dX9_commitWork_5 : decode cX9_commitWork 5 = .ok (.getfield 12, 3) := by decide +kernel
theorem dX9_commitWork_8 : decode cX9_commitWork 8 = .ok (.invokevirtual 134, 3) := by decide +kernel
theorem dX9_commitWork_11 : decode cX9_commitWork 11 = .ok (.aload_n 0, 1) := by decide +kernel
theorem dX9_commitWork_12 : decode cX9_commitWork 12 = .ok (.getfield 12, 3) := by decide +kernel
theorem dX9_commitWork_15 : decode cX9_commitWork 15 = .ok (.aload_n 0, 1) := by decide +kernel
theorem dX9_commitWork_16 : decode cX9_commitWork 16 = .ok (.getfield 16, 3) := by decide +kernel
theorem dX9_commitWork_19 : decode cX9_commitWork 19 = .ok (.invokevirtual 209, 3) := by decide +kernel
theorem dX9_commitWork_22 : decode cX9_commitWork 22 = .ok (.return_, 1) := by decide +kernel
theorem dX9_remember_0 : decode cX9_remember 0 = .ok (.aload_n 0, 1) := by decide +kernel
theorem dX9_remember_1 : decode cX9_remember 1 = .ok (.iload_n 1, 1) := by decide +kernel
theorem dX9_remember_2 : decode cX9_remember 2 = .ok (.putfield 65, 3) := by decide +kernel
theorem dX9_remember_5 : decode cX9_remember 5 = .ok (.aload_n 0, 1) := by decide +kernel
theorem dX9_remember_6 : decode cX9_remember 6 = .ok (.iload_n 2, 1) := by decide +kernel
theorem dX9_remember_7 : decode cX9_remember 7 = .ok (.putfield 68, 3) := by decide +kernel
theorem dX9_remember_10 : decode cX9_remember 10 = .ok (.bipush (-4), 2) := by decide +kernel
theorem dX9_remember_12 : decode cX9_remember 12 = .ok (.ireturn, 1) := by decide +kernel
theorem dX9_forgetContradiction_0 : decode cX9_forgetContradiction 0 = .ok (.aload_n 0, 1) := by decide +kernel
theorem dX9_forgetContradiction_1 : decode cX9_forgetContradiction 1 = .ok (.bipush (-8), 2) := by decide +kernel
theorem dX9_forgetContradiction_3 : decode cX9_forgetContradiction 3 = .ok (.putfield 65, 3) := by decide +kernel
theorem dX9_forgetContradiction_6 : decode cX9_forgetContradiction 6 = .ok (.aload_n 0, 1) := by decide +kernel
theorem dX9_forgetContradiction_7 : decode cX9_forgetContradiction 7 = .ok (.bipush (-8), 2) := by decide +kernel
theorem dX9_forgetContradiction_9 : decode cX9_forgetContradiction 9 = .ok (.putfield 68, 3) := by decide +kernel
theorem dX9_forgetContradiction_12 : decode cX9_forgetContradiction 12 = .ok (.return_, 1) := by decide +kernel
