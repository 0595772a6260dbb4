theorem dX9_init_0 : decode cX9_init 0 = .ok (.aload_n 0, 1) := by decide +kernel
theorem dX9_init_1 : decode cX9_init 1 = .ok (.invokespecial 3, 3) := by decide +kernel
theorem dX9_init_4 : decode cX9_init 4 = .ok (.aload_n 0, 1) := by decide +kernel
theorem dX9_init_5 : decode cX9_init 5 = .ok (.new 9, 3) := by decide +kernel
theorem dX9_init_8 : decode cX9_init 8 = .ok (.dup, 1) := by decide +kernel
theorem dX9_init_9 : decode cX9_init 9 = .ok (.invokespecial 11, 3) := by decide +kernel
theorem dX9_init_12 : decode cX9_init 12 = .ok (.putfield 12, 3) := by decide +kernel
theorem dX9_init_15 : decode cX9_init 15 = .ok (.aload_n 0, 1) := by decide +kernel
theorem dX9_init_16 : decode cX9_init 16 = .ok (.new 9, 3) := by decide +kernel
theorem dX9_init_19 : decode cX9_init 19 = .ok (.dup, 1) := by decide +kernel
theorem dX9_init_20 : decode cX9_init 20 = .ok (.invokespecial 11, 3) := by decide +kernel
theorem dX9_init_23 : decode cX9_init 23 = .ok (.putfield 16, 3) := by decide +kernel
theorem dX9_init_26 : decode cX9_init 26 = .ok (.aload_n 0, 1) := by decide +kernel
theorem dX9_init_27 : decode cX9_init 27 = .ok (.new 9, 3) := by decide +kernel
theorem dX9_init_30 : decode cX9_init 30 = .ok (.dup, 1) := by decide +kernel
theorem dX9_init_31 : decode cX9_init 31 = .ok (.invokespecial 11, 3) := by decide +kernel
theorem dX9_init_34 : decode cX9_init 34 = .ok (.putfield 19, 3) := by decide +kernel
theorem dX9_init_37 : decode cX9_init 37 = .ok (.aload_n 0, 1) := by decide +kernel
theorem dX9_init_38 : decode cX9_init 38 = .ok (.iconst 0, 1) := by decide +kernel
theorem dX9_init_39 : decode cX9_init 39 = .ok (.putfield 22, 3) := by decide +kernel
theorem dX9_init_42 : decode cX9_init 42 = .ok (.aload_n 0, 1) := by decide +kernel
theorem dX9_init_43 : decode cX9_init 43 = .ok (.new 26, 3) := by decide +kernel
theorem dX9_init_46 : decode cX9_init 46 = .ok (.dup, 1) := by decide +kernel
theorem dX9_init_47 : decode cX9_init 47 = .ok (.invokespecial 28, 3) := by decide +kernel
theorem dX9_init_50 : decode cX9_init 50 = .ok (.putfield 29, 3) := by decide +kernel
theorem dX9_init_53 : decode cX9_init 53 = .ok (.aload_n 0, 1) := by decide +kernel
theorem dX9_init_54 : decode cX9_init 54 = .ok (.new 33, 3) := by decide +kernel
theorem dX9_init_57 : decode cX9_init 57 = .ok (.dup, 1) := by decide +kernel
theorem dX9_init_58 : decode cX9_init 58 = .ok (.invokespecial 35, 3) := by decide +kernel
theorem dX9_init_61 : decode cX9_init 61 = .ok (.putfield 36, 3) := by decide +kernel
theorem dX9_init_64 : decode cX9_init 64 = .ok (.aload_n 0, 1) := by decide +kernel
theorem dX9_init_65 : decode cX9_init 65 = .ok (.new 40, 3) := by decide +kernel
theorem dX9_init_68 : decode cX9_init 68 = .ok (.dup, 1) := by decide +kernel
theorem dX9_init_69 : decode cX9_init 69 = .ok (.invokespecial 42, 3) := by decide +kernel
theorem dX9_init_72 : decode cX9_init 72 = .ok (.putfield 43, 3) := by decide +kernel
theorem dX9_init_75 : decode cX9_init 75 = .ok (.aload_n 0, 1) := by decide +kernel
theorem dX9_init_76 : decode cX9_init 76 = .ok (.new 47, 3) := by decide +kernel
theorem dX9_init_79 : decode cX9_init 79 = .ok (.dup, 1) := by decide +kernel
theorem dX9_init_80 : decode cX9_init 80 = .ok (.invokespecial 49, 3) := by decide +kernel
theorem dX9_init_83 : decode cX9_init 83 = .ok (.putfield 50, 3) := by decide +kernel
theorem dX9_init_86 : decode cX9_init 86 = .ok (.aload_n 0, 1) := by decide +kernel
theorem dX9_init_87 : decode cX9_init 87 = .ok (.new 54, 3) := by decide +kernel
theorem dX9_init_90 : decode cX9_init 90 = .ok (.dup, 1) := by decide +kernel
theorem dX9_init_91 : decode cX9_init 91 = .ok (.invokespecial 56, 3) := by decide +kernel
theorem dX9_init_94 : decode cX9_init 94 = .ok (.putfield 57, 3) := by decide +kernel
theorem dX9_init_97 : decode cX9_init 97 = .ok (.aload_n 0, 1) := by decide +kernel
theorem dX9_init_98 : decode cX9_init 98 = .ok (.iconst 0, 1) := by decide +kernel
theorem dX9_init_99 : decode cX9_init 99 = .ok (.putfield 61, 3) := by decide +kernel
theorem dX9_init_102 : decode cX9_init 102 = .ok (.aload_n 0, 1) := by decide +kernel
theorem dX9_init_103 : decode cX9_init 103 = .ok (.bipush (-8), 2) := by decide +kernel
theorem dX9_init_105 : decode cX9_init 105 = .ok (.putfield 65, 3) := by decide +kernel
theorem dX9_init_108 : decode cX9_init 108 = .ok (.aload_n 0, 1) := by decide +kernel
theorem dX9_init_109 : decode cX9_init 109 = .ok (.bipush (-8), 2) := by decide +kernel
theorem dX9_init_111 : decode cX9_init 111 = .ok (.putfield 68, 3) := by decide +kernel
theorem dX9_init_114 : decode cX9_init 114 = .ok (.aload_n 0, 1) := by decide +kernel
theorem dX9_init_115 : decode cX9_init 115 = .ok (.new 71, 3) := by decide +kernel
theorem dX9_init_118 : decode cX9_init 118 = .ok (.dup, 1) := by decide +kernel
theorem dX9_init_119 : decode cX9_init 119 = .ok (.bipush 120, 2) := by decide +kernel
theorem dX9_init_121 : decode cX9_init 121 = .ok (.invokespecial 73, 3) := by decide +kernel
theorem dX9_init_124 : decode cX9_init 124 = .ok (.putfield 76, 3) := by decide +kernel
theorem dX9_init_127 : decode cX9_init 127 = .ok (.aload_n 0, 1) := by decide +kernel
theorem dX9_init_128 : decode cX9_init 128 = .ok (.new 71, 3) := by decide +kernel
theorem dX9_init_131 : decode cX9_init 131 = .ok (.dup, 1) := by decide +kernel
theorem dX9_init_132 : decode cX9_init 132 = .ok (.sipush 271, 3) := by decide +kernel
theorem dX9_init_135 : decode cX9_init 135 = .ok (.invokespecial 73, 3) := by decide +kernel
theorem dX9_init_138 : decode cX9_init 138 = .ok (.putfield 80, 3) := by decide +kernel
theorem dX9_init_141 : decode cX9_init 141 = .ok (.aload_n 0, 1) := by decide +kernel
theorem dX9_init_142 : decode cX9_init 142 = .ok (.new 83, 3) := by decide +kernel
theorem dX9_init_145 : decode cX9_init 145 = .ok (.dup, 1) := by decide +kernel
theorem dX9_init_146 : decode cX9_init 146 = .ok (.invokespecial 85, 3) := by decide +kernel
theorem dX9_init_149 : decode cX9_init 149 = .ok (.putfield 86, 3) := by decide +kernel
theorem dX9_init_152 : decode cX9_init 152 = .ok (.aload_n 0, 1) := by decide +kernel
theorem dX9_init_153 : decode cX9_init 153 = .ok (.iconst 3, 1) := by decide +kernel
theorem dX9_init_154 : decode cX9_init 154 = .ok (.anewarray 90, 3) := by decide +kernel
theorem dX9_init_157 : decode cX9_init 157 = .ok (.dup, 1) := by decide +kernel
theorem dX9_init_158 : decode cX9_init 158 = .ok (.iconst 0, 1) := by decide +kernel
theorem dX9_init_159 : decode cX9_init 159 = .ok (.new 90, 3) := by decide +kernel
theorem dX9_init_162 : decode cX9_init 162 = .ok (.dup, 1) := by decide +kernel
theorem dX9_init_163 : decode cX9_init 163 = .ok (.invokespecial 92, 3) := by decide +kernel
theorem dX9_init_166 : decode cX9_init 166 = .ok (.aastore, 1) := by decide +kernel
theorem dX9_init_167 : decode cX9_init 167 = .ok (.dup, 1) := by decide +kernel
theorem dX9_init_168 : decode cX9_init 168 = .ok (.iconst 1, 1) := by decide +kernel
theorem dX9_init_169 : decode cX9_init 169 = .ok (.new 90, 3) := by decide +kernel
theorem dX9_init_172 : decode cX9_init 172 = .ok (.dup, 1) := by decide +kernel
theorem dX9_init_173 : decode cX9_init 173 = .ok (.invokespecial 92, 3) := by decide +kernel
theorem dX9_init_176 : decode cX9_init 176 = .ok (.aastore, 1) := by decide +kernel
theorem dX9_init_177 : decode cX9_init 177 = .ok (.dup, 1) := by decide +kernel
theorem dX9_init_178 : decode cX9_init 178 = .ok (.iconst 2, 1) := by decide +kernel
theorem dX9_init_179 : decode cX9_init 179 = .ok (.new 90, 3) := by decide +kernel
theorem dX9_init_182 : decode cX9_init 182 = .ok (.dup, 1) := by decide +kernel
theorem dX9_init_183 : decode cX9_init 183 = .ok (.invokespecial 92, 3) := by decide +kernel
theorem dX9_init_186 : decode cX9_init 186 = .ok (.aastore, 1) := by decide +kernel
theorem dX9_init_187 : decode cX9_init 187 = .ok (.putfield 93, 3) := by decide +kernel
theorem dX9_init_190 : decode cX9_init 190 = .ok (.aload_n 0, 1) := by decide +kernel
theorem dX9_init_191 : decode cX9_init 191 = .ok (.getfield 12, 3) := by decide +kernel
theorem dX9_init_194 : decode cX9_init 194 = .ok (.iconst 5, 1) := by decide +kernel
theorem dX9_init_195 : decode cX9_init 195 = .ok (.iconst 5, 1) := by decide +kernel
theorem dX9_init_196 : decode cX9_init 196 = .ok (.iconst 1, 1) := by decide +kernel
theorem dX9_init_197 : decode cX9_init 197 = .ok (.invokevirtual 97, 3) := by decide +kernel
theorem dX9_init_200 : decode cX9_init 200 = .ok (.return_, 1) := by decide +kernel
theorem dX9_reset_0 : decode cX9_reset 0 = .ok (.iload_n 1, 1) := by decide +kernel
theorem dX9_reset_1 : decode cX9_reset 1 = .ok (.iconst 1, 1) := by decide +kernel
theorem dX9_reset_2 : decode cX9_reset 2 = .ok (.bipush 8, 2) := by decide +kernel
theorem dX9_reset_4 : decode cX9_reset 4 = .ok (.invokestatic 101, 3) := by decide +kernel
theorem dX9_reset_7 : decode cX9_reset 7 = .ok (.ifCond .eq 22, 3) := by decide +kernel
theorem dX9_reset_10 : decode cX9_reset 10 = .ok (.iload_n 2, 1) := by decide +kernel
theorem dX9_reset_11 : decode cX9_reset 11 = .ok (.iconst 1, 1) := by decide +kernel
theorem dX9_reset_12 : decode cX9_reset 12 = .ok (.bipush 8, 2) := by decide +kernel
theorem dX9_reset_14 : decode cX9_reset 14 = .ok (.invokestatic 101, 3) := by decide +kernel
theorem dX9_reset_17 : decode cX9_reset 17 = .ok (.ifCond .eq 12, 3) := by decide +kernel
theorem dX9_reset_20 : decode cX9_reset 20 = .ok (.iload_n 3, 1) := by decide +kernel
theorem dX9_reset_21 : decode cX9_reset 21 = .ok (.iconst 1, 1) := by decide +kernel
theorem dX9_reset_22 : decode cX9_reset 22 = .ok (.iconst 3, 1) := by decide +kernel
theorem dX9_reset_23 : decode cX9_reset 23 = .ok (.invokestatic 101, 3) := by decide +kernel
theorem dX9_reset_26 : decode cX9_reset 26 = .ok (.ifCond .ne 6, 3) := by decide +kernel
theorem dX9_reset_29 : decode cX9_reset 29 = .ok (.bipush (-2), 2) := by decide +kernel
theorem dX9_reset_31 : decode cX9_reset 31 = .ok (.ireturn, 1) := by decide +kernel
theorem dX9_reset_32 : decode cX9_reset 32 = .ok (.aload_n 0, 1) := by decide +kernel
theorem dX9_reset_33 : decode cX9_reset 33 = .ok (.getfield 12, 3) := by decide +kernel
theorem dX9_reset_36 : decode cX9_reset 36 = .ok (.iload_n 1, 1) := by decide +kernel
theorem dX9_reset_37 : decode cX9_reset 37 = .ok (.iload_n 2, 1) := by decide +kernel
theorem dX9_reset_38 : decode cX9_reset 38 = .ok (.iload_n 3, 1) := by decide +kernel
theorem dX9_reset_39 : decode cX9_reset 39 = .ok (.invokevirtual 97, 3) := by decide +kernel
theorem dX9_reset_42 : decode cX9_reset 42 = .ok (.aload_n 0, 1) := by decide +kernel
theorem dX9_reset_43 : decode cX9_reset 43 = .ok (.getfield 29, 3) := by decide +kernel
theorem dX9_reset_46 : decode cX9_reset 46 = .ok (.invokevirtual 105, 3) := by decide +kernel
theorem dX9_reset_49 : decode cX9_reset 49 = .ok (.aload_n 0, 1) := by decide +kernel
theorem dX9_reset_50 : decode cX9_reset 50 = .ok (.invokevirtual 108, 3) := by decide +kernel
theorem dX9_reset_53 : decode cX9_reset 53 = .ok (.aload_n 0, 1) := by decide +kernel
theorem dX9_reset_54 : decode cX9_reset 54 = .ok (.getfield 12, 3) := by decide +kernel
theorem dX9_reset_57 : decode cX9_reset 57 = .ok (.invokevirtual 111, 3) := by decide +kernel
theorem dX9_reset_60 : decode cX9_reset 60 = .ok (.ireturn, 1) := by decide +kernel
theorem dX9_rowCount_0 : decode cX9_rowCount 0 = .ok (.aload_n 0, 1) := by decide +kernel
theorem dX9_rowCount_1 : decode cX9_rowCount 1 = .ok (.getfield 12, 3) := by decide +kernel
theorem dX9_rowCount_4 : decode cX9_rowCount 4 = .ok (.getfield 115, 3) := by decide +kernel
theorem dX9_rowCount_7 : decode cX9_rowCount 7 = .ok (.ireturn, 1) := by decide +kernel
theorem dX9_columnCount_0 : decode cX9_columnCount 0 = .ok (.aload_n 0, 1) := by decide +kernel
theorem dX9_columnCount_1 : decode cX9_columnCount 1 = .ok (.getfield 12, 3) := by decide +kernel
theorem dX9_columnCount_4 : decode cX9_columnCount 4 = .ok (.getfield 118, 3) := by decide +kernel
theorem dX9_columnCount_7 : decode cX9_columnCount 7 = .ok (.ireturn, 1) := by decide +kernel
theorem dX9_colorCount_0 : decode cX9_colorCount 0 = .ok (.aload_n 0, 1) := by decide +kernel
theorem dX9_colorCount_1 : decode cX9_colorCount 1 = .ok (.getfield 12, 3) := by decide +kernel
theorem dX9_colorCount_4 : decode cX9_colorCount 4 = .ok (.getfield 121, 3) := by decide +kernel
theorem dX9_colorCount_7 : decode cX9_colorCount 7 = .ok (.ireturn, 1) := by decide +kernel
theorem dX9_addRun_0 : decode cX9_addRun 0 = .ok (.aload_n 0, 1) := by decide +kernel
theorem dX9_addRun_1 : decode cX9_addRun 1 = .ok (.getfield 12, 3) := by decide +kernel
theorem dX9_addRun_4 : decode cX9_addRun 4 = .ok (.iload_n 1, 1) := by decide +kernel
theorem dX9_addRun_5 : decode cX9_addRun 5 = .ok (.invokevirtual 124, 3) := by decide +kernel
theorem dX9_addRun_8 : decode cX9_addRun 8 = .ok (.ifCond .ne 5, 3) := by decide +kernel
theorem dX9_addRun_11 : decode cX9_addRun 11 = .ok (.iconst (-1), 1) := by decide +kernel
theorem dX9_addRun_12 : decode cX9_addRun 12 = .ok (.ireturn, 1) := by decide +kernel
theorem dX9_addRun_13 : decode cX9_addRun 13 = .ok (.iload_n 2, 1) := by decide +kernel
theorem dX9_addRun_14 : decode cX9_addRun 14 = .ok (.iconst 1, 1) := by decide +kernel
theorem dX9_addRun_15 : decode cX9_addRun 15 = .ok (.bipush 8, 2) := by decide +kernel
theorem dX9_addRun_17 : decode cX9_addRun 17 = .ok (.invokestatic 101, 3) := by decide +kernel
theorem dX9_addRun_20 : decode cX9_addRun 20 = .ok (.ifCond .eq 18, 3) := by decide +kernel
theorem dX9_addRun_23 : decode cX9_addRun 23 = .ok (.iload_n 3, 1) := by decide +kernel
theorem dX9_addRun_24 : decode cX9_addRun 24 = .ok (.iconst 1, 1) := by decide +kernel
theorem dX9_addRun_25 : decode cX9_addRun 25 = .ok (.aload_n 0, 1) := by decide +kernel
theorem dX9_addRun_26 : decode cX9_addRun 26 = .ok (.getfield 12, 3) := by decide +kernel
theorem dX9_addRun_29 : decode cX9_addRun 29 = .ok (.getfield 121, 3) := by decide +kernel
theorem dX9_addRun_32 : decode cX9_addRun 32 = .ok (.invokestatic 101, 3) := by decide +kernel
theorem dX9_addRun_35 : decode cX9_addRun 35 = .ok (.ifCond .ne 6, 3) := by decide +kernel
theorem dX9_addRun_38 : decode cX9_addRun 38 = .ok (.bipush (-2), 2) := by decide +kernel
theorem dX9_addRun_40 : decode cX9_addRun 40 = .ok (.ireturn, 1) := by decide +kernel
theorem dX9_addRun_41 : decode cX9_addRun 41 = .ok (.aload_n 0, 1) := by decide +kernel
theorem dX9_addRun_42 : decode cX9_addRun 42 = .ok (.getfield 12, 3) := by decide +kernel
theorem dX9_addRun_45 : decode cX9_addRun 45 = .ok (.getfield 128, 3) := by decide +kernel
theorem dX9_addRun_48 : decode cX9_addRun 48 = .ok (.iload_n 1, 1) := by decide +kernel
theorem dX9_addRun_49 : decode cX9_addRun 49 = .ok (.invokevirtual 131, 3) := by decide +kernel
theorem dX9_addRun_52 : decode cX9_addRun 52 = .ok (.ifCond .eq 6, 3) := by decide +kernel
theorem dX9_addRun_55 : decode cX9_addRun 55 = .ok (.bipush (-3), 2) := by decide +kernel
theorem dX9_addRun_57 : decode cX9_addRun 57 = .ok (.ireturn, 1) := by decide +kernel
theorem dX9_addRun_58 : decode cX9_addRun 58 = .ok (.aload_n 0, 1) := by decide +kernel
theorem dX9_addRun_59 : decode cX9_addRun 59 = .ok (.getfield 29, 3) := by decide +kernel
theorem dX9_addRun_62 : decode cX9_addRun 62 = .ok (.aload_n 0, 1) := by decide +kernel
theorem dX9_addRun_63 : decode cX9_addRun 63 = .ok (.getfield 12, 3) := by decide +kernel
theorem dX9_addRun_66 : decode cX9_addRun 66 = .ok (.invokevirtual 134, 3) := by decide +kernel
theorem dX9_addRun_69 : decode cX9_addRun 69 = .ok (.aload_n 0, 1) := by decide +kernel
theorem dX9_addRun_70 : decode cX9_addRun 70 = .ok (.getfield 12, 3) := by decide +kernel
theorem dX9_addRun_73 : decode cX9_addRun 73 = .ok (.getfield 128, 3) := by decide +kernel
theorem dX9_addRun_76 : decode cX9_addRun 76 = .ok (.iload_n 1, 1) := by decide +kernel
theorem dX9_addRun_77 : decode cX9_addRun 77 = .ok (.iload_n 2, 1) := by decide +kernel
theorem dX9_addRun_78 : decode cX9_addRun 78 = .ok (.iload_n 3, 1) := by decide +kernel
theorem dX9_addRun_79 : decode cX9_addRun 79 = .ok (.invokevirtual 138, 3) := by decide +kernel
theorem dX9_addRun_82 : decode cX9_addRun 82 = .ok (.aload_n 0, 1) := by decide +kernel
theorem dX9_addRun_83 : decode cX9_addRun 83 = .ok (.getfield 12, 3) := by decide +kernel
theorem dX9_addRun_86 : decode cX9_addRun 86 = .ok (.getfield 128, 3) := by decide +kernel
theorem dX9_addRun_89 : decode cX9_addRun 89 = .ok (.iload_n 1, 1) := by decide +kernel
theorem dX9_addRun_90 : decode cX9_addRun 90 = .ok (.invokevirtual 141, 3) := by decide +kernel
theorem dX9_addRun_93 : decode cX9_addRun 93 = .ok (.ireturn, 1) := by decide +kernel
theorem dX9_clearClue_0 : decode cX9_clearClue 0 = .ok (.aload_n 0, 1) := by decide +kernel
theorem dX9_clearClue_1 : decode cX9_clearClue 1 = .ok (.getfield 12, 3) := by decide +kernel
theorem dX9_clearClue_4 : decode cX9_clearClue 4 = .ok (.iload_n 1, 1) := by decide +kernel
theorem dX9_clearClue_5 : decode cX9_clearClue 5 = .ok (.invokevirtual 124, 3) := by decide +kernel
theorem dX9_clearClue_8 : decode cX9_clearClue 8 = .ok (.ifCond .ne 5, 3) := by decide +kernel
theorem dX9_clearClue_11 : decode cX9_clearClue 11 = .ok (.iconst (-1), 1) := by decide +kernel
theorem dX9_clearClue_12 : decode cX9_clearClue 12 = .ok (.ireturn, 1) := by decide +kernel
theorem dX9_clearClue_13 : decode cX9_clearClue 13 = .ok (.aload_n 0, 1) := by decide +kernel
theorem dX9_clearClue_14 : decode cX9_clearClue 14 = .ok (.getfield 12, 3) := by decide +kernel
theorem dX9_clearClue_17 : decode cX9_clearClue 17 = .ok (.getfield 128, 3) := by decide +kernel
theorem dX9_clearClue_20 : decode cX9_clearClue 20 = .ok (.iload_n 1, 1) := by decide +kernel
theorem dX9_clearClue_21 : decode cX9_clearClue 21 = .ok (.invokevirtual 141, 3) := by decide +kernel
theorem dX9_clearClue_24 : decode cX9_clearClue 24 = .ok (.istore_n 2, 1) := by decide +kernel
theorem dX9_clearClue_25 : decode cX9_clearClue 25 = .ok (.aload_n 0, 1) := by decide +kernel
theorem dX9_clearClue_26 : decode cX9_clearClue 26 = .ok (.getfield 29, 3) := by decide +kernel
theorem dX9_clearClue_29 : decode cX9_clearClue 29 = .ok (.aload_n 0, 1) := by decide +kernel
theorem dX9_clearClue_30 : decode cX9_clearClue 30 = .ok (.getfield 12, 3) := by decide +kernel
theorem dX9_clearClue_33 : decode cX9_clearClue 33 = .ok (.invokevirtual 134, 3) := by decide +kernel
theorem dX9_clearClue_36 : decode cX9_clearClue 36 = .ok (.aload_n 0, 1) := by decide +kernel
theorem dX9_clearClue_37 : decode cX9_clearClue 37 = .ok (.getfield 12, 3) := by decide +kernel
theorem dX9_clearClue_40 : decode cX9_clearClue 40 = .ok (.getfield 128, 3) := by decide +kernel
theorem dX9_clearClue_43 : decode cX9_clearClue 43 = .ok (.iload_n 1, 1) := by decide +kernel
theorem dX9_clearClue_44 : decode cX9_clearClue 44 = .ok (.invokevirtual 145, 3) := by decide +kernel
theorem dX9_clearClue_47 : decode cX9_clearClue 47 = .ok (.iload_n 2, 1) := by decide +kernel
theorem dX9_clearClue_48 : decode cX9_clearClue 48 = .ok (.ireturn, 1) := by decide +kernel
theorem dX9_runCount_0 : decode cX9_runCount 0 = .ok (.aload_n 0, 1) := by decide +kernel
theorem dX9_runCount_1 : decode cX9_runCount 1 = .ok (.getfield 12, 3) := by decide +kernel
theorem dX9_runCount_4 : decode cX9_runCount 4 = .ok (.iload_n 1, 1) := by decide +kernel
theorem dX9_runCount_5 : decode cX9_runCount 5 = .ok (.invokevirtual 124, 3) := by decide +kernel
theorem dX9_runCount_8 : decode cX9_runCount 8 = .ok (.ifCond .eq 17, 3) := by decide +kernel
theorem dX9_runCount_11 : decode cX9_runCount 11 = .ok (.aload_n 0, 1) := by decide +kernel
theorem dX9_runCount_12 : decode cX9_runCount 12 = .ok (.getfield 12, 3) := by decide +kernel
theorem dX9_runCount_15 : decode cX9_runCount 15 = .ok (.getfield 128, 3) := by decide +kernel
theorem dX9_runCount_18 : decode cX9_runCount 18 = .ok (.iload_n 1, 1) := by decide +kernel
theorem dX9_runCount_19 : decode cX9_runCount 19 = .ok (.invokevirtual 141, 3) := by decide +kernel
theorem dX9_runCount_22 : decode cX9_runCount 22 = .ok (.goto 4, 3) := by decide +kernel
theorem dX9_runCount_25 : decode cX9_runCount 25 = .ok (.iconst (-1), 1) := by decide +kernel
theorem dX9_runCount_26 : decode cX9_runCount 26 = .ok (.ireturn, 1) := by decide +kernel
theorem dX9_runLength_0 : decode cX9_runLength 0 = .ok (.aload_n 0, 1) := by decide +kernel
theorem dX9_runLength_1 : decode cX9_runLength 1 = .ok (.iload_n 1, 1) := by decide +kernel
theorem dX9_runLength_2 : decode cX9_runLength 2 = .ok (.iload_n 2, 1) := by decide +kernel
theorem dX9_runLength_3 : decode cX9_runLength 3 = .ok (.invokevirtual 148, 3) := by decide +kernel
theorem dX9_runLength_6 : decode cX9_runLength 6 = .ok (.ifCond .eq 18, 3) := by decide +kernel
theorem dX9_runLength_9 : decode cX9_runLength 9 = .ok (.aload_n 0, 1) := by decide +kernel
theorem dX9_runLength_10 : decode cX9_runLength 10 = .ok (.getfield 12, 3) := by decide +kernel
theorem dX9_runLength_13 : decode cX9_runLength 13 = .ok (.getfield 128, 3) := by decide +kernel
theorem dX9_runLength_16 : decode cX9_runLength 16 = .ok (.iload_n 1, 1) := by decide +kernel
theorem dX9_runLength_17 : decode cX9_runLength 17 = .ok (.iload_n 2, 1) := by decide +kernel
theorem dX9_runLength_18 : decode cX9_runLength 18 = .ok (.invokevirtual 152, 3) := by decide +kernel
theorem dX9_runLength_21 : decode cX9_runLength 21 = .ok (.goto 4, 3) := by decide +kernel
theorem dX9_runLength_24 : decode cX9_runLength 24 = .ok (.iconst (-1), 1) := by decide +kernel
theorem dX9_runLength_25 : decode cX9_runLength 25 = .ok (.ireturn, 1) := by decide +kernel
theorem dX9_runColor_0 : decode cX9_runColor 0 = .ok (.aload_n 0, 1) := by decide +kernel
theorem dX9_runColor_1 : decode cX9_runColor 1 = .ok (.iload_n 1, 1) := by decide +kernel
theorem dX9_runColor_2 : decode cX9_runColor 2 = .ok (.iload_n 2, 1) := by decide +kernel
theorem dX9_runColor_3 : decode cX9_runColor 3 = .ok (.invokevirtual 148, 3) := by decide +kernel
theorem dX9_runColor_6 : decode cX9_runColor 6 = .ok (.ifCond .eq 18, 3) := by decide +kernel
theorem dX9_runColor_9 : decode cX9_runColor 9 = .ok (.aload_n 0, 1) := by decide +kernel
theorem dX9_runColor_10 : decode cX9_runColor 10 = .ok (.getfield 12, 3) := by decide +kernel
theorem dX9_runColor_13 : decode cX9_runColor 13 = .ok (.getfield 128, 3) := by decide +kernel
theorem dX9_runColor_16 : decode cX9_runColor 16 = .ok (.iload_n 1, 1) := by decide +kernel
theorem dX9_runColor_17 : decode cX9_runColor 17 = .ok (.iload_n 2, 1) := by decide +kernel
theorem dX9_runColor_18 : decode cX9_runColor 18 = .ok (.invokevirtual 156, 3) := by decide +kernel
theorem dX9_runColor_21 : decode cX9_runColor 21 = .ok (.goto 4, 3) := by decide +kernel
theorem dX9_runColor_24 : decode cX9_runColor 24 = .ok (.iconst (-1), 1) := by decide +kernel
theorem dX9_runColor_25 : decode cX9_runColor 25 = .ok (.ireturn, 1) := by decide +kernel
theorem dX9_minimumLength_0 : decode cX9_minimumLength 0 = .ok (.aload_n 0, 1) := by decide +kernel
theorem dX9_minimumLength_1 : decode cX9_minimumLength 1 = .ok (.getfield 12, 3) := by decide +kernel
theorem dX9_minimumLength_4 : decode cX9_minimumLength 4 = .ok (.iload_n 1, 1) := by decide +kernel
theorem dX9_minimumLength_5 : decode cX9_minimumLength 5 = .ok (.invokevirtual 124, 3) := by decide +kernel
theorem dX9_minimumLength_8 : decode cX9_minimumLength 8 = .ok (.ifCond .eq 17, 3) := by decide +kernel
theorem dX9_minimumLength_11 : decode cX9_minimumLength 11 = .ok (.aload_n 0, 1) := by decide +kernel
theorem dX9_minimumLength_12 : decode cX9_minimumLength 12 = .ok (.getfield 12, 3) := by decide +kernel
theorem dX9_minimumLength_15 : decode cX9_minimumLength 15 = .ok (.getfield 128, 3) := by decide +kernel
theorem dX9_minimumLength_18 : decode cX9_minimumLength 18 = .ok (.iload_n 1, 1) := by decide +kernel
theorem dX9_minimumLength_19 : decode cX9_minimumLength 19 = .ok (.invokevirtual 159, 3) := by decide +kernel
theorem dX9_minimumLength_22 : decode cX9_minimumLength 22 = .ok (.goto 4, 3) := by decide +kernel
theorem dX9_minimumLength_25 : decode cX9_minimumLength 25 = .ok (.iconst (-1), 1) := by decide +kernel
theorem dX9_minimumLength_26 : decode cX9_minimumLength 26 = .ok (.ireturn, 1) := by decide +kernel
theorem dX9_candidates_0 : decode cX9_candidates 0 = .ok (.aload_n 0, 1) := by decide +kernel
theorem dX9_candidates_1 : decode cX9_candidates 1 = .ok (.getfield 12, 3) := by decide +kernel
theorem dX9_candidates_4 : decode cX9_candidates 4 = .ok (.iload_n 1, 1) := by decide +kernel
theorem dX9_candidates_5 : decode cX9_candidates 5 = .ok (.iload_n 2, 1) := by decide +kernel
theorem dX9_candidates_6 : decode cX9_candidates 6 = .ok (.invokevirtual 162, 3) := by decide +kernel
theorem dX9_candidates_9 : decode cX9_candidates 9 = .ok (.ifCond .eq 23, 3) := by decide +kernel
theorem dX9_candidates_12 : decode cX9_candidates 12 = .ok (.aload_n 0, 1) := by decide +kernel
theorem dX9_candidates_13 : decode cX9_candidates 13 = .ok (.getfield 12, 3) := by decide +kernel
theorem dX9_candidates_16 : decode cX9_candidates 16 = .ok (.getfield 165, 3) := by decide +kernel
theorem dX9_candidates_19 : decode cX9_candidates 19 = .ok (.aload_n 0, 1) := by decide +kernel
theorem dX9_candidates_20 : decode cX9_candidates 20 = .ok (.getfield 12, 3) := by decide +kernel
theorem dX9_candidates_23 : decode cX9_candidates 23 = .ok (.iload_n 1, 1) := by decide +kernel
theorem dX9_candidates_24 : decode cX9_candidates 24 = .ok (.iload_n 2, 1) := by decide +kernel
theorem dX9_candidates_25 : decode cX9_candidates 25 = .ok (.invokevirtual 169, 3) := by decide +kernel
theorem dX9_candidates_28 : decode cX9_candidates 28 = .ok (.iaload, 1) := by decide +kernel
theorem dX9_candidates_29 : decode cX9_candidates 29 = .ok (.goto 4, 3) := by decide +kernel
theorem dX9_candidates_32 : decode cX9_candidates 32 = .ok (.iconst (-1), 1) := by decide +kernel
theorem dX9_candidates_33 : decode cX9_candidates 33 = .ok (.ireturn, 1) := by decide +kernel
theorem dX9_color_0 : decode cX9_color 0 = .ok (.aload_n 0, 1) := by decide +kernel
theorem dX9_color_1 : decode cX9_color 1 = .ok (.getfield 12, 3) := by decide +kernel
theorem dX9_color_4 : decode cX9_color 4 = .ok (.iload_n 1, 1) := by decide +kernel
theorem dX9_color_5 : decode cX9_color 5 = .ok (.iload_n 2, 1) := by decide +kernel
theorem dX9_color_6 : decode cX9_color 6 = .ok (.invokevirtual 162, 3) := by decide +kernel
theorem dX9_color_9 : decode cX9_color 9 = .ok (.ifCond .ne 5, 3) := by decide +kernel
theorem dX9_color_12 : decode cX9_color 12 = .ok (.iconst (-1), 1) := by decide +kernel
theorem dX9_color_13 : decode cX9_color 13 = .ok (.ireturn, 1) := by decide +kernel
theorem dX9_color_14 : decode cX9_color 14 = .ok (.aload_n 0, 1) := by decide +kernel
theorem dX9_color_15 : decode cX9_color 15 = .ok (.getfield 12, 3) := by decide +kernel
theorem dX9_color_18 : decode cX9_color 18 = .ok (.iload_n 1, 1) := by decide +kernel
theorem dX9_color_19 : decode cX9_color 19 = .ok (.iload_n 2, 1) := by decide +kernel
theorem dX9_color_20 : decode cX9_color 20 = .ok (.invokevirtual 169, 3) := by decide +kernel
theorem dX9_color_23 : decode cX9_color 23 = .ok (.istore_n 3, 1) := by decide +kernel
theorem dX9_color_24 : decode cX9_color 24 = .ok (.aload_n 0, 1) := by decide +kernel
theorem dX9_color_25 : decode cX9_color 25 = .ok (.getfield 12, 3) := by decide +kernel
theorem dX9_color_28 : decode cX9_color 28 = .ok (.iload_n 3, 1) := by decide +kernel
theorem dX9_color_29 : decode cX9_color 29 = .ok (.invokevirtual 172, 3) := by decide +kernel
theorem dX9_color_32 : decode cX9_color 32 = .ok (.ifCond .eq 14, 3) := by decide +kernel
theorem dX9_color_35 : decode cX9_color 35 = .ok (.aload_n 0, 1) := by decide +kernel
theorem dX9_color_36 : decode cX9_color 36 = .ok (.getfield 12, 3) := by decide +kernel
theorem dX9_color_39 : decode cX9_color 39 = .ok (.iload_n 3, 1) := by decide +kernel
theorem dX9_color_40 : decode cX9_color 40 = .ok (.invokevirtual 175, 3) := by decide +kernel
theorem dX9_color_43 : decode cX9_color 43 = .ok (.goto 5, 3) := by decide +kernel
theorem dX9_color_46 : decode cX9_color 46 = .ok (.bipush (-6), 2) := by decide +kernel
theorem dX9_color_48 : decode cX9_color 48 = .ok (.ireturn, 1) := by decide +kernel
theorem dX9_keepOnly_0 : decode cX9_keepOnly 0 = .ok (.aload_n 0, 1) := by decide +kernel
theorem dX9_keepOnly_1 : decode cX9_keepOnly 1 = .ok (.iload_n 1, 1) := by decide +kernel
theorem dX9_keepOnly_2 : decode cX9_keepOnly 2 = .ok (.iload_n 2, 1) := by decide +kernel
theorem dX9_keepOnly_3 : decode cX9_keepOnly 3 = .ok (.iload_n 3, 1) := by decide +kernel
theorem dX9_keepOnly_4 : decode cX9_keepOnly 4 = .ok (.invokevirtual 178, 3) := by decide +kernel
theorem dX9_keepOnly_7 : decode cX9_keepOnly 7 = .ok (.istore 4, 2) := by decide +kernel
theorem dX9_keepOnly_9 : decode cX9_keepOnly 9 = .ok (.iload 4, 2) := by decide +kernel
theorem dX9_keepOnly_11 : decode cX9_keepOnly 11 = .ok (.ifCond .eq 6, 3) := by decide +kernel
theorem dX9_keepOnly_14 : decode cX9_keepOnly 14 = .ok (.iload 4, 2) := by decide +kernel
theorem dX9_keepOnly_16 : decode cX9_keepOnly 16 = .ok (.ireturn, 1) := by decide +kernel
theorem dX9_keepOnly_17 : decode cX9_keepOnly 17 = .ok (.aload_n 0, 1) := by decide +kernel
theorem dX9_keepOnly_18 : decode cX9_keepOnly 18 = .ok (.getfield 12, 3) := by decide +kernel
theorem dX9_keepOnly_21 : decode cX9_keepOnly 21 = .ok (.iload_n 1, 1) := by decide +kernel
theorem dX9_keepOnly_22 : decode cX9_keepOnly 22 = .ok (.iload_n 2, 1) := by decide +kernel
theorem dX9_keepOnly_23 : decode cX9_keepOnly 23 = .ok (.invokevirtual 169, 3) := by decide +kernel
theorem dX9_keepOnly_26 : decode cX9_keepOnly 26 = .ok (.istore 5, 2) := by decide +kernel
theorem dX9_keepOnly_28 : decode cX9_keepOnly 28 = .ok (.aload_n 0, 1) := by decide +kernel
theorem dX9_keepOnly_29 : decode cX9_keepOnly 29 = .ok (.getfield 12, 3) := by decide +kernel
theorem dX9_keepOnly_32 : decode cX9_keepOnly 32 = .ok (.getfield 165, 3) := by decide +kernel
theorem dX9_keepOnly_35 : decode cX9_keepOnly 35 = .ok (.iload 5, 2) := by decide +kernel
theorem dX9_keepOnly_37 : decode cX9_keepOnly 37 = .ok (.iaload, 1) := by decide +kernel
theorem dX9_keepOnly_38 : decode cX9_keepOnly 38 = .ok (.invokestatic 182, 3) := by decide +kernel
theorem dX9_keepOnly_41 : decode cX9_keepOnly 41 = .ok (.iconst 1, 1) := by decide +kernel
theorem dX9_keepOnly_42 : decode cX9_keepOnly 42 = .ok (.isub, 1) := by decide +kernel
theorem dX9_keepOnly_43 : decode cX9_keepOnly 43 = .ok (.istore 6, 2) := by decide +kernel
theorem dX9_keepOnly_45 : decode cX9_keepOnly 45 = .ok (.aload_n 0, 1) := by decide +kernel
theorem dX9_keepOnly_46 : decode cX9_keepOnly 46 = .ok (.getfield 29, 3) := by decide +kernel
theorem dX9_keepOnly_49 : decode cX9_keepOnly 49 = .ok (.aload_n 0, 1) := by decide +kernel
theorem dX9_keepOnly_50 : decode cX9_keepOnly 50 = .ok (.getfield 12, 3) := by decide +kernel
theorem dX9_keepOnly_53 : decode cX9_keepOnly 53 = .ok (.invokevirtual 134, 3) := by decide +kernel
theorem dX9_keepOnly_56 : decode cX9_keepOnly 56 = .ok (.aload_n 0, 1) := by decide +kernel
theorem dX9_keepOnly_57 : decode cX9_keepOnly 57 = .ok (.getfield 12, 3) := by decide +kernel
theorem dX9_keepOnly_60 : decode cX9_keepOnly 60 = .ok (.getfield 165, 3) := by decide +kernel
theorem dX9_keepOnly_63 : decode cX9_keepOnly 63 = .ok (.iload 5, 2) := by decide +kernel
theorem dX9_keepOnly_65 : decode cX9_keepOnly 65 = .ok (.iconst 1, 1) := by decide +kernel
theorem dX9_keepOnly_66 : decode cX9_keepOnly 66 = .ok (.iload_n 3, 1) := by decide +kernel
theorem dX9_keepOnly_67 : decode cX9_keepOnly 67 = .ok (.ishl, 1) := by decide +kernel
theorem dX9_keepOnly_68 : decode cX9_keepOnly 68 = .ok (.iastore, 1) := by decide +kernel
theorem dX9_keepOnly_69 : decode cX9_keepOnly 69 = .ok (.iload 6, 2) := by decide +kernel
theorem dX9_keepOnly_71 : decode cX9_keepOnly 71 = .ok (.ireturn, 1) := by decide +kernel
theorem dX9_eliminate_0 : decode cX9_eliminate 0 = .ok (.aload_n 0, 1) := by decide +kernel
theorem dX9_eliminate_1 : decode cX9_eliminate 1 = .ok (.iload_n 1, 1) := by decide +kernel
theorem dX9_eliminate_2 : decode cX9_eliminate 2 = .ok (.iload_n 2, 1) := by decide +kernel
theorem dX9_eliminate_3 : decode cX9_eliminate 3 = .ok (.iload_n 3, 1) := by decide +kernel
theorem dX9_eliminate_4 : decode cX9_eliminate 4 = .ok (.invokevirtual 187, 3) := by decide +kernel
theorem dX9_eliminate_7 : decode cX9_eliminate 7 = .ok (.istore 4, 2) := by decide +kernel
theorem dX9_eliminate_9 : decode cX9_eliminate 9 = .ok (.iload 4, 2) := by decide +kernel
theorem dX9_eliminate_11 : decode cX9_eliminate 11 = .ok (.ifCond .eq 6, 3) := by decide +kernel
theorem dX9_eliminate_14 : decode cX9_eliminate 14 = .ok (.iload 4, 2) := by decide +kernel
theorem dX9_eliminate_16 : decode cX9_eliminate 16 = .ok (.ireturn, 1) := by decide +kernel
theorem dX9_eliminate_17 : decode cX9_eliminate 17 = .ok (.aload_n 0, 1) := by decide +kernel
theorem dX9_eliminate_18 : decode cX9_eliminate 18 = .ok (.getfield 12, 3) := by decide +kernel
theorem dX9_eliminate_21 : decode cX9_eliminate 21 = .ok (.iload_n 1, 1) := by decide +kernel
theorem dX9_eliminate_22 : decode cX9_eliminate 22 = .ok (.iload_n 2, 1) := by decide +kernel
theorem dX9_eliminate_23 : decode cX9_eliminate 23 = .ok (.invokevirtual 169, 3) := by decide +kernel
theorem dX9_eliminate_26 : decode cX9_eliminate 26 = .ok (.istore 5, 2) := by decide +kernel
theorem dX9_eliminate_28 : decode cX9_eliminate 28 = .ok (.aload_n 0, 1) := by decide +kernel
theorem dX9_eliminate_29 : decode cX9_eliminate 29 = .ok (.getfield 29, 3) := by decide +kernel
theorem dX9_eliminate_32 : decode cX9_eliminate 32 = .ok (.aload_n 0, 1) := by decide +kernel
theorem dX9_eliminate_33 : decode cX9_eliminate 33 = .ok (.getfield 12, 3) := by decide +kernel
theorem dX9_eliminate_36 : decode cX9_eliminate 36 = .ok (.invokevirtual 134, 3) := by decide +kernel
theorem dX9_eliminate_39 : decode cX9_eliminate 39 = .ok (.aload_n 0, 1) := by decide +kernel
theorem dX9_eliminate_40 : decode cX9_eliminate 40 = .ok (.getfield 12, 3) := by decide +kernel
theorem dX9_eliminate_43 : decode cX9_eliminate 43 = .ok (.getfield 165, 3) := by decide +kernel
theorem dX9_eliminate_46 : decode cX9_eliminate 46 = .ok (.iload 5, 2) := by decide +kernel
theorem dX9_eliminate_48 : decode cX9_eliminate 48 = .ok (.dup2, 1) := by decide +kernel
theorem dX9_eliminate_49 : decode cX9_eliminate 49 = .ok (.iaload, 1) := by decide +kernel
theorem dX9_eliminate_50 : decode cX9_eliminate 50 = .ok (.iconst 1, 1) := by decide +kernel
theorem dX9_eliminate_51 : decode cX9_eliminate 51 = .ok (.iload_n 3, 1) := by decide +kernel
theorem dX9_eliminate_52 : decode cX9_eliminate 52 = .ok (.ishl, 1) := by decide +kernel
theorem dX9_eliminate_53 : decode cX9_eliminate 53 = .ok (.iconst (-1), 1) := by decide +kernel
theorem dX9_eliminate_54 : decode cX9_eliminate 54 = .ok (.ixor, 1) := by decide +kernel
theorem dX9_eliminate_55 : decode cX9_eliminate 55 = .ok (.iand, 1) := by decide +kernel
theorem dX9_eliminate_56 : decode cX9_eliminate 56 = .ok (.iastore, 1) := by decide +kernel
theorem dX9_eliminate_57 : decode cX9_eliminate 57 = .ok (.aload_n 0, 1) := by decide +kernel
theorem dX9_eliminate_58 : decode cX9_eliminate 58 = .ok (.getfield 12, 3) := by decide +kernel
theorem dX9_eliminate_61 : decode cX9_eliminate 61 = .ok (.getfield 165, 3) := by decide +kernel
theorem dX9_eliminate_64 : decode cX9_eliminate 64 = .ok (.iload 5, 2) := by decide +kernel
theorem dX9_eliminate_66 : decode cX9_eliminate 66 = .ok (.iaload, 1) := by decide +kernel
theorem dX9_eliminate_67 : decode cX9_eliminate 67 = .ok (.invokestatic 182, 3) := by decide +kernel
theorem dX9_eliminate_70 : decode cX9_eliminate 70 = .ok (.ireturn, 1) := by decide +kernel
theorem dX9_decidedCount_0 : decode cX9_decidedCount 0 = .ok (.aload_n 0, 1) := by decide +kernel
theorem dX9_decidedCount_1 : decode cX9_decidedCount 1 = .ok (.getfield 12, 3) := by decide +kernel
theorem dX9_decidedCount_4 : decode cX9_decidedCount 4 = .ok (.invokevirtual 190, 3) := by decide +kernel
theorem dX9_decidedCount_7 : decode cX9_decidedCount 7 = .ok (.ireturn, 1) := by decide +kernel
theorem dX9_averageCandidates_0 : decode cX9_averageCandidates 0 = .ok (.aload_n 0, 1) := by decide +kernel
theorem dX9_averageCandidates_1 : decode cX9_averageCandidates 1 = .ok (.getfield 12, 3) := by decide +kernel
theorem dX9_averageCandidates_4 : decode cX9_averageCandidates 4 = .ok (.iload_n 1, 1) := by decide +kernel
theorem dX9_averageCandidates_5 : decode cX9_averageCandidates 5 = .ok (.invokevirtual 124, 3) := by decide +kernel
theorem dX9_averageCandidates_8 : decode cX9_averageCandidates 8 = .ok (.ifCond .ne 5, 3) := by decide +kernel
theorem dX9_averageCandidates_11 : decode cX9_averageCandidates 11 = .ok (.iconst (-1), 1) := by decide +kernel
theorem dX9_averageCandidates_12 : decode cX9_averageCandidates 12 = .ok (.ireturn, 1) := by decide +kernel
theorem dX9_averageCandidates_13 : decode cX9_averageCandidates 13 = .ok (.iconst 0, 1) := by decide +kernel
theorem dX9_averageCandidates_14 : decode cX9_averageCandidates 14 = .ok (.istore_n 2, 1) := by decide +kernel
theorem dX9_averageCandidates_15 : decode cX9_averageCandidates 15 = .ok (.iconst 0, 1) := by decide +kernel
theorem dX9_averageCandidates_16 : decode cX9_averageCandidates 16 = .ok (.istore_n 3, 1) := by decide +kernel
theorem dX9_averageCandidates_17 : decode cX9_averageCandidates 17 = .ok (.iconst 0, 1) := by decide +kernel
theorem dX9_averageCandidates_18 : decode cX9_averageCandidates 18 = .ok (.istore 4, 2) := by decide +kernel
theorem dX9_averageCandidates_20 : decode cX9_averageCandidates 20 = .ok (.iload 4, 2) := by decide +kernel
theorem dX9_averageCandidates_22 : decode cX9_averageCandidates 22 = .ok (.aload_n 0, 1) := by decide +kernel
theorem dX9_averageCandidates_23 : decode cX9_averageCandidates 23 = .ok (.getfield 12, 3) := by decide +kernel
theorem dX9_averageCandidates_26 : decode cX9_averageCandidates 26 = .ok (.iload_n 1, 1) := by decide +kernel
theorem dX9_averageCandidates_27 : decode cX9_averageCandidates 27 = .ok (.invokevirtual 193, 3) := by decide +kernel
theorem dX9_averageCandidates_30 : decode cX9_averageCandidates 30 = .ok (.if_icmp .ge 52, 3) := by decide +kernel
theorem dX9_averageCandidates_33 : decode cX9_averageCandidates 33 = .ok (.aload_n 0, 1) := by decide +kernel
theorem dX9_averageCandidates_34 : decode cX9_averageCandidates 34 = .ok (.getfield 12, 3) := by decide +kernel
theorem dX9_averageCandidates_37 : decode cX9_averageCandidates 37 = .ok (.iload_n 1, 1) := by decide +kernel
theorem dX9_averageCandidates_38 : decode cX9_averageCandidates 38 = .ok (.iload 4, 2) := by decide +kernel
theorem dX9_averageCandidates_40 : decode cX9_averageCandidates 40 = .ok (.invokevirtual 196, 3) := by decide +kernel
theorem dX9_averageCandidates_43 : decode cX9_averageCandidates 43 = .ok (.istore 5, 2) := by decide +kernel
theorem dX9_averageCandidates_45 : decode cX9_averageCandidates 45 = .ok (.aload_n 0, 1) := by decide +kernel
theorem dX9_averageCandidates_46 : decode cX9_averageCandidates 46 = .ok (.getfield 12, 3) := by decide +kernel
theorem dX9_averageCandidates_49 : decode cX9_averageCandidates 49 = .ok (.iload 5, 2) := by decide +kernel
theorem dX9_averageCandidates_51 : decode cX9_averageCandidates 51 = .ok (.invokevirtual 172, 3) := by decide +kernel
theorem dX9_averageCandidates_54 : decode cX9_averageCandidates 54 = .ok (.ifCond .ne 22, 3) := by decide +kernel
theorem dX9_averageCandidates_57 : decode cX9_averageCandidates 57 = .ok (.iinc 2 1, 3) := by decide +kernel
theorem dX9_averageCandidates_60 : decode cX9_averageCandidates 60 = .ok (.iload_n 3, 1) := by decide +kernel
theorem dX9_averageCandidates_61 : decode cX9_averageCandidates 61 = .ok (.aload_n 0, 1) := by decide +kernel
theorem dX9_averageCandidates_62 : decode cX9_averageCandidates 62 = .ok (.getfield 12, 3) := by decide +kernel
theorem dX9_averageCandidates_65 : decode cX9_averageCandidates 65 = .ok (.getfield 165, 3) := by decide +kernel
theorem dX9_averageCandidates_68 : decode cX9_averageCandidates 68 = .ok (.iload 5, 2) := by decide +kernel
theorem dX9_averageCandidates_70 : decode cX9_averageCandidates 70 = .ok (.iaload, 1) := by decide +kernel
theorem dX9_averageCandidates_71 : decode cX9_averageCandidates 71 = .ok (.invokestatic 182, 3) := by decide +kernel
theorem dX9_averageCandidates_74 : decode cX9_averageCandidates 74 = .ok (.iadd, 1) := by decide +kernel
theorem dX9_averageCandidates_75 : decode cX9_averageCandidates 75 = .ok (.istore_n 3, 1) := by decide +kernel
theorem dX9_averageCandidates_76 : decode cX9_averageCandidates 76 = .ok (.iinc 4 1, 3) := by decide +kernel
theorem dX9_averageCandidates_79 : decode cX9_averageCandidates 79 = .ok (.goto (-59), 3) := by decide +kernel
theorem dX9_averageCandidates_82 : decode cX9_averageCandidates 82 = .ok (.iload_n 2, 1) := by decide +kernel
theorem dX9_averageCandidates_83 : decode cX9_averageCandidates 83 = .ok (.ifCond .ne 8, 3) := by decide +kernel
theorem dX9_averageCandidates_86 : decode cX9_averageCandidates 86 = .ok (.bipush (-8), 2) := by decide +kernel
theorem dX9_averageCandidates_88 : decode cX9_averageCandidates 88 = .ok (.goto 9, 3) := by decide +kernel
theorem dX9_averageCandidates_91 : decode cX9_averageCandidates 91 = .ok (.iload_n 3, 1) := by decide +kernel
theorem dX9_averageCandidates_92 : decode cX9_averageCandidates 92 = .ok (.bipush 100, 2) := by decide +kernel
theorem dX9_averageCandidates_94 : decode cX9_averageCandidates 94 = .ok (.imul, 1) := by decide +kernel
theorem dX9_averageCandidates_95 : decode cX9_averageCandidates 95 = .ok (.iload_n 2, 1) := by decide +kernel
theorem dX9_averageCandidates_96 : decode cX9_averageCandidates 96 = .ok (.idiv, 1) := by decide +kernel
theorem dX9_averageCandidates_97 : decode cX9_averageCandidates 97 = .ok (.ireturn, 1) := by decide +kernel
theorem dX9_assignmentCount_0 : decode cX9_assignmentCount 0 = .ok (.aload_n 0, 1) := by decide +kernel
theorem dX9_assignmentCount_1 : decode cX9_assignmentCount 1 = .ok (.getfield 12, 3) := by decide +kernel
theorem dX9_assignmentCount_4 : decode cX9_assignmentCount 4 = .ok (.iload_n 1, 1) := by decide +kernel
theorem dX9_assignmentCount_5 : decode cX9_assignmentCount 5 = .ok (.invokevirtual 124, 3) := by decide +kernel
theorem dX9_assignmentCount_8 : decode cX9_assignmentCount 8 = .ok (.ifCond .ne 5, 3) := by decide +kernel
theorem dX9_assignmentCount_11 : decode cX9_assignmentCount 11 = .ok (.iconst (-1), 1) := by decide +kernel
theorem dX9_assignmentCount_12 : decode cX9_assignmentCount 12 = .ok (.ireturn, 1) := by decide +kernel
theorem dX9_assignmentCount_13 : decode cX9_assignmentCount 13 = .ok (.aload_n 0, 1) := by decide +kernel
theorem dX9_assignmentCount_14 : decode cX9_assignmentCount 14 = .ok (.getfield 36, 3) := by decide +kernel
theorem dX9_assignmentCount_17 : decode cX9_assignmentCount 17 = .ok (.aload_n 0, 1) := by decide +kernel
theorem dX9_assignmentCount_18 : decode cX9_assignmentCount 18 = .ok (.getfield 12, 3) := by decide +kernel
theorem dX9_assignmentCount_21 : decode cX9_assignmentCount 21 = .ok (.iload_n 1, 1) := by decide +kernel
theorem dX9_assignmentCount_22 : decode cX9_assignmentCount 22 = .ok (.invokevirtual 199, 3) := by decide +kernel
theorem dX9_assignmentCount_25 : decode cX9_assignmentCount 25 = .ok (.aload_n 0, 1) := by decide +kernel
theorem dX9_assignmentCount_26 : decode cX9_assignmentCount 26 = .ok (.getfield 36, 3) := by decide +kernel
theorem dX9_assignmentCount_29 : decode cX9_assignmentCount 29 = .ok (.invokevirtual 203, 3) := by decide +kernel
theorem dX9_assignmentCount_32 : decode cX9_assignmentCount 32 = .ok (.ireturn, 1) := by decide +kernel
theorem dX9_assignmentColor_0 : decode cX9_assignmentColor 0 = .ok (.aload_n 0, 1) := by decide +kernel
theorem dX9_assignmentColor_1 : decode cX9_assignmentColor 1 = .ok (.getfield 12, 3) := by decide +kernel
theorem dX9_assignmentColor_4 : decode cX9_assignmentColor 4 = .ok (.iload_n 1, 1) := by decide +kernel
theorem dX9_assignmentColor_5 : decode cX9_assignmentColor 5 = .ok (.invokevirtual 124, 3) := by decide +kernel
theorem dX9_assignmentColor_8 : decode cX9_assignmentColor 8 = .ok (.ifCond .eq 21, 3) := by decide +kernel
theorem dX9_assignmentColor_11 : decode cX9_assignmentColor 11 = .ok (.iload_n 3, 1) := by decide +kernel
theorem dX9_assignmentColor_12 : decode cX9_assignmentColor 12 = .ok (.iconst 0, 1) := by decide +kernel
theorem dX9_assignmentColor_13 : decode cX9_assignmentColor 13 = .ok (.aload_n 0, 1) := by decide +kernel
theorem dX9_assignmentColor_14 : decode cX9_assignmentColor 14 = .ok (.getfield 12, 3) := by decide +kernel
theorem dX9_assignmentColor_17 : decode cX9_assignmentColor 17 = .ok (.iload_n 1, 1) := by decide +kernel
theorem dX9_assignmentColor_18 : decode cX9_assignmentColor 18 = .ok (.invokevirtual 193, 3) := by decide +kernel
theorem dX9_assignmentColor_21 : decode cX9_assignmentColor 21 = .ok (.iconst 1, 1) := by decide +kernel
theorem dX9_assignmentColor_22 : decode cX9_assignmentColor 22 = .ok (.isub, 1) := by decide +kernel
theorem dX9_assignmentColor_23 : decode cX9_assignmentColor 23 = .ok (.invokestatic 101, 3) := by decide +kernel
theorem dX9_assignmentColor_26 : decode cX9_assignmentColor 26 = .ok (.ifCond .ne 5, 3) := by decide +kernel
theorem dX9_assignmentColor_29 : decode cX9_assignmentColor 29 = .ok (.iconst (-1), 1) := by decide +kernel
theorem dX9_assignmentColor_30 : decode cX9_assignmentColor 30 = .ok (.ireturn, 1) := by decide +kernel
theorem dX9_assignmentColor_31 : decode cX9_assignmentColor 31 = .ok (.aload_n 0, 1) := by decide +kernel
theorem dX9_assignmentColor_32 : decode cX9_assignmentColor 32 = .ok (.getfield 36, 3) := by decide +kernel
theorem dX9_assignmentColor_35 : decode cX9_assignmentColor 35 = .ok (.aload_n 0, 1) := by decide +kernel
theorem dX9_assignmentColor_36 : decode cX9_assignmentColor 36 = .ok (.getfield 12, 3) := by decide +kernel
theorem dX9_assignmentColor_39 : decode cX9_assignmentColor 39 = .ok (.iload_n 1, 1) := by decide +kernel
theorem dX9_assignmentColor_40 : decode cX9_assignmentColor 40 = .ok (.invokevirtual 199, 3) := by decide +kernel
theorem dX9_assignmentColor_43 : decode cX9_assignmentColor 43 = .ok (.iload_n 2, 1) := by decide +kernel
theorem dX9_assignmentColor_44 : decode cX9_assignmentColor 44 = .ok (.iconst 0, 1) := by decide +kernel
theorem dX9_assignmentColor_45 : decode cX9_assignmentColor 45 = .ok (.aload_n 0, 1) := by decide +kernel
theorem dX9_assignmentColor_46 : decode cX9_assignmentColor 46 = .ok (.getfield 36, 3) := by decide +kernel
theorem dX9_assignmentColor_49 : decode cX9_assignmentColor 49 = .ok (.invokevirtual 203, 3) := by decide +kernel
theorem dX9_assignmentColor_52 : decode cX9_assignmentColor 52 = .ok (.iconst 1, 1) := by decide +kernel
theorem dX9_assignmentColor_53 : decode cX9_assignmentColor 53 = .ok (.isub, 1) := by decide +kernel
theorem dX9_assignmentColor_54 : decode cX9_assignmentColor 54 = .ok (.invokestatic 101, 3) := by decide +kernel
theorem dX9_assignmentColor_57 : decode cX9_assignmentColor 57 = .ok (.ifCond .ne 5, 3) := by decide +kernel
theorem dX9_assignmentColor_60 : decode cX9_assignmentColor 60 = .ok (.iconst (-1), 1) := by decide +kernel
theorem dX9_assignmentColor_61 : decode cX9_assignmentColor 61 = .ok (.ireturn, 1) := by decide +kernel
theorem dX9_assignmentColor_62 : decode cX9_assignmentColor 62 = .ok (.aload_n 0, 1) := by decide +kernel
theorem dX9_assignmentColor_63 : decode cX9_assignmentColor 63 = .ok (.getfield 36, 3) := by decide +kernel
theorem dX9_assignmentColor_66 : decode cX9_assignmentColor 66 = .ok (.iload_n 2, 1) := by decide +kernel
theorem dX9_assignmentColor_67 : decode cX9_assignmentColor 67 = .ok (.iload_n 3, 1) := by decide +kernel
theorem dX9_assignmentColor_68 : decode cX9_assignmentColor 68 = .ok (.invokevirtual 206, 3) := by decide +kernel
theorem dX9_assignmentColor_71 : decode cX9_assignmentColor 71 = .ok (.ireturn, 1) := by decide +kernel
theorem dX9_solveLine_0 : decode cX9_solveLine 0 = .ok (.aload_n 0, 1) := by decide +kernel
theorem dX9_solveLine_1 : decode cX9_solveLine 1 = .ok (.getfield 12, 3) := by decide +kernel
theorem dX9_solveLine_4 : decode cX9_solveLine 4 = .ok (.iload_n 1, 1) := by decide +kernel
theorem dX9_solveLine_5 : decode cX9_solveLine 5 = .ok (.invokevirtual 124, 3) := by decide +kernel
theorem dX9_solveLine_8 : decode cX9_solveLine 8 = .ok (.ifCond .ne 5, 3) := by decide +kernel
theorem dX9_solveLine_11 : decode cX9_solveLine 11 = .ok (.iconst (-1), 1) := by decide +kernel
theorem dX9_solveLine_12 : decode cX9_solveLine 12 = .ok (.ireturn, 1) := by decide +kernel
theorem dX9_solveLine_13 : decode cX9_solveLine 13 = .ok (.aload_n 0, 1) := by decide +kernel
theorem dX9_solveLine_14 : decode cX9_solveLine 14 = .ok (.getfield 16, 3) := by decide +kernel
theorem dX9_solveLine_17 : decode cX9_solveLine 17 = .ok (.aload_n 0, 1) := by decide +kernel
theorem dX9_solveLine_18 : decode cX9_solveLine 18 = .ok (.getfield 12, 3) := by decide +kernel
theorem dX9_solveLine_21 : decode cX9_solveLine 21 = .ok (.invokevirtual 209, 3) := by decide +kernel
theorem dX9_solveLine_24 : decode cX9_solveLine 24 = .ok (.aload_n 0, 1) := by decide +kernel
theorem dX9_solveLine_25 : decode cX9_solveLine 25 = .ok (.getfield 36, 3) := by decide +kernel
theorem dX9_solveLine_28 : decode cX9_solveLine 28 = .ok (.aload_n 0, 1) := by decide +kernel
theorem dX9_solveLine_29 : decode cX9_solveLine 29 = .ok (.getfield 16, 3) := by decide +kernel
theorem dX9_solveLine_32 : decode cX9_solveLine 32 = .ok (.iload_n 1, 1) := by decide +kernel
theorem dX9_solveLine_33 : decode cX9_solveLine 33 = .ok (.invokevirtual 212, 3) := by decide +kernel
theorem dX9_solveLine_36 : decode cX9_solveLine 36 = .ok (.ifCond .ne 10, 3) := by decide +kernel
theorem dX9_solveLine_39 : decode cX9_solveLine 39 = .ok (.aload_n 0, 1) := by decide +kernel
theorem dX9_solveLine_40 : decode cX9_solveLine 40 = .ok (.iload_n 1, 1) := by decide +kernel
theorem dX9_solveLine_41 : decode cX9_solveLine 41 = .ok (.iconst 0, 1) := by decide +kernel
theorem dX9_solveLine_42 : decode cX9_solveLine 42 = .ok (.invokevirtual 216, 3) := by decide +kernel
theorem dX9_solveLine_45 : decode cX9_solveLine 45 = .ok (.ireturn, 1) := by decide +kernel
theorem dX9_solveLine_46 : decode cX9_solveLine 46 = .ok (.aload_n 0, 1) := by decide +kernel
theorem dX9_solveLine_47 : decode cX9_solveLine 47 = .ok (.invokevirtual 219, 3) := by decide +kernel
theorem dX9_solveLine_50 : decode cX9_solveLine 50 = .ok (.aload_n 0, 1) := by decide +kernel
theorem dX9_solveLine_51 : decode cX9_solveLine 51 = .ok (.getfield 36, 3) := by decide +kernel
theorem dX9_solveLine_54 : decode cX9_solveLine 54 = .ok (.getfield 222, 3) := by decide +kernel
theorem dX9_solveLine_57 : decode cX9_solveLine 57 = .ok (.ireturn, 1) := by decide +kernel
theorem dX9_propagate_0 : decode cX9_propagate 0 = .ok (.aload_n 0, 1) := by decide +kernel
theorem dX9_propagate_1 : decode cX9_propagate 1 = .ok (.getfield 16, 3) := by decide +kernel
theorem dX9_propagate_4 : decode cX9_propagate 4 = .ok (.aload_n 0, 1) := by decide +kernel
theorem dX9_propagate_5 : decode cX9_propagate 5 = .ok (.getfield 12, 3) := by decide +kernel
theorem dX9_propagate_8 : decode cX9_propagate 8 = .ok (.invokevirtual 209, 3) := by decide +kernel
theorem dX9_propagate_11 : decode cX9_propagate 11 = .ok (.aload_n 0, 1) := by decide +kernel
theorem dX9_propagate_12 : decode cX9_propagate 12 = .ok (.getfield 43, 3) := by decide +kernel
theorem dX9_propagate_15 : decode cX9_propagate 15 = .ok (.aload_n 0, 1) := by decide +kernel
theorem dX9_propagate_16 : decode cX9_propagate 16 = .ok (.getfield 16, 3) := by decide +kernel
theorem dX9_propagate_19 : decode cX9_propagate 19 = .ok (.aload_n 0, 1) := by decide +kernel
theorem dX9_propagate_20 : decode cX9_propagate 20 = .ok (.getfield 16, 3) := by decide +kernel
theorem dX9_propagate_23 : decode cX9_propagate 23 = .ok (.invokevirtual 225, 3) := by decide +kernel
theorem dX9_propagate_26 : decode cX9_propagate 26 = .ok (.invokevirtual 228, 3) := by decide +kernel
theorem dX9_propagate_29 : decode cX9_propagate 29 = .ok (.ifCond .ne 16, 3) := by decide +kernel
theorem dX9_propagate_32 : decode cX9_propagate 32 = .ok (.aload_n 0, 1) := by decide +kernel
theorem dX9_propagate_33 : decode cX9_propagate 33 = .ok (.aload_n 0, 1) := by decide +kernel
theorem dX9_propagate_34 : decode cX9_propagate 34 = .ok (.getfield 43, 3) := by decide +kernel
theorem dX9_propagate_37 : decode cX9_propagate 37 = .ok (.getfield 231, 3) := by decide +kernel
theorem dX9_propagate_40 : decode cX9_propagate 40 = .ok (.iconst 0, 1) := by decide +kernel
theorem dX9_propagate_41 : decode cX9_propagate 41 = .ok (.invokevirtual 216, 3) := by decide +kernel
theorem dX9_propagate_44 : decode cX9_propagate 44 = .ok (.ireturn, 1) := by decide +kernel
theorem dX9_propagate_45 : decode cX9_propagate 45 = .ok (.aload_n 0, 1) := by decide +kernel
theorem dX9_propagate_46 : decode cX9_propagate 46 = .ok (.invokevirtual 219, 3) := by decide +kernel
theorem dX9_propagate_49 : decode cX9_propagate 49 = .ok (.aload_n 0, 1) := by decide +kernel
theorem dX9_propagate_50 : decode cX9_propagate 50 = .ok (.getfield 43, 3) := by decide +kernel
theorem dX9_propagate_53 : decode cX9_propagate 53 = .ok (.getfield 234, 3) := by decide +kernel
theorem dX9_propagate_56 : decode cX9_propagate 56 = .ok (.ireturn, 1) := by decide +kernel
theorem dX9_passCount_0 : decode cX9_passCount 0 = .ok (.aload_n 0, 1) := by decide +kernel
theorem dX9_passCount_1 : decode cX9_passCount 1 = .ok (.getfield 16, 3) := by decide +kernel
theorem dX9_passCount_4 : decode cX9_passCount 4 = .ok (.aload_n 0, 1) := by decide +kernel
theorem dX9_passCount_5 : decode cX9_passCount 5 = .ok (.getfield 12, 3) := by decide +kernel
theorem dX9_passCount_8 : decode cX9_passCount 8 = .ok (.invokevirtual 209, 3) := by decide +kernel
theorem dX9_passCount_11 : decode cX9_passCount 11 = .ok (.aload_n 0, 1) := by decide +kernel
theorem dX9_passCount_12 : decode cX9_passCount 12 = .ok (.getfield 43, 3) := by decide +kernel
theorem dX9_passCount_15 : decode cX9_passCount 15 = .ok (.aload_n 0, 1) := by decide +kernel
theorem dX9_passCount_16 : decode cX9_passCount 16 = .ok (.getfield 16, 3) := by decide +kernel
theorem dX9_passCount_19 : decode cX9_passCount 19 = .ok (.aload_n 0, 1) := by decide +kernel
theorem dX9_passCount_20 : decode cX9_passCount 20 = .ok (.getfield 16, 3) := by decide +kernel
theorem dX9_passCount_23 : decode cX9_passCount 23 = .ok (.invokevirtual 225, 3) := by decide +kernel
theorem dX9_passCount_26 : decode cX9_passCount 26 = .ok (.invokevirtual 228, 3) := by decide +kernel
theorem dX9_passCount_29 : decode cX9_passCount 29 = .ok (.ifCond .eq 13, 3) := by decide +kernel
theorem dX9_passCount_32 : decode cX9_passCount 32 = .ok (.aload_n 0, 1) := by decide +kernel
theorem dX9_passCount_33 : decode cX9_passCount 33 = .ok (.getfield 43, 3) := by decide +kernel
theorem dX9_passCount_36 : decode cX9_passCount 36 = .ok (.getfield 235, 3) := by decide +kernel
theorem dX9_passCount_39 : decode cX9_passCount 39 = .ok (.goto 5, 3) := by decide +kernel
theorem dX9_passCount_42 : decode cX9_passCount 42 = .ok (.bipush (-4), 2) := by decide +kernel
theorem dX9_passCount_44 : decode cX9_passCount 44 = .ok (.ireturn, 1) := by decide +kernel
theorem dX9_probe_0 : decode cX9_probe 0 = .ok (.aload_n 0, 1) := by decide +kernel
theorem dX9_probe_1 : decode cX9_probe 1 = .ok (.iload_n 1, 1) := by decide +kernel
theorem dX9_probe_2 : decode cX9_probe 2 = .ok (.iload_n 2, 1) := by decide +kernel
theorem dX9_probe_3 : decode cX9_probe 3 = .ok (.iload_n 3, 1) := by decide +kernel
theorem dX9_probe_4 : decode cX9_probe 4 = .ok (.invokevirtual 187, 3) := by decide +kernel
theorem dX9_probe_7 : decode cX9_probe 7 = .ok (.istore 4, 2) := by decide +kernel
theorem dX9_probe_9 : decode cX9_probe 9 = .ok (.iload 4, 2) := by decide +kernel
theorem dX9_probe_11 : decode cX9_probe 11 = .ok (.ifCond .eq 6, 3) := by decide +kernel
theorem dX9_probe_14 : decode cX9_probe 14 = .ok (.iload 4, 2) := by decide +kernel
theorem dX9_probe_16 : decode cX9_probe 16 = .ok (.ireturn, 1) := by decide +kernel
theorem dX9_probe_17 : decode cX9_probe 17 = .ok (.aload_n 0, 1) := by decide +kernel
theorem dX9_probe_18 : decode cX9_probe 18 = .ok (.getfield 16, 3) := by decide +kernel
theorem dX9_probe_21 : decode cX9_probe 21 = .ok (.aload_n 0, 1) := by decide +kernel
theorem dX9_probe_22 : decode cX9_probe 22 = .ok (.getfield 12, 3) := by decide +kernel
theorem dX9_probe_25 : decode cX9_probe 25 = .ok (.invokevirtual 209, 3) := by decide +kernel
theorem dX9_probe_28 : decode cX9_probe 28 = .ok (.aload_n 0, 1) := by decide +kernel
theorem dX9_probe_29 : decode cX9_probe 29 = .ok (.getfield 16, 3) := by decide +kernel
theorem dX9_probe_32 : decode cX9_probe 32 = .ok (.getfield 165, 3) := by decide +kernel
theorem dX9_probe_35 : decode cX9_probe 35 = .ok (.aload_n 0, 1) := by decide +kernel
theorem dX9_probe_36 : decode cX9_probe 36 = .ok (.getfield 16, 3) := by decide +kernel
theorem dX9_probe_39 : decode cX9_probe 39 = .ok (.iload_n 1, 1) := by decide +kernel
theorem dX9_probe_40 : decode cX9_probe 40 = .ok (.iload_n 2, 1) := by decide +kernel
theorem dX9_probe_41 : decode cX9_probe 41 = .ok (.invokevirtual 169, 3) := by decide +kernel
theorem dX9_probe_44 : decode cX9_probe 44 = .ok (.iconst 1, 1) := by decide +kernel
theorem dX9_probe_45 : decode cX9_probe 45 = .ok (.iload_n 3, 1) := by decide +kernel
theorem dX9_probe_46 : decode cX9_probe 46 = .ok (.ishl, 1) := by decide +kernel
theorem dX9_probe_47 : decode cX9_probe 47 = .ok (.iastore, 1) := by decide +kernel
theorem dX9_probe_48 : decode cX9_probe 48 = .ok (.aload_n 0, 1) := by decide +kernel
theorem dX9_probe_49 : decode cX9_probe 49 = .ok (.getfield 43, 3) := by decide +kernel
theorem dX9_probe_52 : decode cX9_probe 52 = .ok (.aload_n 0, 1) := by decide +kernel
theorem dX9_probe_53 : decode cX9_probe 53 = .ok (.getfield 16, 3) := by decide +kernel
theorem dX9_probe_56 : decode cX9_probe 56 = .ok (.aload_n 0, 1) := by decide +kernel
theorem dX9_probe_57 : decode cX9_probe 57 = .ok (.getfield 16, 3) := by decide +kernel
theorem dX9_probe_60 : decode cX9_probe 60 = .ok (.invokevirtual 225, 3) := by decide +kernel
theorem dX9_probe_63 : decode cX9_probe 63 = .ok (.invokevirtual 228, 3) := by decide +kernel
theorem dX9_probe_66 : decode cX9_probe 66 = .ok (.ifCond .eq 7, 3) := by decide +kernel
theorem dX9_probe_69 : decode cX9_probe 69 = .ok (.iconst 0, 1) := by decide +kernel
theorem dX9_probe_70 : decode cX9_probe 70 = .ok (.goto 4, 3) := by decide +kernel
theorem dX9_probe_73 : decode cX9_probe 73 = .ok (.iconst 1, 1) := by decide +kernel
theorem dX9_probe_74 : decode cX9_probe 74 = .ok (.ireturn, 1) := by decide +kernel
theorem dX9_probeAll_0 : decode cX9_probeAll 0 = .ok (.aload_n 0, 1) := by decide +kernel
theorem dX9_probeAll_1 : decode cX9_probeAll 1 = .ok (.getfield 16, 3) := by decide +kernel
theorem dX9_probeAll_4 : decode cX9_probeAll 4 = .ok (.aload_n 0, 1) := by decide +kernel
theorem dX9_probeAll_5 : decode cX9_probeAll 5 = .ok (.getfield 12, 3) := by decide +kernel
theorem dX9_probeAll_8 : decode cX9_probeAll 8 = .ok (.invokevirtual 209, 3) := by decide +kernel
theorem dX9_probeAll_11 : decode cX9_probeAll 11 = .ok (.aload_n 0, 1) := by decide +kernel
theorem dX9_probeAll_12 : decode cX9_probeAll 12 = .ok (.getfield 50, 3) := by decide +kernel
theorem dX9_probeAll_15 : decode cX9_probeAll 15 = .ok (.aload_n 0, 1) := by decide +kernel
theorem dX9_probeAll_16 : decode cX9_probeAll 16 = .ok (.getfield 16, 3) := by decide +kernel
theorem dX9_probeAll_19 : decode cX9_probeAll 19 = .ok (.invokevirtual 238, 3) := by decide +kernel
theorem dX9_probeAll_22 : decode cX9_probeAll 22 = .ok (.istore_n 1, 1) := by decide +kernel
theorem dX9_probeAll_23 : decode cX9_probeAll 23 = .ok (.iconst 0, 1) := by decide +kernel
theorem dX9_probeAll_24 : decode cX9_probeAll 24 = .ok (.istore_n 2, 1) := by decide +kernel
theorem dX9_probeAll_25 : decode cX9_probeAll 25 = .ok (.iconst 0, 1) := by decide +kernel
theorem dX9_probeAll_26 : decode cX9_probeAll 26 = .ok (.istore_n 3, 1) := by decide +kernel
theorem dX9_probeAll_27 : decode cX9_probeAll 27 = .ok (.iload_n 1, 1) := by decide +kernel
theorem dX9_probeAll_28 : decode cX9_probeAll 28 = .ok (.ifCond .eq 59, 3) := by decide +kernel
theorem dX9_probeAll_31 : decode cX9_probeAll 31 = .ok (.iload_n 2, 1) := by decide +kernel
theorem dX9_probeAll_32 : decode cX9_probeAll 32 = .ok (.ifCond .ne 55, 3) := by decide +kernel
theorem dX9_probeAll_35 : decode cX9_probeAll 35 = .ok (.iload_n 3, 1) := by decide +kernel
theorem dX9_probeAll_36 : decode cX9_probeAll 36 = .ok (.sipush 192, 3) := by decide +kernel
theorem dX9_probeAll_39 : decode cX9_probeAll 39 = .ok (.if_icmp .gt 48, 3) := by decide +kernel
theorem dX9_probeAll_42 : decode cX9_probeAll 42 = .ok (.aload_n 0, 1) := by decide +kernel
theorem dX9_probeAll_43 : decode cX9_probeAll 43 = .ok (.getfield 50, 3) := by decide +kernel
theorem dX9_probeAll_46 : decode cX9_probeAll 46 = .ok (.getfield 242, 3) := by decide +kernel
theorem dX9_probeAll_49 : decode cX9_probeAll 49 = .ok (.istore 4, 2) := by decide +kernel
theorem dX9_probeAll_51 : decode cX9_probeAll 51 = .ok (.aload_n 0, 1) := by decide +kernel
theorem dX9_probeAll_52 : decode cX9_probeAll 52 = .ok (.getfield 50, 3) := by decide +kernel
theorem dX9_probeAll_55 : decode cX9_probeAll 55 = .ok (.aload_n 0, 1) := by decide +kernel
theorem dX9_probeAll_56 : decode cX9_probeAll 56 = .ok (.getfield 16, 3) := by decide +kernel
theorem dX9_probeAll_59 : decode cX9_probeAll 59 = .ok (.invokevirtual 245, 3) := by decide +kernel
theorem dX9_probeAll_62 : decode cX9_probeAll 62 = .ok (.istore_n 1, 1) := by decide +kernel
theorem dX9_probeAll_63 : decode cX9_probeAll 63 = .ok (.aload_n 0, 1) := by decide +kernel
theorem dX9_probeAll_64 : decode cX9_probeAll 64 = .ok (.getfield 50, 3) := by decide +kernel
theorem dX9_probeAll_67 : decode cX9_probeAll 67 = .ok (.getfield 242, 3) := by decide +kernel
theorem dX9_probeAll_70 : decode cX9_probeAll 70 = .ok (.iload 4, 2) := by decide +kernel
theorem dX9_probeAll_72 : decode cX9_probeAll 72 = .ok (.if_icmp .ne 7, 3) := by decide +kernel
theorem dX9_probeAll_75 : decode cX9_probeAll 75 = .ok (.iconst 1, 1) := by decide +kernel
theorem dX9_probeAll_76 : decode cX9_probeAll 76 = .ok (.goto 4, 3) := by decide +kernel
theorem dX9_probeAll_79 : decode cX9_probeAll 79 = .ok (.iconst 0, 1) := by decide +kernel
theorem dX9_probeAll_80 : decode cX9_probeAll 80 = .ok (.istore_n 2, 1) := by decide +kernel
theorem dX9_probeAll_81 : decode cX9_probeAll 81 = .ok (.iinc 3 1, 3) := by decide +kernel
theorem dX9_probeAll_84 : decode cX9_probeAll 84 = .ok (.goto (-57), 3) := by decide +kernel
theorem dX9_probeAll_87 : decode cX9_probeAll 87 = .ok (.iload_n 1, 1) := by decide +kernel
theorem dX9_probeAll_88 : decode cX9_probeAll 88 = .ok (.ifCond .ne 22, 3) := by decide +kernel
theorem dX9_probeAll_91 : decode cX9_probeAll 91 = .ok (.aload_n 0, 1) := by decide +kernel
theorem dX9_probeAll_92 : decode cX9_probeAll 92 = .ok (.aload_n 0, 1) := by decide +kernel
theorem dX9_probeAll_93 : decode cX9_probeAll 93 = .ok (.getfield 50, 3) := by decide +kernel
theorem dX9_probeAll_96 : decode cX9_probeAll 96 = .ok (.getfield 248, 3) := by decide +kernel
theorem dX9_probeAll_99 : decode cX9_probeAll 99 = .ok (.aload_n 0, 1) := by decide +kernel
theorem dX9_probeAll_100 : decode cX9_probeAll 100 = .ok (.getfield 50, 3) := by decide +kernel
theorem dX9_probeAll_103 : decode cX9_probeAll 103 = .ok (.getfield 242, 3) := by decide +kernel
theorem dX9_probeAll_106 : decode cX9_probeAll 106 = .ok (.invokevirtual 216, 3) := by decide +kernel
theorem dX9_probeAll_109 : decode cX9_probeAll 109 = .ok (.ireturn, 1) := by decide +kernel
theorem dX9_probeAll_110 : decode cX9_probeAll 110 = .ok (.aload_n 0, 1) := by decide +kernel
theorem dX9_probeAll_111 : decode cX9_probeAll 111 = .ok (.invokevirtual 219, 3) := by decide +kernel
theorem dX9_probeAll_114 : decode cX9_probeAll 114 = .ok (.aload_n 0, 1) := by decide +kernel
theorem dX9_probeAll_115 : decode cX9_probeAll 115 = .ok (.getfield 50, 3) := by decide +kernel
theorem dX9_probeAll_118 : decode cX9_probeAll 118 = .ok (.getfield 242, 3) := by decide +kernel
theorem dX9_probeAll_121 : decode cX9_probeAll 121 = .ok (.ireturn, 1) := by decide +kernel
theorem dX9_contradictionLine_0 : decode cX9_contradictionLine 0 = .ok (.aload_n 0, 1) := by decide +kernel
theorem dX9_contradictionLine_1 : decode cX9_contradictionLine 1 = .ok (.getfield 65, 3) := by decide +kernel
theorem dX9_contradictionLine_4 : decode cX9_contradictionLine 4 = .ok (.ireturn, 1) := by decide +kernel
theorem dX9_contradictionDepth_0 : decode cX9_contradictionDepth 0 = .ok (.aload_n 0, 1) := by decide +kernel
theorem dX9_contradictionDepth_1 : decode cX9_contradictionDepth 1 = .ok (.getfield 68, 3) := by decide +kernel
theorem dX9_contradictionDepth_4 : decode cX9_contradictionDepth 4 = .ok (.ireturn, 1) := by decide +kernel
theorem dX9_setRule_0 : decode cX9_setRule 0 = .ok (.iload_n 1, 1) := by decide +kernel
theorem dX9_setRule_1 : decode cX9_setRule 1 = .ok (.iconst 0, 1) := by decide +kernel
theorem dX9_setRule_2 : decode cX9_setRule 2 = .ok (.iconst 2, 1) := by decide +kernel
theorem dX9_setRule_3 : decode cX9_setRule 3 = .ok (.invokestatic 101, 3) := by decide +kernel
theorem dX9_setRule_6 : decode cX9_setRule 6 = .ok (.ifCond .ne 6, 3) := by decide +kernel
theorem dX9_setRule_9 : decode cX9_setRule 9 = .ok (.bipush (-2), 2) := by decide +kernel
theorem dX9_setRule_11 : decode cX9_setRule 11 = .ok (.ireturn, 1) := by decide +kernel
theorem dX9_setRule_12 : decode cX9_setRule 12 = .ok (.aload_n 0, 1) := by decide +kernel
theorem dX9_setRule_13 : decode cX9_setRule 13 = .ok (.getfield 61, 3) := by decide +kernel
theorem dX9_setRule_16 : decode cX9_setRule 16 = .ok (.istore_n 2, 1) := by decide +kernel
theorem dX9_setRule_17 : decode cX9_setRule 17 = .ok (.aload_n 0, 1) := by decide +kernel
theorem dX9_setRule_18 : decode cX9_setRule 18 = .ok (.iload_n 1, 1) := by decide +kernel
theorem dX9_setRule_19 : decode cX9_setRule 19 = .ok (.putfield 61, 3) := by decide +kernel
theorem dX9_setRule_22 : decode cX9_setRule 22 = .ok (.iload_n 2, 1) := by decide +kernel
theorem dX9_setRule_23 : decode cX9_setRule 23 = .ok (.ireturn, 1) := by decide +kernel
theorem dX9_countSolutions_0 : decode cX9_countSolutions 0 = .ok (.iload_n 1, 1) := by decide +kernel
theorem dX9_countSolutions_1 : decode cX9_countSolutions 1 = .ok (.iconst 1, 1) := by decide +kernel
theorem dX9_countSolutions_2 : decode cX9_countSolutions 2 = .ok (.bipush 20, 2) := by decide +kernel
theorem dX9_countSolutions_4 : decode cX9_countSolutions 4 = .ok (.invokestatic 101, 3) := by decide +kernel
theorem dX9_countSolutions_7 : decode cX9_countSolutions 7 = .ok (.ifCond .ne 6, 3) := by decide +kernel
theorem dX9_countSolutions_10 : decode cX9_countSolutions 10 = .ok (.bipush (-2), 2) := by decide +kernel
theorem dX9_countSolutions_12 : decode cX9_countSolutions 12 = .ok (.ireturn, 1) := by decide +kernel
theorem dX9_countSolutions_13 : decode cX9_countSolutions 13 = .ok (.aload_n 0, 1) := by decide +kernel
theorem dX9_countSolutions_14 : decode cX9_countSolutions 14 = .ok (.getfield 57, 3) := by decide +kernel
theorem dX9_countSolutions_17 : decode cX9_countSolutions 17 = .ok (.aload_n 0, 1) := by decide +kernel
theorem dX9_countSolutions_18 : decode cX9_countSolutions 18 = .ok (.getfield 12, 3) := by decide +kernel
theorem dX9_countSolutions_21 : decode cX9_countSolutions 21 = .ok (.aload_n 0, 1) := by decide +kernel
theorem dX9_countSolutions_22 : decode cX9_countSolutions 22 = .ok (.getfield 61, 3) := by decide +kernel
theorem dX9_countSolutions_25 : decode cX9_countSolutions 25 = .ok (.iload_n 1, 1) := by decide +kernel
theorem dX9_countSolutions_26 : decode cX9_countSolutions 26 = .ok (.invokevirtual 249, 3) := by decide +kernel
theorem dX9_countSolutions_29 : decode cX9_countSolutions 29 = .ok (.aload_n 0, 1) := by decide +kernel
theorem dX9_countSolutions_30 : decode cX9_countSolutions 30 = .ok (.getfield 57, 3) := by decide +kernel
theorem dX9_countSolutions_33 : decode cX9_countSolutions 33 = .ok (.getfield 253, 3) := by decide +kernel
theorem dX9_countSolutions_36 : decode cX9_countSolutions 36 = .ok (.ifCond .eq 8, 3) := by decide +kernel
theorem dX9_countSolutions_39 : decode cX9_countSolutions 39 = .ok (.bipush (-7), 2) := by decide +kernel
theorem dX9_countSolutions_41 : decode cX9_countSolutions 41 = .ok (.goto 10, 3) := by decide +kernel
theorem dX9_countSolutions_44 : decode cX9_countSolutions 44 = .ok (.aload_n 0, 1) := by decide +kernel
theorem dX9_countSolutions_45 : decode cX9_countSolutions 45 = .ok (.getfield 57, 3) := by decide +kernel
theorem dX9_countSolutions_48 : decode cX9_countSolutions 48 = .ok (.getfield 256, 3) := by decide +kernel
theorem dX9_countSolutions_51 : decode cX9_countSolutions 51 = .ok (.ireturn, 1) := by decide +kernel
theorem dX9_solutionColor_0 : decode cX9_solutionColor 0 = .ok (.iload_n 1, 1) := by decide +kernel
theorem dX9_solutionColor_1 : decode cX9_solutionColor 1 = .ok (.iconst 0, 1) := by decide +kernel
theorem dX9_solutionColor_2 : decode cX9_solutionColor 2 = .ok (.bipush 19, 2) := by decide +kernel
theorem dX9_solutionColor_4 : decode cX9_solutionColor 4 = .ok (.invokestatic 101, 3) := by decide +kernel
theorem dX9_solutionColor_7 : decode cX9_solutionColor 7 = .ok (.ifCond .ne 6, 3) := by decide +kernel
theorem dX9_solutionColor_10 : decode cX9_solutionColor 10 = .ok (.bipush (-2), 2) := by decide +kernel
theorem dX9_solutionColor_12 : decode cX9_solutionColor 12 = .ok (.ireturn, 1) := by decide +kernel
theorem dX9_solutionColor_13 : decode cX9_solutionColor 13 = .ok (.aload_n 0, 1) := by decide +kernel
theorem dX9_solutionColor_14 : decode cX9_solutionColor 14 = .ok (.getfield 12, 3) := by decide +kernel
theorem dX9_solutionColor_17 : decode cX9_solutionColor 17 = .ok (.iload_n 2, 1) := by decide +kernel
theorem dX9_solutionColor_18 : decode cX9_solutionColor 18 = .ok (.iload_n 3, 1) := by decide +kernel
theorem dX9_solutionColor_19 : decode cX9_solutionColor 19 = .ok (.invokevirtual 162, 3) := by decide +kernel
theorem dX9_solutionColor_22 : decode cX9_solutionColor 22 = .ok (.ifCond .ne 5, 3) := by decide +kernel
theorem dX9_solutionColor_25 : decode cX9_solutionColor 25 = .ok (.iconst (-1), 1) := by decide +kernel
theorem dX9_solutionColor_26 : decode cX9_solutionColor 26 = .ok (.ireturn, 1) := by decide +kernel
theorem dX9_solutionColor_27 : decode cX9_solutionColor 27 = .ok (.aload_n 0, 1) := by decide +kernel
theorem dX9_solutionColor_28 : decode cX9_solutionColor 28 = .ok (.getfield 57, 3) := by decide +kernel
theorem dX9_solutionColor_31 : decode cX9_solutionColor 31 = .ok (.aload_n 0, 1) := by decide +kernel
theorem dX9_solutionColor_32 : decode cX9_solutionColor 32 = .ok (.getfield 12, 3) := by decide +kernel
theorem dX9_solutionColor_35 : decode cX9_solutionColor 35 = .ok (.aload_n 0, 1) := by decide +kernel
theorem dX9_solutionColor_36 : decode cX9_solutionColor 36 = .ok (.getfield 61, 3) := by decide +kernel
theorem dX9_solutionColor_39 : decode cX9_solutionColor 39 = .ok (.iload_n 1, 1) := by decide +kernel
theorem dX9_solutionColor_40 : decode cX9_solutionColor 40 = .ok (.iconst 1, 1) := by decide +kernel
theorem dX9_solutionColor_41 : decode cX9_solutionColor 41 = .ok (.iadd, 1) := by decide +kernel
theorem dX9_solutionColor_42 : decode cX9_solutionColor 42 = .ok (.invokevirtual 249, 3) := by decide +kernel
theorem dX9_solutionColor_45 : decode cX9_solutionColor 45 = .ok (.aload_n 0, 1) := by decide +kernel
theorem dX9_solutionColor_46 : decode cX9_solutionColor 46 = .ok (.getfield 57, 3) := by decide +kernel
theorem dX9_solutionColor_49 : decode cX9_solutionColor 49 = .ok (.getfield 253, 3) := by decide +kernel
theorem dX9_solutionColor_52 : decode cX9_solutionColor 52 = .ok (.ifCond .eq 6, 3) := by decide +kernel
theorem dX9_solutionColor_55 : decode cX9_solutionColor 55 = .ok (.bipush (-7), 2) := by decide +kernel
theorem dX9_solutionColor_57 : decode cX9_solutionColor 57 = .ok (.ireturn, 1) := by decide +kernel
theorem dX9_solutionColor_58 : decode cX9_solutionColor 58 = .ok (.aload_n 0, 1) := by decide +kernel
theorem dX9_solutionColor_59 : decode cX9_solutionColor 59 = .ok (.getfield 57, 3) := by decide +kernel
theorem dX9_solutionColor_62 : decode cX9_solutionColor 62 = .ok (.getfield 256, 3) := by decide +kernel
theorem dX9_solutionColor_65 : decode cX9_solutionColor 65 = .ok (.iload_n 1, 1) := by decide +kernel
theorem dX9_solutionColor_66 : decode cX9_solutionColor 66 = .ok (.if_icmp .le 22, 3) := by decide +kernel
theorem dX9_solutionColor_69 : decode cX9_solutionColor 69 = .ok (.aload_n 0, 1) := by decide +kernel
theorem dX9_solutionColor_70 : decode cX9_solutionColor 70 = .ok (.getfield 57, 3) := by decide +kernel
theorem dX9_solutionColor_73 : decode cX9_solutionColor 73 = .ok (.aload_n 0, 1) := by decide +kernel
theorem dX9_solutionColor_74 : decode cX9_solutionColor 74 = .ok (.getfield 12, 3) := by decide +kernel
theorem dX9_solutionColor_77 : decode cX9_solutionColor 77 = .ok (.iload_n 2, 1) := by decide +kernel
theorem dX9_solutionColor_78 : decode cX9_solutionColor 78 = .ok (.iload_n 3, 1) := by decide +kernel
theorem dX9_solutionColor_79 : decode cX9_solutionColor 79 = .ok (.invokevirtual 169, 3) := by decide +kernel
theorem dX9_solutionColor_82 : decode cX9_solutionColor 82 = .ok (.invokevirtual 259, 3) := by decide +kernel
theorem dX9_solutionColor_85 : decode cX9_solutionColor 85 = .ok (.goto 5, 3) := by decide +kernel
theorem dX9_solutionColor_88 : decode cX9_solutionColor 88 = .ok (.bipush (-8), 2) := by decide +kernel
theorem dX9_solutionColor_90 : decode cX9_solutionColor 90 = .ok (.ireturn, 1) := by decide +kernel
theorem dX9_searchNodes_0 : decode cX9_searchNodes 0 = .ok (.iload_n 1, 1) := by decide +kernel
theorem dX9_searchNodes_1 : decode cX9_searchNodes 1 = .ok (.iconst 1, 1) := by decide +kernel
theorem dX9_searchNodes_2 : decode cX9_searchNodes 2 = .ok (.bipush 20, 2) := by decide +kernel
theorem dX9_searchNodes_4 : decode cX9_searchNodes 4 = .ok (.invokestatic 101, 3) := by decide +kernel
theorem dX9_searchNodes_7 : decode cX9_searchNodes 7 = .ok (.ifCond .ne 6, 3) := by decide +kernel
theorem dX9_searchNodes_10 : decode cX9_searchNodes 10 = .ok (.bipush (-2), 2) := by decide +kernel
theorem dX9_searchNodes_12 : decode cX9_searchNodes 12 = .ok (.ireturn, 1) := by decide +kernel
theorem dX9_searchNodes_13 : decode cX9_searchNodes 13 = .ok (.aload_n 0, 1) := by decide +kernel
theorem dX9_searchNodes_14 : decode cX9_searchNodes 14 = .ok (.getfield 57, 3) := by decide +kernel
theorem dX9_searchNodes_17 : decode cX9_searchNodes 17 = .ok (.aload_n 0, 1) := by decide +kernel
theorem dX9_searchNodes_18 : decode cX9_searchNodes 18 = .ok (.getfield 12, 3) := by decide +kernel
theorem dX9_searchNodes_21 : decode cX9_searchNodes 21 = .ok (.aload_n 0, 1) := by decide +kernel
theorem dX9_searchNodes_22 : decode cX9_searchNodes 22 = .ok (.getfield 61, 3) := by decide +kernel
theorem dX9_searchNodes_25 : decode cX9_searchNodes 25 = .ok (.iload_n 1, 1) := by decide +kernel
theorem dX9_searchNodes_26 : decode cX9_searchNodes 26 = .ok (.invokevirtual 249, 3) := by decide +kernel
theorem dX9_searchNodes_29 : decode cX9_searchNodes 29 = .ok (.aload_n 0, 1) := by decide +kernel
theorem dX9_searchNodes_30 : decode cX9_searchNodes 30 = .ok (.getfield 57, 3) := by decide +kernel
theorem dX9_searchNodes_33 : decode cX9_searchNodes 33 = .ok (.getfield 253, 3) := by decide +kernel
theorem dX9_searchNodes_36 : decode cX9_searchNodes 36 = .ok (.ifCond .eq 8, 3) := by decide +kernel
theorem dX9_searchNodes_39 : decode cX9_searchNodes 39 = .ok (.bipush (-7), 2) := by decide +kernel
theorem dX9_searchNodes_41 : decode cX9_searchNodes 41 = .ok (.goto 10, 3) := by decide +kernel
theorem dX9_searchNodes_44 : decode cX9_searchNodes 44 = .ok (.aload_n 0, 1) := by decide +kernel
theorem dX9_searchNodes_45 : decode cX9_searchNodes 45 = .ok (.getfield 57, 3) := by decide +kernel
theorem dX9_searchNodes_48 : decode cX9_searchNodes 48 = .ok (.getfield 262, 3) := by decide +kernel
theorem dX9_searchNodes_51 : decode cX9_searchNodes 51 = .ok (.ireturn, 1) := by decide +kernel
theorem dX9_isUnique_0 : decode cX9_isUnique 0 = .ok (.aload_n 0, 1) := by decide +kernel
theorem dX9_isUnique_1 : decode cX9_isUnique 1 = .ok (.getfield 57, 3) := by decide +kernel
theorem dX9_isUnique_4 : decode cX9_isUnique 4 = .ok (.aload_n 0, 1) := by decide +kernel
theorem dX9_isUnique_5 : decode cX9_isUnique 5 = .ok (.getfield 12, 3) := by decide +kernel
theorem dX9_isUnique_8 : decode cX9_isUnique 8 = .ok (.aload_n 0, 1) := by decide +kernel
theorem dX9_isUnique_9 : decode cX9_isUnique 9 = .ok (.getfield 61, 3) := by decide +kernel
theorem dX9_isUnique_12 : decode cX9_isUnique 12 = .ok (.iconst 2, 1) := by decide +kernel
theorem dX9_isUnique_13 : decode cX9_isUnique 13 = .ok (.invokevirtual 249, 3) := by decide +kernel
theorem dX9_isUnique_16 : decode cX9_isUnique 16 = .ok (.aload_n 0, 1) := by decide +kernel
theorem dX9_isUnique_17 : decode cX9_isUnique 17 = .ok (.getfield 57, 3) := by decide +kernel
theorem dX9_isUnique_20 : decode cX9_isUnique 20 = .ok (.getfield 253, 3) := by decide +kernel
theorem dX9_isUnique_23 : decode cX9_isUnique 23 = .ok (.ifCond .eq 6, 3) := by decide +kernel
theorem dX9_isUnique_26 : decode cX9_isUnique 26 = .ok (.bipush (-7), 2) := by decide +kernel
theorem dX9_isUnique_28 : decode cX9_isUnique 28 = .ok (.ireturn, 1) := by decide +kernel
theorem dX9_isUnique_29 : decode cX9_isUnique 29 = .ok (.aload_n 0, 1) := by decide +kernel
theorem dX9_isUnique_30 : decode cX9_isUnique 30 = .ok (.getfield 57, 3) := by decide +kernel
theorem dX9_isUnique_33 : decode cX9_isUnique 33 = .ok (.getfield 256, 3) := by decide +kernel
theorem dX9_isUnique_36 : decode cX9_isUnique 36 = .ok (.iconst 1, 1) := by decide +kernel
theorem dX9_isUnique_37 : decode cX9_isUnique 37 = .ok (.if_icmp .ne 7, 3) := by decide +kernel
theorem dX9_isUnique_40 : decode cX9_isUnique 40 = .ok (.iconst 1, 1) := by decide +kernel
theorem dX9_isUnique_41 : decode cX9_isUnique 41 = .ok (.goto 4, 3) := by decide +kernel
theorem dX9_isUnique_44 : decode cX9_isUnique 44 = .ok (.iconst 0, 1) := by decide +kernel
theorem dX9_isUnique_45 : decode cX9_isUnique 45 = .ok (.ireturn, 1) := by decide +kernel
theorem dX9_firstMismatch_0 : decode cX9_firstMismatch 0 = .ok (.aload_n 0, 1) := by decide +kernel
theorem dX9_firstMismatch_1 : decode cX9_firstMismatch 1 = .ok (.getfield 12, 3) := by decide +kernel
theorem dX9_firstMismatch_4 : decode cX9_firstMismatch 4 = .ok (.invokevirtual 265, 3) := by decide +kernel
theorem dX9_firstMismatch_7 : decode cX9_firstMismatch 7 = .ok (.ifCond .ne 6, 3) := by decide +kernel
theorem dX9_firstMismatch_10 : decode cX9_firstMismatch 10 = .ok (.bipush (-6), 2) := by decide +kernel
theorem dX9_firstMismatch_12 : decode cX9_firstMismatch 12 = .ok (.ireturn, 1) := by decide +kernel
theorem dX9_firstMismatch_13 : decode cX9_firstMismatch 13 = .ok (.iconst 0, 1) := by decide +kernel
theorem dX9_firstMismatch_14 : decode cX9_firstMismatch 14 = .ok (.istore_n 1, 1) := by decide +kernel
theorem dX9_firstMismatch_15 : decode cX9_firstMismatch 15 = .ok (.iload_n 1, 1) := by decide +kernel
theorem dX9_firstMismatch_16 : decode cX9_firstMismatch 16 = .ok (.aload_n 0, 1) := by decide +kernel
theorem dX9_firstMismatch_17 : decode cX9_firstMismatch 17 = .ok (.getfield 12, 3) := by decide +kernel
theorem dX9_firstMismatch_20 : decode cX9_firstMismatch 20 = .ok (.invokevirtual 111, 3) := by decide +kernel
theorem dX9_firstMismatch_23 : decode cX9_firstMismatch 23 = .ok (.if_icmp .ge 33, 3) := by decide +kernel
theorem dX9_firstMismatch_26 : decode cX9_firstMismatch 26 = .ok (.aload_n 0, 1) := by decide +kernel
theorem dX9_firstMismatch_27 : decode cX9_firstMismatch 27 = .ok (.getfield 36, 3) := by decide +kernel
theorem dX9_firstMismatch_30 : decode cX9_firstMismatch 30 = .ok (.aload_n 0, 1) := by decide +kernel
theorem dX9_firstMismatch_31 : decode cX9_firstMismatch 31 = .ok (.getfield 12, 3) := by decide +kernel
theorem dX9_firstMismatch_34 : decode cX9_firstMismatch 34 = .ok (.iload_n 1, 1) := by decide +kernel
theorem dX9_firstMismatch_35 : decode cX9_firstMismatch 35 = .ok (.invokevirtual 199, 3) := by decide +kernel
theorem dX9_firstMismatch_38 : decode cX9_firstMismatch 38 = .ok (.aload_n 0, 1) := by decide +kernel
theorem dX9_firstMismatch_39 : decode cX9_firstMismatch 39 = .ok (.getfield 36, 3) := by decide +kernel
theorem dX9_firstMismatch_42 : decode cX9_firstMismatch 42 = .ok (.invokevirtual 203, 3) := by decide +kernel
theorem dX9_firstMismatch_45 : decode cX9_firstMismatch 45 = .ok (.ifCond .ne 5, 3) := by decide +kernel
theorem dX9_firstMismatch_48 : decode cX9_firstMismatch 48 = .ok (.iload_n 1, 1) := by decide +kernel
theorem dX9_firstMismatch_49 : decode cX9_firstMismatch 49 = .ok (.ireturn, 1) := by decide +kernel
theorem dX9_firstMismatch_50 : decode cX9_firstMismatch 50 = .ok (.iinc 1 1, 3) := by decide +kernel
theorem dX9_firstMismatch_53 : decode cX9_firstMismatch 53 = .ok (.goto (-38), 3) := by decide +kernel
theorem dX9_firstMismatch_56 : decode cX9_firstMismatch 56 = .ok (.bipush (-8), 2) := by decide +kernel
theorem dX9_firstMismatch_58 : decode cX9_firstMismatch 58 = .ok (.ireturn, 1) := by decide +kernel
theorem dX9_takeClues_0 : decode cX9_takeClues 0 = .ok (.aload_n 0, 1) := by decide +kernel
theorem dX9_takeClues_1 : decode cX9_takeClues 1 = .ok (.getfield 12, 3) := by decide +kernel
theorem dX9_takeClues_4 : decode cX9_takeClues 4 = .ok (.invokevirtual 265, 3) := by decide +kernel
theorem dX9_takeClues_7 : decode cX9_takeClues 7 = .ok (.ifCond .ne 6, 3) := by decide +kernel
theorem dX9_takeClues_10 : decode cX9_takeClues 10 = .ok (.bipush (-6), 2) := by decide +kernel
theorem dX9_takeClues_12 : decode cX9_takeClues 12 = .ok (.ireturn, 1) := by decide +kernel
theorem dX9_takeClues_13 : decode cX9_takeClues 13 = .ok (.aload_n 0, 1) := by decide +kernel
theorem dX9_takeClues_14 : decode cX9_takeClues 14 = .ok (.getfield 29, 3) := by decide +kernel
theorem dX9_takeClues_17 : decode cX9_takeClues 17 = .ok (.aload_n 0, 1) := by decide +kernel
theorem dX9_takeClues_18 : decode cX9_takeClues 18 = .ok (.getfield 12, 3) := by decide +kernel
theorem dX9_takeClues_21 : decode cX9_takeClues 21 = .ok (.invokevirtual 134, 3) := by decide +kernel
theorem dX9_takeClues_24 : decode cX9_takeClues 24 = .ok (.aload_n 0, 1) := by decide +kernel
theorem dX9_takeClues_25 : decode cX9_takeClues 25 = .ok (.getfield 12, 3) := by decide +kernel
theorem dX9_takeClues_28 : decode cX9_takeClues 28 = .ok (.invokevirtual 269, 3) := by decide +kernel
theorem dX9_takeClues_31 : decode cX9_takeClues 31 = .ok (.aload_n 0, 1) := by decide +kernel
theorem dX9_takeClues_32 : decode cX9_takeClues 32 = .ok (.getfield 12, 3) := by decide +kernel
theorem dX9_takeClues_35 : decode cX9_takeClues 35 = .ok (.getfield 128, 3) := by decide +kernel
theorem dX9_takeClues_38 : decode cX9_takeClues 38 = .ok (.invokevirtual 272, 3) := by decide +kernel
theorem dX9_takeClues_41 : decode cX9_takeClues 41 = .ok (.ireturn, 1) := by decide +kernel
theorem dX9_drawPicture_0 : decode cX9_drawPicture 0 = .ok (.aload_n 0, 1) := by decide +kernel
theorem dX9_drawPicture_1 : decode cX9_drawPicture 1 = .ok (.getfield 12, 3) := by decide +kernel
theorem dX9_drawPicture_4 : decode cX9_drawPicture 4 = .ok (.getfield 121, 3) := by decide +kernel
theorem dX9_drawPicture_7 : decode cX9_drawPicture 7 = .ok (.iconst 1, 1) := by decide +kernel
theorem dX9_drawPicture_8 : decode cX9_drawPicture 8 = .ok (.iadd, 1) := by decide +kernel
theorem dX9_drawPicture_9 : decode cX9_drawPicture 9 = .ok (.istore_n 2, 1) := by decide +kernel
theorem dX9_drawPicture_10 : decode cX9_drawPicture 10 = .ok (.iload_n 1, 1) := by decide +kernel
theorem dX9_drawPicture_11 : decode cX9_drawPicture 11 = .ok (.istore_n 3, 1) := by decide +kernel
theorem dX9_drawPicture_12 : decode cX9_drawPicture 12 = .ok (.iconst 0, 1) := by decide +kernel
theorem dX9_drawPicture_13 : decode cX9_drawPicture 13 = .ok (.istore 4, 2) := by decide +kernel
theorem dX9_drawPicture_15 : decode cX9_drawPicture 15 = .ok (.iconst 0, 1) := by decide +kernel
theorem dX9_drawPicture_16 : decode cX9_drawPicture 16 = .ok (.istore 5, 2) := by decide +kernel
theorem dX9_drawPicture_18 : decode cX9_drawPicture 18 = .ok (.iload 5, 2) := by decide +kernel
theorem dX9_drawPicture_20 : decode cX9_drawPicture 20 = .ok (.aload_n 0, 1) := by decide +kernel
theorem dX9_drawPicture_21 : decode cX9_drawPicture 21 = .ok (.getfield 12, 3) := by decide +kernel
theorem dX9_drawPicture_24 : decode cX9_drawPicture 24 = .ok (.invokevirtual 275, 3) := by decide +kernel
theorem dX9_drawPicture_27 : decode cX9_drawPicture 27 = .ok (.if_icmp .ge 57, 3) := by decide +kernel
theorem dX9_drawPicture_30 : decode cX9_drawPicture 30 = .ok (.iload_n 3, 1) := by decide +kernel
theorem dX9_drawPicture_31 : decode cX9_drawPicture 31 = .ok (.ldc_w 278, 3) := by decide +kernel
theorem dX9_drawPicture_34 : decode cX9_drawPicture 34 = .ok (.imul, 1) := by decide +kernel
theorem dX9_drawPicture_35 : decode cX9_drawPicture 35 = .ok (.sipush 12345, 3) := by decide +kernel
theorem dX9_drawPicture_38 : decode cX9_drawPicture 38 = .ok (.iadd, 1) := by decide +kernel
theorem dX9_drawPicture_39 : decode cX9_drawPicture 39 = .ok (.istore_n 3, 1) := by decide +kernel
theorem dX9_drawPicture_40 : decode cX9_drawPicture 40 = .ok (.iload_n 2, 1) := by decide +kernel
theorem dX9_drawPicture_41 : decode cX9_drawPicture 41 = .ok (.ifCond .le 12, 3) := by decide +kernel
theorem dX9_drawPicture_44 : decode cX9_drawPicture 44 = .ok (.iload_n 3, 1) := by decide +kernel
theorem dX9_drawPicture_45 : decode cX9_drawPicture 45 = .ok (.bipush 16, 2) := by decide +kernel
theorem dX9_drawPicture_47 : decode cX9_drawPicture 47 = .ok (.iushr, 1) := by decide +kernel
theorem dX9_drawPicture_48 : decode cX9_drawPicture 48 = .ok (.iload_n 2, 1) := by decide +kernel
theorem dX9_drawPicture_49 : decode cX9_drawPicture 49 = .ok (.irem, 1) := by decide +kernel
theorem dX9_drawPicture_50 : decode cX9_drawPicture 50 = .ok (.goto 4, 3) := by decide +kernel
theorem dX9_drawPicture_53 : decode cX9_drawPicture 53 = .ok (.iconst 0, 1) := by decide +kernel
theorem dX9_drawPicture_54 : decode cX9_drawPicture 54 = .ok (.istore 6, 2) := by decide +kernel
theorem dX9_drawPicture_56 : decode cX9_drawPicture 56 = .ok (.aload_n 0, 1) := by decide +kernel
theorem dX9_drawPicture_57 : decode cX9_drawPicture 57 = .ok (.getfield 12, 3) := by decide +kernel
theorem dX9_drawPicture_60 : decode cX9_drawPicture 60 = .ok (.getfield 165, 3) := by decide +kernel
theorem dX9_drawPicture_63 : decode cX9_drawPicture 63 = .ok (.iload 5, 2) := by decide +kernel
theorem dX9_drawPicture_65 : decode cX9_drawPicture 65 = .ok (.iconst 1, 1) := by decide +kernel
theorem dX9_drawPicture_66 : decode cX9_drawPicture 66 = .ok (.iload 6, 2) := by decide +kernel
theorem dX9_drawPicture_68 : decode cX9_drawPicture 68 = .ok (.ishl, 1) := by decide +kernel
theorem dX9_drawPicture_69 : decode cX9_drawPicture 69 = .ok (.iastore, 1) := by decide +kernel
theorem dX9_drawPicture_70 : decode cX9_drawPicture 70 = .ok (.iload 6, 2) := by decide +kernel
theorem dX9_drawPicture_72 : decode cX9_drawPicture 72 = .ok (.ifCond .eq 6, 3) := by decide +kernel
theorem dX9_drawPicture_75 : decode cX9_drawPicture 75 = .ok (.iinc 4 1, 3) := by decide +kernel
theorem dX9_drawPicture_78 : decode cX9_drawPicture 78 = .ok (.iinc 5 1, 3) := by decide +kernel
theorem dX9_drawPicture_81 : decode cX9_drawPicture 81 = .ok (.goto (-63), 3) := by decide +kernel
theorem dX9_drawPicture_84 : decode cX9_drawPicture 84 = .ok (.aload_n 0, 1) := by decide +kernel
theorem dX9_drawPicture_85 : decode cX9_drawPicture 85 = .ok (.getfield 12, 3) := by decide +kernel
theorem dX9_drawPicture_88 : decode cX9_drawPicture 88 = .ok (.invokevirtual 269, 3) := by decide +kernel
theorem dX9_drawPicture_91 : decode cX9_drawPicture 91 = .ok (.aload_n 0, 1) := by decide +kernel
theorem dX9_drawPicture_92 : decode cX9_drawPicture 92 = .ok (.getfield 29, 3) := by decide +kernel
theorem dX9_drawPicture_95 : decode cX9_drawPicture 95 = .ok (.invokevirtual 105, 3) := by decide +kernel
theorem dX9_drawPicture_98 : decode cX9_drawPicture 98 = .ok (.iload 4, 2) := by decide +kernel
theorem dX9_drawPicture_100 : decode cX9_drawPicture 100 = .ok (.ireturn, 1) := by decide +kernel
theorem dX9_clearCells_0 : decode cX9_clearCells 0 = .ok (.aload_n 0, 1) := by decide +kernel
theorem dX9_clearCells_1 : decode cX9_clearCells 1 = .ok (.getfield 12, 3) := by decide +kernel
theorem dX9_clearCells_4 : decode cX9_clearCells 4 = .ok (.invokevirtual 190, 3) := by decide +kernel
theorem dX9_clearCells_7 : decode cX9_clearCells 7 = .ok (.istore_n 1, 1) := by decide +kernel
theorem dX9_clearCells_8 : decode cX9_clearCells 8 = .ok (.aload_n 0, 1) := by decide +kernel
theorem dX9_clearCells_9 : decode cX9_clearCells 9 = .ok (.getfield 12, 3) := by decide +kernel
theorem dX9_clearCells_12 : decode cX9_clearCells 12 = .ok (.invokevirtual 279, 3) := by decide +kernel
theorem dX9_clearCells_15 : decode cX9_clearCells 15 = .ok (.aload_n 0, 1) := by decide +kernel
theorem dX9_clearCells_16 : decode cX9_clearCells 16 = .ok (.getfield 29, 3) := by decide +kernel
theorem dX9_clearCells_19 : decode cX9_clearCells 19 = .ok (.invokevirtual 105, 3) := by decide +kernel
theorem dX9_clearCells_22 : decode cX9_clearCells 22 = .ok (.iload_n 1, 1) := by decide +kernel
theorem dX9_clearCells_23 : decode cX9_clearCells 23 = .ok (.ireturn, 1) := by decide +kernel
theorem dX9_appendText_0 : decode cX9_appendText 0 = .ok (.iload_n 1, 1) := by decide +kernel
theorem dX9_appendText_1 : decode cX9_appendText 1 = .ok (.bipush 32, 2) := by decide +kernel
theorem dX9_appendText_3 : decode cX9_appendText 3 = .ok (.bipush 126, 2) := by decide +kernel
theorem dX9_appendText_5 : decode cX9_appendText 5 = .ok (.invokestatic 101, 3) := by decide +kernel
theorem dX9_appendText_8 : decode cX9_appendText 8 = .ok (.ifCond .ne 6, 3) := by decide +kernel
theorem dX9_appendText_11 : decode cX9_appendText 11 = .ok (.bipush (-2), 2) := by decide +kernel
theorem dX9_appendText_13 : decode cX9_appendText 13 = .ok (.ireturn, 1) := by decide +kernel
theorem dX9_appendText_14 : decode cX9_appendText 14 = .ok (.aload_n 0, 1) := by decide +kernel
theorem dX9_appendText_15 : decode cX9_appendText 15 = .ok (.getfield 76, 3) := by decide +kernel
theorem dX9_appendText_18 : decode cX9_appendText 18 = .ok (.iload_n 1, 1) := by decide +kernel
theorem dX9_appendText_19 : decode cX9_appendText 19 = .ok (.invokevirtual 282, 3) := by decide +kernel
theorem dX9_appendText_22 : decode cX9_appendText 22 = .ok (.ifCond .eq 13, 3) := by decide +kernel
theorem dX9_appendText_25 : decode cX9_appendText 25 = .ok (.aload_n 0, 1) := by decide +kernel
theorem dX9_appendText_26 : decode cX9_appendText 26 = .ok (.getfield 76, 3) := by decide +kernel
theorem dX9_appendText_29 : decode cX9_appendText 29 = .ok (.getfield 284, 3) := by decide +kernel
theorem dX9_appendText_32 : decode cX9_appendText 32 = .ok (.goto 5, 3) := by decide +kernel
theorem dX9_appendText_35 : decode cX9_appendText 35 = .ok (.bipush (-3), 2) := by decide +kernel
theorem dX9_appendText_37 : decode cX9_appendText 37 = .ok (.ireturn, 1) := by decide +kernel
theorem dX9_parseClues_0 : decode cX9_parseClues 0 = .ok (.aload_n 0, 1) := by decide +kernel
theorem dX9_parseClues_1 : decode cX9_parseClues 1 = .ok (.invokevirtual 287, 3) := by decide +kernel
theorem dX9_parseClues_4 : decode cX9_parseClues 4 = .ok (.istore_n 1, 1) := by decide +kernel
theorem dX9_parseClues_5 : decode cX9_parseClues 5 = .ok (.aload_n 0, 1) := by decide +kernel
theorem dX9_parseClues_6 : decode cX9_parseClues 6 = .ok (.getfield 76, 3) := by decide +kernel
theorem dX9_parseClues_9 : decode cX9_parseClues 9 = .ok (.invokevirtual 290, 3) := by decide +kernel
theorem dX9_parseClues_12 : decode cX9_parseClues 12 = .ok (.iload_n 1, 1) := by decide +kernel
theorem dX9_parseClues_13 : decode cX9_parseClues 13 = .ok (.ifCond .lt 28, 3) := by decide +kernel
theorem dX9_parseClues_16 : decode cX9_parseClues 16 = .ok (.aload_n 0, 1) := by decide +kernel
theorem dX9_parseClues_17 : decode cX9_parseClues 17 = .ok (.getfield 29, 3) := by decide +kernel
theorem dX9_parseClues_20 : decode cX9_parseClues 20 = .ok (.aload_n 0, 1) := by decide +kernel
theorem dX9_parseClues_21 : decode cX9_parseClues 21 = .ok (.getfield 12, 3) := by decide +kernel
theorem dX9_parseClues_24 : decode cX9_parseClues 24 = .ok (.invokevirtual 134, 3) := by decide +kernel
theorem dX9_parseClues_27 : decode cX9_parseClues 27 = .ok (.aload_n 0, 1) := by decide +kernel
theorem dX9_parseClues_28 : decode cX9_parseClues 28 = .ok (.getfield 12, 3) := by decide +kernel
theorem dX9_parseClues_31 : decode cX9_parseClues 31 = .ok (.getfield 128, 3) := by decide +kernel
theorem dX9_parseClues_34 : decode cX9_parseClues 34 = .ok (.aload_n 0, 1) := by decide +kernel
theorem dX9_parseClues_35 : decode cX9_parseClues 35 = .ok (.getfield 86, 3) := by decide +kernel
theorem dX9_parseClues_38 : decode cX9_parseClues 38 = .ok (.invokevirtual 293, 3) := by decide +kernel
theorem dX9_parseClues_41 : decode cX9_parseClues 41 = .ok (.iload_n 1, 1) := by decide +kernel
theorem dX9_parseClues_42 : decode cX9_parseClues 42 = .ok (.ireturn, 1) := by decide +kernel
theorem dX9_formatClues_0 : decode cX9_formatClues 0 = .ok (.aload_n 0, 1) := by decide +kernel
theorem dX9_formatClues_1 : decode cX9_formatClues 1 = .ok (.getfield 80, 3) := by decide +kernel
theorem dX9_formatClues_4 : decode cX9_formatClues 4 = .ok (.invokevirtual 290, 3) := by decide +kernel
theorem dX9_formatClues_7 : decode cX9_formatClues 7 = .ok (.iconst 0, 1) := by decide +kernel
theorem dX9_formatClues_8 : decode cX9_formatClues 8 = .ok (.istore_n 1, 1) := by decide +kernel
theorem dX9_formatClues_9 : decode cX9_formatClues 9 = .ok (.iload_n 1, 1) := by decide +kernel
theorem dX9_formatClues_10 : decode cX9_formatClues 10 = .ok (.aload_n 0, 1) := by decide +kernel
theorem dX9_formatClues_11 : decode cX9_formatClues 11 = .ok (.getfield 12, 3) := by decide +kernel
theorem dX9_formatClues_14 : decode cX9_formatClues 14 = .ok (.invokevirtual 111, 3) := by decide +kernel
theorem dX9_formatClues_17 : decode cX9_formatClues 17 = .ok (.if_icmp .ge 94, 3) := by decide +kernel
theorem dX9_formatClues_20 : decode cX9_formatClues 20 = .ok (.iload_n 1, 1) := by decide +kernel
theorem dX9_formatClues_21 : decode cX9_formatClues 21 = .ok (.ifCond .le 13, 3) := by decide +kernel
theorem dX9_formatClues_24 : decode cX9_formatClues 24 = .ok (.aload_n 0, 1) := by decide +kernel
theorem dX9_formatClues_25 : decode cX9_formatClues 25 = .ok (.getfield 80, 3) := by decide +kernel
theorem dX9_formatClues_28 : decode cX9_formatClues 28 = .ok (.bipush 47, 2) := by decide +kernel
theorem dX9_formatClues_30 : decode cX9_formatClues 30 = .ok (.invokevirtual 282, 3) := by decide +kernel
theorem dX9_formatClues_33 : decode cX9_formatClues 33 = .ok (.pop, 1) := by decide +kernel
theorem dX9_formatClues_34 : decode cX9_formatClues 34 = .ok (.iconst 0, 1) := by decide +kernel
theorem dX9_formatClues_35 : decode cX9_formatClues 35 = .ok (.istore_n 2, 1) := by decide +kernel
theorem dX9_formatClues_36 : decode cX9_formatClues 36 = .ok (.iload_n 2, 1) := by decide +kernel
theorem dX9_formatClues_37 : decode cX9_formatClues 37 = .ok (.aload_n 0, 1) := by decide +kernel
theorem dX9_formatClues_38 : decode cX9_formatClues 38 = .ok (.getfield 12, 3) := by decide +kernel
theorem dX9_formatClues_41 : decode cX9_formatClues 41 = .ok (.getfield 128, 3) := by decide +kernel
theorem dX9_formatClues_44 : decode cX9_formatClues 44 = .ok (.iload_n 1, 1) := by decide +kernel
theorem dX9_formatClues_45 : decode cX9_formatClues 45 = .ok (.invokevirtual 141, 3) := by decide +kernel
theorem dX9_formatClues_48 : decode cX9_formatClues 48 = .ok (.if_icmp .ge 57, 3) := by decide +kernel
theorem dX9_formatClues_51 : decode cX9_formatClues 51 = .ok (.aload_n 0, 1) := by decide +kernel
theorem dX9_formatClues_52 : decode cX9_formatClues 52 = .ok (.getfield 80, 3) := by decide +kernel
theorem dX9_formatClues_55 : decode cX9_formatClues 55 = .ok (.bipush 48, 2) := by decide +kernel
theorem dX9_formatClues_57 : decode cX9_formatClues 57 = .ok (.aload_n 0, 1) := by decide +kernel
theorem dX9_formatClues_58 : decode cX9_formatClues 58 = .ok (.getfield 12, 3) := by decide +kernel
theorem dX9_formatClues_61 : decode cX9_formatClues 61 = .ok (.getfield 128, 3) := by decide +kernel
theorem dX9_formatClues_64 : decode cX9_formatClues 64 = .ok (.iload_n 1, 1) := by decide +kernel
theorem dX9_formatClues_65 : decode cX9_formatClues 65 = .ok (.iload_n 2, 1) := by decide +kernel
theorem dX9_formatClues_66 : decode cX9_formatClues 66 = .ok (.invokevirtual 152, 3) := by decide +kernel
theorem dX9_formatClues_69 : decode cX9_formatClues 69 = .ok (.iadd, 1) := by decide +kernel
theorem dX9_formatClues_70 : decode cX9_formatClues 70 = .ok (.invokevirtual 282, 3) := by decide +kernel
theorem dX9_formatClues_73 : decode cX9_formatClues 73 = .ok (.pop, 1) := by decide +kernel
theorem dX9_formatClues_74 : decode cX9_formatClues 74 = .ok (.aload_n 0, 1) := by decide +kernel
theorem dX9_formatClues_75 : decode cX9_formatClues 75 = .ok (.getfield 80, 3) := by decide +kernel
theorem dX9_formatClues_78 : decode cX9_formatClues 78 = .ok (.bipush 97, 2) := by decide +kernel
theorem dX9_formatClues_80 : decode cX9_formatClues 80 = .ok (.aload_n 0, 1) := by decide +kernel
theorem dX9_formatClues_81 : decode cX9_formatClues 81 = .ok (.getfield 12, 3) := by decide +kernel
theorem dX9_formatClues_84 : decode cX9_formatClues 84 = .ok (.getfield 128, 3) := by decide +kernel
theorem dX9_formatClues_87 : decode cX9_formatClues 87 = .ok (.iload_n 1, 1) := by decide +kernel
theorem dX9_formatClues_88 : decode cX9_formatClues 88 = .ok (.iload_n 2, 1) := by decide +kernel
theorem dX9_formatClues_89 : decode cX9_formatClues 89 = .ok (.invokevirtual 156, 3) := by decide +kernel
theorem dX9_formatClues_92 : decode cX9_formatClues 92 = .ok (.iadd, 1) := by decide +kernel
theorem dX9_formatClues_93 : decode cX9_formatClues 93 = .ok (.iconst 1, 1) := by decide +kernel
theorem dX9_formatClues_94 : decode cX9_formatClues 94 = .ok (.isub, 1) := by decide +kernel
theorem dX9_formatClues_95 : decode cX9_formatClues 95 = .ok (.invokevirtual 282, 3) := by decide +kernel
theorem dX9_formatClues_98 : decode cX9_formatClues 98 = .ok (.pop, 1) := by decide +kernel
theorem dX9_formatClues_99 : decode cX9_formatClues 99 = .ok (.iinc 2 1, 3) := by decide +kernel
theorem dX9_formatClues_102 : decode cX9_formatClues 102 = .ok (.goto (-66), 3) := by decide +kernel
theorem dX9_formatClues_105 : decode cX9_formatClues 105 = .ok (.iinc 1 1, 3) := by decide +kernel
theorem dX9_formatClues_108 : decode cX9_formatClues 108 = .ok (.goto (-99), 3) := by decide +kernel
theorem dX9_formatClues_111 : decode cX9_formatClues 111 = .ok (.aload_n 0, 1) := by decide +kernel
theorem dX9_formatClues_112 : decode cX9_formatClues 112 = .ok (.getfield 80, 3) := by decide +kernel
theorem dX9_formatClues_115 : decode cX9_formatClues 115 = .ok (.getfield 284, 3) := by decide +kernel
theorem dX9_formatClues_118 : decode cX9_formatClues 118 = .ok (.ireturn, 1) := by decide +kernel
theorem dX9_formattedCharacter_0 : decode cX9_formattedCharacter 0 = .ok (.iload_n 1, 1) := by decide +kernel
theorem dX9_formattedCharacter_1 : decode cX9_formattedCharacter 1 = .ok (.iconst 0, 1) := by decide +kernel
theorem dX9_formattedCharacter_2 : decode cX9_formattedCharacter 2 = .ok (.aload_n 0, 1) := by decide +kernel
theorem dX9_formattedCharacter_3 : decode cX9_formattedCharacter 3 = .ok (.getfield 80, 3) := by decide +kernel
theorem dX9_formattedCharacter_6 : decode cX9_formattedCharacter 6 = .ok (.getfield 284, 3) := by decide +kernel
theorem dX9_formattedCharacter_9 : decode cX9_formattedCharacter 9 = .ok (.iconst 1, 1) := by decide +kernel
theorem dX9_formattedCharacter_10 : decode cX9_formattedCharacter 10 = .ok (.isub, 1) := by decide +kernel
theorem dX9_formattedCharacter_11 : decode cX9_formattedCharacter 11 = .ok (.invokestatic 101, 3) := by decide +kernel
theorem dX9_formattedCharacter_14 : decode cX9_formattedCharacter 14 = .ok (.ifCond .eq 15, 3) := by decide +kernel
theorem dX9_formattedCharacter_17 : decode cX9_formattedCharacter 17 = .ok (.aload_n 0, 1) := by decide +kernel
theorem dX9_formattedCharacter_18 : decode cX9_formattedCharacter 18 = .ok (.getfield 80, 3) := by decide +kernel
theorem dX9_formattedCharacter_21 : decode cX9_formattedCharacter 21 = .ok (.getfield 296, 3) := by decide +kernel
theorem dX9_formattedCharacter_24 : decode cX9_formattedCharacter 24 = .ok (.iload_n 1, 1) := by decide +kernel
theorem dX9_formattedCharacter_25 : decode cX9_formattedCharacter 25 = .ok (.iaload, 1) := by decide +kernel
theorem dX9_formattedCharacter_26 : decode cX9_formattedCharacter 26 = .ok (.goto 4, 3) := by decide +kernel
theorem dX9_formattedCharacter_29 : decode cX9_formattedCharacter 29 = .ok (.iconst (-1), 1) := by decide +kernel
theorem dX9_formattedCharacter_30 : decode cX9_formattedCharacter 30 = .ok (.ireturn, 1) := by decide +kernel
theorem dX9_undo_0 : decode cX9_undo 0 = .ok (.aload_n 0, 1) := by decide +kernel
theorem dX9_undo_1 : decode cX9_undo 1 = .ok (.getfield 29, 3) := by decide +kernel
theorem dX9_undo_4 : decode cX9_undo 4 = .ok (.aload_n 0, 1) := by decide +kernel
theorem dX9_undo_5 : decode cX9_undo 5 = .ok (.getfield 12, 3) := by decide +kernel
theorem dX9_undo_8 : decode cX9_undo 8 = .ok (.invokevirtual 299, 3) := by decide +kernel
theorem dX9_undo_11 : decode cX9_undo 11 = .ok (.ifCond .eq 13, 3) := by decide +kernel
theorem dX9_undo_14 : decode cX9_undo 14 = .ok (.aload_n 0, 1) := by decide +kernel
theorem dX9_undo_15 : decode cX9_undo 15 = .ok (.getfield 29, 3) := by decide +kernel
theorem dX9_undo_18 : decode cX9_undo 18 = .ok (.getfield 302, 3) := by decide +kernel
theorem dX9_undo_21 : decode cX9_undo 21 = .ok (.goto 5, 3) := by decide +kernel
theorem dX9_undo_24 : decode cX9_undo 24 = .ok (.bipush (-8), 2) := by decide +kernel
theorem dX9_undo_26 : decode cX9_undo 26 = .ok (.ireturn, 1) := by decide +kernel
theorem dX9_save_0 : decode cX9_save 0 = .ok (.aload_n 0, 1) := by decide +kernel
theorem dX9_save_1 : decode cX9_save 1 = .ok (.getfield 19, 3) := by decide +kernel
theorem dX9_save_4 : decode cX9_save 4 = .ok (.aload_n 0, 1) := by decide +kernel
theorem dX9_save_5 : decode cX9_save 5 = .ok (.getfield 12, 3) := by decide +kernel
theorem dX9_save_8 : decode cX9_save 8 = .ok (.invokevirtual 209, 3) := by decide +kernel
theorem dX9_save_11 : decode cX9_save 11 = .ok (.aload_n 0, 1) := by decide +kernel
theorem dX9_save_12 : decode cX9_save 12 = .ok (.iconst 1, 1) := by decide +kernel
theorem dX9_save_13 : decode cX9_save 13 = .ok (.putfield 22, 3) := by decide +kernel
theorem dX9_save_16 : decode cX9_save 16 = .ok (.aload_n 0, 1) := by decide +kernel
theorem dX9_save_17 : decode cX9_save 17 = .ok (.getfield 12, 3) := by decide +kernel
theorem dX9_save_20 : decode cX9_save 20 = .ok (.invokevirtual 190, 3) := by decide +kernel
theorem dX9_save_23 : decode cX9_save 23 = .ok (.ireturn, 1) := by decide +kernel
theorem dX9_restore_0 : decode cX9_restore 0 = .ok (.aload_n 0, 1) := by decide +kernel
theorem dX9_restore_1 : decode cX9_restore 1 = .ok (.getfield 22, 3) := by decide +kernel
theorem dX9_restore_4 : decode cX9_restore 4 = .ok (.ifCond .ne 6, 3) := by decide +kernel
theorem dX9_restore_7 : decode cX9_restore 7 = .ok (.bipush (-8), 2) := by decide +kernel
theorem dX9_restore_9 : decode cX9_restore 9 = .ok (.ireturn, 1) := by decide +kernel
theorem dX9_restore_10 : decode cX9_restore 10 = .ok (.aload_n 0, 1) := by decide +kernel
theorem dX9_restore_11 : decode cX9_restore 11 = .ok (.getfield 12, 3) := by decide +kernel
theorem dX9_restore_14 : decode cX9_restore 14 = .ok (.aload_n 0, 1) := by decide +kernel
theorem dX9_restore_15 : decode cX9_restore 15 = .ok (.getfield 19, 3) := by decide +kernel
theorem dX9_restore_18 : decode cX9_restore 18 = .ok (.invokevirtual 209, 3) := by decide +kernel
theorem dX9_restore_21 : decode cX9_restore 21 = .ok (.aload_n 0, 1) := by decide +kernel
theorem dX9_restore_22 : decode cX9_restore 22 = .ok (.getfield 29, 3) := by decide +kernel
theorem dX9_restore_25 : decode cX9_restore 25 = .ok (.invokevirtual 105, 3) := by decide +kernel
theorem dX9_restore_28 : decode cX9_restore 28 = .ok (.aload_n 0, 1) := by decide +kernel
theorem dX9_restore_29 : decode cX9_restore 29 = .ok (.invokevirtual 108, 3) := by decide +kernel
theorem dX9_restore_32 : decode cX9_restore 32 = .ok (.aload_n 0, 1) := by decide +kernel
theorem dX9_restore_33 : decode cX9_restore 33 = .ok (.getfield 12, 3) := by decide +kernel
theorem dX9_restore_36 : decode cX9_restore 36 = .ok (.invokevirtual 190, 3) := by decide +kernel
theorem dX9_restore_39 : decode cX9_restore 39 = .ok (.ireturn, 1) := by decide +kernel
theorem dX9_createTable_0 : decode cX9_createTable 0 = .ok (.iload_n 1, 1) := by decide +kernel
theorem dX9_createTable_1 : decode cX9_createTable 1 = .ok (.invokestatic 305, 3) := by decide +kernel
theorem dX9_createTable_4 : decode cX9_createTable 4 = .ok (.ifCond .eq 18, 3) := by decide +kernel
theorem dX9_createTable_7 : decode cX9_createTable 7 = .ok (.iload_n 2, 1) := by decide +kernel
theorem dX9_createTable_8 : decode cX9_createTable 8 = .ok (.iconst 0, 1) := by decide +kernel
theorem dX9_createTable_9 : decode cX9_createTable 9 = .ok (.iconst 2, 1) := by decide +kernel
theorem dX9_createTable_10 : decode cX9_createTable 10 = .ok (.invokestatic 101, 3) := by decide +kernel
theorem dX9_createTable_13 : decode cX9_createTable 13 = .ok (.ifCond .eq 9, 3) := by decide +kernel
theorem dX9_createTable_16 : decode cX9_createTable 16 = .ok (.iload_n 3, 1) := by decide +kernel
theorem dX9_createTable_17 : decode cX9_createTable 17 = .ok (.bipush 64, 2) := by decide +kernel
theorem dX9_createTable_19 : decode cX9_createTable 19 = .ok (.if_icmp .le 6, 3) := by decide +kernel
theorem dX9_createTable_22 : decode cX9_createTable 22 = .ok (.bipush (-2), 2) := by decide +kernel
theorem dX9_createTable_24 : decode cX9_createTable 24 = .ok (.ireturn, 1) := by decide +kernel
theorem dX9_createTable_25 : decode cX9_createTable 25 = .ok (.iload_n 3, 1) := by decide +kernel
theorem dX9_createTable_26 : decode cX9_createTable 26 = .ok (.ifCond .ge 6, 3) := by decide +kernel
theorem dX9_createTable_29 : decode cX9_createTable 29 = .ok (.bipush (-14), 2) := by decide +kernel
theorem dX9_createTable_31 : decode cX9_createTable 31 = .ok (.ireturn, 1) := by decide +kernel
theorem dX9_createTable_32 : decode cX9_createTable 32 = .ok (.aload_n 0, 1) := by decide +kernel
theorem dX9_createTable_33 : decode cX9_createTable 33 = .ok (.getfield 93, 3) := by decide +kernel
theorem dX9_createTable_36 : decode cX9_createTable 36 = .ok (.iload_n 1, 1) := by decide +kernel
theorem dX9_createTable_37 : decode cX9_createTable 37 = .ok (.aaload, 1) := by decide +kernel
theorem dX9_createTable_38 : decode cX9_createTable 38 = .ok (.iload_n 2, 1) := by decide +kernel
theorem dX9_createTable_39 : decode cX9_createTable 39 = .ok (.iload_n 3, 1) := by decide +kernel
theorem dX9_createTable_40 : decode cX9_createTable 40 = .ok (.invokevirtual 308, 3) := by decide +kernel
theorem dX9_createTable_43 : decode cX9_createTable 43 = .ok (.iconst 1, 1) := by decide +kernel
theorem dX9_createTable_44 : decode cX9_createTable 44 = .ok (.ireturn, 1) := by decide +kernel
theorem dX9_writeTable_0 : decode cX9_writeTable 0 = .ok (.aload_n 0, 1) := by decide +kernel
theorem dX9_writeTable_1 : decode cX9_writeTable 1 = .ok (.iload_n 1, 1) := by decide +kernel
theorem dX9_writeTable_2 : decode cX9_writeTable 2 = .ok (.iload_n 2, 1) := by decide +kernel
theorem dX9_writeTable_3 : decode cX9_writeTable 3 = .ok (.invokevirtual 311, 3) := by decide +kernel
theorem dX9_writeTable_6 : decode cX9_writeTable 6 = .ok (.istore 4, 2) := by decide +kernel
theorem dX9_writeTable_8 : decode cX9_writeTable 8 = .ok (.iload 4, 2) := by decide +kernel
theorem dX9_writeTable_10 : decode cX9_writeTable 10 = .ok (.ifCond .eq 6, 3) := by decide +kernel
theorem dX9_writeTable_13 : decode cX9_writeTable 13 = .ok (.iload 4, 2) := by decide +kernel
theorem dX9_writeTable_15 : decode cX9_writeTable 15 = .ok (.ireturn, 1) := by decide +kernel
theorem dX9_writeTable_16 : decode cX9_writeTable 16 = .ok (.aload_n 0, 1) := by decide +kernel
theorem dX9_writeTable_17 : decode cX9_writeTable 17 = .ok (.getfield 93, 3) := by decide +kernel
theorem dX9_writeTable_20 : decode cX9_writeTable 20 = .ok (.iload_n 1, 1) := by decide +kernel
theorem dX9_writeTable_21 : decode cX9_writeTable 21 = .ok (.aaload, 1) := by decide +kernel
theorem dX9_writeTable_22 : decode cX9_writeTable 22 = .ok (.iload_n 2, 1) := by decide +kernel
theorem dX9_writeTable_23 : decode cX9_writeTable 23 = .ok (.iload_n 3, 1) := by decide +kernel
theorem dX9_writeTable_24 : decode cX9_writeTable 24 = .ok (.invokevirtual 314, 3) := by decide +kernel
theorem dX9_writeTable_27 : decode cX9_writeTable 27 = .ok (.iconst 1, 1) := by decide +kernel
theorem dX9_writeTable_28 : decode cX9_writeTable 28 = .ok (.ireturn, 1) := by decide +kernel
theorem dX9_readTable_0 : decode cX9_readTable 0 = .ok (.aload_n 0, 1) := by decide +kernel
theorem dX9_readTable_1 : decode cX9_readTable 1 = .ok (.iload_n 1, 1) := by decide +kernel
theorem dX9_readTable_2 : decode cX9_readTable 2 = .ok (.iload_n 2, 1) := by decide +kernel
theorem dX9_readTable_3 : decode cX9_readTable 3 = .ok (.invokevirtual 311, 3) := by decide +kernel
theorem dX9_readTable_6 : decode cX9_readTable 6 = .ok (.istore_n 3, 1) := by decide +kernel
theorem dX9_readTable_7 : decode cX9_readTable 7 = .ok (.iload_n 3, 1) := by decide +kernel
theorem dX9_readTable_8 : decode cX9_readTable 8 = .ok (.ifCond .eq 7, 3) := by decide +kernel
theorem dX9_readTable_11 : decode cX9_readTable 11 = .ok (.iload_n 3, 1) := by decide +kernel
theorem dX9_readTable_12 : decode cX9_readTable 12 = .ok (.goto 14, 3) := by decide +kernel
theorem dX9_readTable_15 : decode cX9_readTable 15 = .ok (.aload_n 0, 1) := by decide +kernel
theorem dX9_readTable_16 : decode cX9_readTable 16 = .ok (.getfield 93, 3) := by decide +kernel
theorem dX9_readTable_19 : decode cX9_readTable 19 = .ok (.iload_n 1, 1) := by decide +kernel
theorem dX9_readTable_20 : decode cX9_readTable 20 = .ok (.aaload, 1) := by decide +kernel
theorem dX9_readTable_21 : decode cX9_readTable 21 = .ok (.getfield 317, 3) := by decide +kernel
theorem dX9_readTable_24 : decode cX9_readTable 24 = .ok (.iload_n 2, 1) := by decide +kernel
theorem dX9_readTable_25 : decode cX9_readTable 25 = .ok (.iaload, 1) := by decide +kernel
theorem dX9_readTable_26 : decode cX9_readTable 26 = .ok (.ireturn, 1) := by decide +kernel
theorem dX9_exportCandidates_0 : decode cX9_exportCandidates 0 = .ok (.aload_n 0, 1) := by decide +kernel
theorem dX9_exportCandidates_1 : decode cX9_exportCandidates 1 = .ok (.iload_n 1, 1) := by decide +kernel
theorem dX9_exportCandidates_2 : decode cX9_exportCandidates 2 = .ok (.invokevirtual 320, 3) := by decide +kernel
theorem dX9_exportCandidates_5 : decode cX9_exportCandidates 5 = .ok (.istore_n 2, 1) := by decide +kernel
theorem dX9_exportCandidates_6 : decode cX9_exportCandidates 6 = .ok (.iload_n 2, 1) := by decide +kernel
theorem dX9_exportCandidates_7 : decode cX9_exportCandidates 7 = .ok (.ifCond .eq 5, 3) := by decide +kernel
theorem dX9_exportCandidates_10 : decode cX9_exportCandidates 10 = .ok (.iload_n 2, 1) := by decide +kernel
theorem dX9_exportCandidates_11 : decode cX9_exportCandidates 11 = .ok (.ireturn, 1) := by decide +kernel
theorem dX9_exportCandidates_12 : decode cX9_exportCandidates 12 = .ok (.aload_n 0, 1) := by decide +kernel
theorem dX9_exportCandidates_13 : decode cX9_exportCandidates 13 = .ok (.getfield 93, 3) := by decide +kernel
theorem dX9_exportCandidates_16 : decode cX9_exportCandidates 16 = .ok (.iload_n 1, 1) := by decide +kernel
theorem dX9_exportCandidates_17 : decode cX9_exportCandidates 17 = .ok (.aaload, 1) := by decide +kernel
theorem dX9_exportCandidates_18 : decode cX9_exportCandidates 18 = .ok (.astore_n 3, 1) := by decide +kernel
theorem dX9_exportCandidates_19 : decode cX9_exportCandidates 19 = .ok (.aload_n 3, 1) := by decide +kernel
theorem dX9_exportCandidates_20 : decode cX9_exportCandidates 20 = .ok (.getfield 323, 3) := by decide +kernel
theorem dX9_exportCandidates_23 : decode cX9_exportCandidates 23 = .ok (.iconst 2, 1) := by decide +kernel
theorem dX9_exportCandidates_24 : decode cX9_exportCandidates 24 = .ok (.if_icmp .ne 6, 3) := by decide +kernel
theorem dX9_exportCandidates_27 : decode cX9_exportCandidates 27 = .ok (.bipush (-12), 2) := by decide +kernel
theorem dX9_exportCandidates_29 : decode cX9_exportCandidates 29 = .ok (.ireturn, 1) := by decide +kernel
theorem dX9_exportCandidates_30 : decode cX9_exportCandidates 30 = .ok (.aload_n 0, 1) := by decide +kernel
theorem dX9_exportCandidates_31 : decode cX9_exportCandidates 31 = .ok (.getfield 12, 3) := by decide +kernel
theorem dX9_exportCandidates_34 : decode cX9_exportCandidates 34 = .ok (.invokevirtual 275, 3) := by decide +kernel
theorem dX9_exportCandidates_37 : decode cX9_exportCandidates 37 = .ok (.istore 4, 2) := by decide +kernel
theorem dX9_exportCandidates_39 : decode cX9_exportCandidates 39 = .ok (.iconst 0, 1) := by decide +kernel
theorem dX9_exportCandidates_40 : decode cX9_exportCandidates 40 = .ok (.istore 5, 2) := by decide +kernel
theorem dX9_exportCandidates_42 : decode cX9_exportCandidates 42 = .ok (.iload 5, 2) := by decide +kernel
theorem dX9_exportCandidates_44 : decode cX9_exportCandidates 44 = .ok (.iload 4, 2) := by decide +kernel
theorem dX9_exportCandidates_46 : decode cX9_exportCandidates 46 = .ok (.aload_n 3, 1) := by decide +kernel
theorem dX9_exportCandidates_47 : decode cX9_exportCandidates 47 = .ok (.getfield 326, 3) := by decide +kernel
theorem dX9_exportCandidates_50 : decode cX9_exportCandidates 50 = .ok (.invokestatic 327, 3) := by decide +kernel
theorem dX9_exportCandidates_53 : decode cX9_exportCandidates 53 = .ok (.if_icmp .ge 25, 3) := by decide +kernel
theorem dX9_exportCandidates_56 : decode cX9_exportCandidates 56 = .ok (.aload_n 3, 1) := by decide +kernel
theorem dX9_exportCandidates_57 : decode cX9_exportCandidates 57 = .ok (.iload 5, 2) := by decide +kernel
theorem dX9_exportCandidates_59 : decode cX9_exportCandidates 59 = .ok (.aload_n 0, 1) := by decide +kernel
theorem dX9_exportCandidates_60 : decode cX9_exportCandidates 60 = .ok (.getfield 12, 3) := by decide +kernel
theorem dX9_exportCandidates_63 : decode cX9_exportCandidates 63 = .ok (.getfield 165, 3) := by decide +kernel
theorem dX9_exportCandidates_66 : decode cX9_exportCandidates 66 = .ok (.iload 5, 2) := by decide +kernel
theorem dX9_exportCandidates_68 : decode cX9_exportCandidates 68 = .ok (.iaload, 1) := by decide +kernel
theorem dX9_exportCandidates_69 : decode cX9_exportCandidates 69 = .ok (.invokevirtual 314, 3) := by decide +kernel
theorem dX9_exportCandidates_72 : decode cX9_exportCandidates 72 = .ok (.iinc 5 1, 3) := by decide +kernel
theorem dX9_exportCandidates_75 : decode cX9_exportCandidates 75 = .ok (.goto (-33), 3) := by decide +kernel
theorem dX9_exportCandidates_78 : decode cX9_exportCandidates 78 = .ok (.aload_n 3, 1) := by decide +kernel
theorem dX9_exportCandidates_79 : decode cX9_exportCandidates 79 = .ok (.getfield 326, 3) := by decide +kernel
theorem dX9_exportCandidates_82 : decode cX9_exportCandidates 82 = .ok (.iload 4, 2) := by decide +kernel
theorem dX9_exportCandidates_84 : decode cX9_exportCandidates 84 = .ok (.if_icmp .ge 8, 3) := by decide +kernel
theorem dX9_exportCandidates_87 : decode cX9_exportCandidates 87 = .ok (.bipush (-13), 2) := by decide +kernel
theorem dX9_exportCandidates_89 : decode cX9_exportCandidates 89 = .ok (.goto 5, 3) := by decide +kernel
theorem dX9_exportCandidates_92 : decode cX9_exportCandidates 92 = .ok (.iload 4, 2) := by decide +kernel
theorem dX9_exportCandidates_94 : decode cX9_exportCandidates 94 = .ok (.ireturn, 1) := by decide +kernel
theorem dX9_compareTable_0 : decode cX9_compareTable 0 = .ok (.aload_n 0, 1) := by decide +kernel
theorem dX9_compareTable_1 : decode cX9_compareTable 1 = .ok (.iload_n 1, 1) := by decide +kernel
theorem dX9_compareTable_2 : decode cX9_compareTable 2 = .ok (.invokevirtual 320, 3) := by decide +kernel
theorem dX9_compareTable_5 : decode cX9_compareTable 5 = .ok (.istore_n 2, 1) := by decide +kernel
theorem dX9_compareTable_6 : decode cX9_compareTable 6 = .ok (.iload_n 2, 1) := by decide +kernel
theorem dX9_compareTable_7 : decode cX9_compareTable 7 = .ok (.ifCond .eq 5, 3) := by decide +kernel
theorem dX9_compareTable_10 : decode cX9_compareTable 10 = .ok (.iload_n 2, 1) := by decide +kernel
theorem dX9_compareTable_11 : decode cX9_compareTable 11 = .ok (.ireturn, 1) := by decide +kernel
theorem dX9_compareTable_12 : decode cX9_compareTable 12 = .ok (.aload_n 0, 1) := by decide +kernel
theorem dX9_compareTable_13 : decode cX9_compareTable 13 = .ok (.getfield 93, 3) := by decide +kernel
theorem dX9_compareTable_16 : decode cX9_compareTable 16 = .ok (.iload_n 1, 1) := by decide +kernel
theorem dX9_compareTable_17 : decode cX9_compareTable 17 = .ok (.aaload, 1) := by decide +kernel
theorem dX9_compareTable_18 : decode cX9_compareTable 18 = .ok (.astore_n 3, 1) := by decide +kernel
theorem dX9_compareTable_19 : decode cX9_compareTable 19 = .ok (.aload_n 3, 1) := by decide +kernel
theorem dX9_compareTable_20 : decode cX9_compareTable 20 = .ok (.getfield 323, 3) := by decide +kernel
theorem dX9_compareTable_23 : decode cX9_compareTable 23 = .ok (.iconst 2, 1) := by decide +kernel
theorem dX9_compareTable_24 : decode cX9_compareTable 24 = .ok (.if_icmp .eq 6, 3) := by decide +kernel
theorem dX9_compareTable_27 : decode cX9_compareTable 27 = .ok (.bipush (-12), 2) := by decide +kernel
theorem dX9_compareTable_29 : decode cX9_compareTable 29 = .ok (.ireturn, 1) := by decide +kernel
theorem dX9_compareTable_30 : decode cX9_compareTable 30 = .ok (.iconst 0, 1) := by decide +kernel
theorem dX9_compareTable_31 : decode cX9_compareTable 31 = .ok (.istore 4, 2) := by decide +kernel
theorem dX9_compareTable_33 : decode cX9_compareTable 33 = .ok (.iload 4, 2) := by decide +kernel
theorem dX9_compareTable_35 : decode cX9_compareTable 35 = .ok (.aload_n 0, 1) := by decide +kernel
theorem dX9_compareTable_36 : decode cX9_compareTable 36 = .ok (.getfield 12, 3) := by decide +kernel
theorem dX9_compareTable_39 : decode cX9_compareTable 39 = .ok (.invokevirtual 275, 3) := by decide +kernel
theorem dX9_compareTable_42 : decode cX9_compareTable 42 = .ok (.if_icmp .ge 56, 3) := by decide +kernel
theorem dX9_compareTable_45 : decode cX9_compareTable 45 = .ok (.iload 4, 2) := by decide +kernel
theorem dX9_compareTable_47 : decode cX9_compareTable 47 = .ok (.aload_n 3, 1) := by decide +kernel
theorem dX9_compareTable_48 : decode cX9_compareTable 48 = .ok (.getfield 326, 3) := by decide +kernel
theorem dX9_compareTable_51 : decode cX9_compareTable 51 = .ok (.if_icmp .lt 6, 3) := by decide +kernel
theorem dX9_compareTable_54 : decode cX9_compareTable 54 = .ok (.bipush (-13), 2) := by decide +kernel
theorem dX9_compareTable_56 : decode cX9_compareTable 56 = .ok (.ireturn, 1) := by decide +kernel
theorem dX9_compareTable_57 : decode cX9_compareTable 57 = .ok (.aload_n 3, 1) := by decide +kernel
theorem dX9_compareTable_58 : decode cX9_compareTable 58 = .ok (.getfield 317, 3) := by decide +kernel
theorem dX9_compareTable_61 : decode cX9_compareTable 61 = .ok (.iload 4, 2) := by decide +kernel
theorem dX9_compareTable_63 : decode cX9_compareTable 63 = .ok (.iaload, 1) := by decide +kernel
theorem dX9_compareTable_64 : decode cX9_compareTable 64 = .ok (.ifCond .eq 7, 3) := by decide +kernel
theorem dX9_compareTable_67 : decode cX9_compareTable 67 = .ok (.iconst 1, 1) := by decide +kernel
theorem dX9_compareTable_68 : decode cX9_compareTable 68 = .ok (.goto 4, 3) := by decide +kernel
theorem dX9_compareTable_71 : decode cX9_compareTable 71 = .ok (.iconst 0, 1) := by decide +kernel
theorem dX9_compareTable_72 : decode cX9_compareTable 72 = .ok (.istore 5, 2) := by decide +kernel
theorem dX9_compareTable_74 : decode cX9_compareTable 74 = .ok (.iload 5, 2) := by decide +kernel
theorem dX9_compareTable_76 : decode cX9_compareTable 76 = .ok (.aload_n 0, 1) := by decide +kernel
theorem dX9_compareTable_77 : decode cX9_compareTable 77 = .ok (.getfield 12, 3) := by decide +kernel
theorem dX9_compareTable_80 : decode cX9_compareTable 80 = .ok (.iload 4, 2) := by decide +kernel
theorem dX9_compareTable_82 : decode cX9_compareTable 82 = .ok (.iconst 0, 1) := by decide +kernel
theorem dX9_compareTable_83 : decode cX9_compareTable 83 = .ok (.invokevirtual 332, 3) := by decide +kernel
theorem dX9_compareTable_86 : decode cX9_compareTable 86 = .ok (.if_icmp .ne 6, 3) := by decide +kernel
theorem dX9_compareTable_89 : decode cX9_compareTable 89 = .ok (.iload 4, 2) := by decide +kernel
theorem dX9_compareTable_91 : decode cX9_compareTable 91 = .ok (.ireturn, 1) := by decide +kernel
theorem dX9_compareTable_92 : decode cX9_compareTable 92 = .ok (.iinc 4 1, 3) := by decide +kernel
theorem dX9_compareTable_95 : decode cX9_compareTable 95 = .ok (.goto (-62), 3) := by decide +kernel
theorem dX9_compareTable_98 : decode cX9_compareTable 98 = .ok (.bipush (-8), 2) := by decide +kernel
theorem dX9_compareTable_100 : decode cX9_compareTable 100 = .ok (.ireturn, 1) := by decide +kernel
theorem dX9_undoCount_0 : decode cX9_undoCount 0 = .ok (.aload_n 0, 1) := by decide +kernel
theorem dX9_undoCount_1 : decode cX9_undoCount 1 = .ok (.getfield 29, 3) := by decide +kernel
theorem dX9_undoCount_4 : decode cX9_undoCount 4 = .ok (.getfield 302, 3) := by decide +kernel
theorem dX9_undoCount_7 : decode cX9_undoCount 7 = .ok (.ireturn, 1) := by decide +kernel
theorem dX9_isWithin_0 : decode cX9_isWithin 0 = .ok (.iload_n 0, 1) := by decide +kernel
theorem dX9_isWithin_1 : decode cX9_isWithin 1 = .ok (.iload_n 1, 1) := by decide +kernel
theorem dX9_isWithin_2 : decode cX9_isWithin 2 = .ok (.if_icmp .lt 12, 3) := by decide +kernel
theorem dX9_isWithin_5 : decode cX9_isWithin 5 = .ok (.iload_n 0, 1) := by decide +kernel
theorem dX9_isWithin_6 : decode cX9_isWithin 6 = .ok (.iload_n 2, 1) := by decide +kernel
theorem dX9_isWithin_7 : decode cX9_isWithin 7 = .ok (.if_icmp .gt 7, 3) := by decide +kernel
theorem dX9_isWithin_10 : decode cX9_isWithin 10 = .ok (.iconst 1, 1) := by decide +kernel
theorem dX9_isWithin_11 : decode cX9_isWithin 11 = .ok (.goto 4, 3) := by decide +kernel
theorem dX9_isWithin_14 : decode cX9_isWithin 14 = .ok (.iconst 0, 1) := by decide +kernel
theorem dX9_isWithin_15 : decode cX9_isWithin 15 = .ok (.ireturn, 1) := by decide +kernel
theorem dX9_hasRun_0 : decode cX9_hasRun 0 = .ok (.aload_n 0, 1) := by decide +kernel
theorem dX9_hasRun_1 : decode cX9_hasRun 1 = .ok (.getfield 12, 3) := by decide +kernel
theorem dX9_hasRun_4 : decode cX9_hasRun 4 = .ok (.iload_n 1, 1) := by decide +kernel
theorem dX9_hasRun_5 : decode cX9_hasRun 5 = .ok (.invokevirtual 124, 3) := by decide +kernel
theorem dX9_hasRun_8 : decode cX9_hasRun 8 = .ok (.ifCond .eq 28, 3) := by decide +kernel
theorem dX9_hasRun_11 : decode cX9_hasRun 11 = .ok (.iload_n 2, 1) := by decide +kernel
theorem dX9_hasRun_12 : decode cX9_hasRun 12 = .ok (.iconst 0, 1) := by decide +kernel
theorem dX9_hasRun_13 : decode cX9_hasRun 13 = .ok (.aload_n 0, 1) := by decide +kernel
theorem dX9_hasRun_14 : decode cX9_hasRun 14 = .ok (.getfield 12, 3) := by decide +kernel
theorem dX9_hasRun_17 : decode cX9_hasRun 17 = .ok (.getfield 128, 3) := by decide +kernel
theorem dX9_hasRun_20 : decode cX9_hasRun 20 = .ok (.iload_n 1, 1) := by decide +kernel
theorem dX9_hasRun_21 : decode cX9_hasRun 21 = .ok (.invokevirtual 141, 3) := by decide +kernel
theorem dX9_hasRun_24 : decode cX9_hasRun 24 = .ok (.iconst 1, 1) := by decide +kernel
theorem dX9_hasRun_25 : decode cX9_hasRun 25 = .ok (.isub, 1) := by decide +kernel
theorem dX9_hasRun_26 : decode cX9_hasRun 26 = .ok (.invokestatic 101, 3) := by decide +kernel
theorem dX9_hasRun_29 : decode cX9_hasRun 29 = .ok (.ifCond .eq 7, 3) := by decide +kernel
theorem dX9_hasRun_32 : decode cX9_hasRun 32 = .ok (.iconst 1, 1) := by decide +kernel
theorem dX9_hasRun_33 : decode cX9_hasRun 33 = .ok (.goto 4, 3) := by decide +kernel
theorem dX9_hasRun_36 : decode cX9_hasRun 36 = .ok (.iconst 0, 1) := by decide +kernel
theorem dX9_hasRun_37 : decode cX9_hasRun 37 = .ok (.ireturn, 1) := by decide +kernel
theorem dX9_candidateError_0 : decode cX9_candidateError 0 = .ok (.aload_n 0, 1) := by decide +kernel
theorem dX9_candidateError_1 : decode cX9_candidateError 1 = .ok (.getfield 12, 3) := by decide +kernel
theorem dX9_candidateError_4 : decode cX9_candidateError 4 = .ok (.iload_n 1, 1) := by decide +kernel
theorem dX9_candidateError_5 : decode cX9_candidateError 5 = .ok (.iload_n 2, 1) := by decide +kernel
theorem dX9_candidateError_6 : decode cX9_candidateError 6 = .ok (.invokevirtual 162, 3) := by decide +kernel
theorem dX9_candidateError_9 : decode cX9_candidateError 9 = .ok (.ifCond .ne 5, 3) := by decide +kernel
theorem dX9_candidateError_12 : decode cX9_candidateError 12 = .ok (.iconst (-1), 1) := by decide +kernel
theorem dX9_candidateError_13 : decode cX9_candidateError 13 = .ok (.ireturn, 1) := by decide +kernel
theorem dX9_candidateError_14 : decode cX9_candidateError 14 = .ok (.iload_n 3, 1) := by decide +kernel
theorem dX9_candidateError_15 : decode cX9_candidateError 15 = .ok (.iconst 0, 1) := by decide +kernel
theorem dX9_candidateError_16 : decode cX9_candidateError 16 = .ok (.aload_n 0, 1) := by decide +kernel
theorem dX9_candidateError_17 : decode cX9_candidateError 17 = .ok (.getfield 12, 3) := by decide +kernel
theorem dX9_candidateError_20 : decode cX9_candidateError 20 = .ok (.getfield 121, 3) := by decide +kernel
theorem dX9_candidateError_23 : decode cX9_candidateError 23 = .ok (.invokestatic 101, 3) := by decide +kernel
theorem dX9_candidateError_26 : decode cX9_candidateError 26 = .ok (.ifCond .ne 6, 3) := by decide +kernel
theorem dX9_candidateError_29 : decode cX9_candidateError 29 = .ok (.bipush (-2), 2) := by decide +kernel
theorem dX9_candidateError_31 : decode cX9_candidateError 31 = .ok (.ireturn, 1) := by decide +kernel
theorem dX9_candidateError_32 : decode cX9_candidateError 32 = .ok (.aload_n 0, 1) := by decide +kernel
theorem dX9_candidateError_33 : decode cX9_candidateError 33 = .ok (.getfield 12, 3) := by decide +kernel
theorem dX9_candidateError_36 : decode cX9_candidateError 36 = .ok (.aload_n 0, 1) := by decide +kernel
theorem dX9_candidateError_37 : decode cX9_candidateError 37 = .ok (.getfield 12, 3) := by decide +kernel
theorem dX9_candidateError_40 : decode cX9_candidateError 40 = .ok (.iload_n 1, 1) := by decide +kernel
theorem dX9_candidateError_41 : decode cX9_candidateError 41 = .ok (.iload_n 2, 1) := by decide +kernel
theorem dX9_candidateError_42 : decode cX9_candidateError 42 = .ok (.invokevirtual 169, 3) := by decide +kernel
theorem dX9_candidateError_45 : decode cX9_candidateError 45 = .ok (.iload_n 3, 1) := by decide +kernel
theorem dX9_candidateError_46 : decode cX9_candidateError 46 = .ok (.invokevirtual 332, 3) := by decide +kernel
theorem dX9_candidateError_49 : decode cX9_candidateError 49 = .ok (.ifCond .eq 7, 3) := by decide +kernel
theorem dX9_candidateError_52 : decode cX9_candidateError 52 = .ok (.iconst 0, 1) := by decide +kernel
theorem dX9_candidateError_53 : decode cX9_candidateError 53 = .ok (.goto 5, 3) := by decide +kernel
theorem dX9_candidateError_56 : decode cX9_candidateError 56 = .ok (.bipush (-5), 2) := by decide +kernel
theorem dX9_candidateError_58 : decode cX9_candidateError 58 = .ok (.ireturn, 1) := by decide +kernel
theorem dX9_otherCandidatesError_0 : decode cX9_otherCandidatesError 0 = .ok (.aload_n 0, 1) := by decide +kernel
theorem dX9_otherCandidatesError_1 : decode cX9_otherCandidatesError 1 = .ok (.iload_n 1, 1) := by decide +kernel
theorem dX9_otherCandidatesError_2 : decode cX9_otherCandidatesError 2 = .ok (.iload_n 2, 1) := by decide +kernel
theorem dX9_otherCandidatesError_3 : decode cX9_otherCandidatesError 3 = .ok (.iload_n 3, 1) := by decide +kernel
theorem dX9_otherCandidatesError_4 : decode cX9_otherCandidatesError 4 = .ok (.invokevirtual 178, 3) := by decide +kernel
theorem dX9_otherCandidatesError_7 : decode cX9_otherCandidatesError 7 = .ok (.istore 4, 2) := by decide +kernel
theorem dX9_otherCandidatesError_9 : decode cX9_otherCandidatesError 9 = .ok (.iload 4, 2) := by decide +kernel
theorem dX9_otherCandidatesError_11 : decode cX9_otherCandidatesError 11 = .ok (.ifCond .ne 25, 3) := by decide +kernel
theorem dX9_otherCandidatesError_14 : decode cX9_otherCandidatesError 14 = .ok (.aload_n 0, 1) := by decide +kernel
theorem dX9_otherCandidatesError_15 : decode cX9_otherCandidatesError 15 = .ok (.getfield 12, 3) := by decide +kernel
theorem dX9_otherCandidatesError_18 : decode cX9_otherCandidatesError 18 = .ok (.aload_n 0, 1) := by decide +kernel
theorem dX9_otherCandidatesError_19 : decode cX9_otherCandidatesError 19 = .ok (.getfield 12, 3) := by decide +kernel
theorem dX9_otherCandidatesError_22 : decode cX9_otherCandidatesError 22 = .ok (.iload_n 1, 1) := by decide +kernel
theorem dX9_otherCandidatesError_23 : decode cX9_otherCandidatesError 23 = .ok (.iload_n 2, 1) := by decide +kernel
theorem dX9_otherCandidatesError_24 : decode cX9_otherCandidatesError 24 = .ok (.invokevirtual 169, 3) := by decide +kernel
theorem dX9_otherCandidatesError_27 : decode cX9_otherCandidatesError 27 = .ok (.invokevirtual 172, 3) := by decide +kernel
theorem dX9_otherCandidatesError_30 : decode cX9_otherCandidatesError 30 = .ok (.ifCond .eq 6, 3) := by decide +kernel
theorem dX9_otherCandidatesError_33 : decode cX9_otherCandidatesError 33 = .ok (.bipush (-5), 2) := by decide +kernel
theorem dX9_otherCandidatesError_35 : decode cX9_otherCandidatesError 35 = .ok (.ireturn, 1) := by decide +kernel
theorem dX9_otherCandidatesError_36 : decode cX9_otherCandidatesError 36 = .ok (.iload 4, 2) := by decide +kernel
theorem dX9_otherCandidatesError_38 : decode cX9_otherCandidatesError 38 = .ok (.ireturn, 1) := by decide +kernel
theorem dX9_hasTable_0 : decode cX9_hasTable 0 = .ok (.iload_n 0, 1) := by decide +kernel
theorem dX9_hasTable_1 : decode cX9_hasTable 1 = .ok (.iconst 0, 1) := by decide +kernel
theorem dX9_hasTable_2 : decode cX9_hasTable 2 = .ok (.iconst 2, 1) := by decide +kernel
theorem dX9_hasTable_3 : decode cX9_hasTable 3 = .ok (.invokestatic 101, 3) := by decide +kernel
theorem dX9_hasTable_6 : decode cX9_hasTable 6 = .ok (.ireturn, 1) := by decide +kernel
theorem dX9_tableError_0 : decode cX9_tableError 0 = .ok (.iload_n 1, 1) := by decide +kernel
theorem dX9_tableError_1 : decode cX9_tableError 1 = .ok (.invokestatic 305, 3) := by decide +kernel
theorem dX9_tableError_4 : decode cX9_tableError 4 = .ok (.ifCond .ne 6, 3) := by decide +kernel
theorem dX9_tableError_7 : decode cX9_tableError 7 = .ok (.bipush (-2), 2) := by decide +kernel
theorem dX9_tableError_9 : decode cX9_tableError 9 = .ok (.ireturn, 1) := by decide +kernel
theorem dX9_tableError_10 : decode cX9_tableError 10 = .ok (.aload_n 0, 1) := by decide +kernel
theorem dX9_tableError_11 : decode cX9_tableError 11 = .ok (.getfield 93, 3) := by decide +kernel
theorem dX9_tableError_14 : decode cX9_tableError 14 = .ok (.iload_n 1, 1) := by decide +kernel
theorem dX9_tableError_15 : decode cX9_tableError 15 = .ok (.aaload, 1) := by decide +kernel
theorem dX9_tableError_16 : decode cX9_tableError 16 = .ok (.getfield 323, 3) := by decide +kernel
theorem dX9_tableError_19 : decode cX9_tableError 19 = .ok (.iconst (-1), 1) := by decide +kernel
theorem dX9_tableError_20 : decode cX9_tableError 20 = .ok (.if_icmp .ne 8, 3) := by decide +kernel
theorem dX9_tableError_23 : decode cX9_tableError 23 = .ok (.bipush (-11), 2) := by decide +kernel
theorem dX9_tableError_25 : decode cX9_tableError 25 = .ok (.goto 4, 3) := by decide +kernel
theorem dX9_tableError_28 : decode cX9_tableError 28 = .ok (.iconst 0, 1) := by decide +kernel
theorem dX9_tableError_29 : decode cX9_tableError 29 = .ok (.ireturn, 1) := by decide +kernel
theorem dX9_elementError_0 : decode cX9_elementError 0 = .ok (.aload_n 0, 1) := by decide +kernel
theorem dX9_elementError_1 : decode cX9_elementError 1 = .ok (.iload_n 1, 1) := by decide +kernel
theorem dX9_elementError_2 : decode cX9_elementError 2 = .ok (.invokevirtual 320, 3) := by decide +kernel
theorem dX9_elementError_5 : decode cX9_elementError 5 = .ok (.istore_n 3, 1) := by decide +kernel
theorem dX9_elementError_6 : decode cX9_elementError 6 = .ok (.iload_n 3, 1) := by decide +kernel
theorem dX9_elementError_7 : decode cX9_elementError 7 = .ok (.ifCond .ne 25, 3) := by decide +kernel
theorem dX9_elementError_10 : decode cX9_elementError 10 = .ok (.iload_n 2, 1) := by decide +kernel
theorem dX9_elementError_11 : decode cX9_elementError 11 = .ok (.iconst 0, 1) := by decide +kernel
theorem dX9_elementError_12 : decode cX9_elementError 12 = .ok (.aload_n 0, 1) := by decide +kernel
theorem dX9_elementError_13 : decode cX9_elementError 13 = .ok (.getfield 93, 3) := by decide +kernel
theorem dX9_elementError_16 : decode cX9_elementError 16 = .ok (.iload_n 1, 1) := by decide +kernel
theorem dX9_elementError_17 : decode cX9_elementError 17 = .ok (.aaload, 1) := by decide +kernel
theorem dX9_elementError_18 : decode cX9_elementError 18 = .ok (.getfield 326, 3) := by decide +kernel
theorem dX9_elementError_21 : decode cX9_elementError 21 = .ok (.iconst 1, 1) := by decide +kernel
theorem dX9_elementError_22 : decode cX9_elementError 22 = .ok (.isub, 1) := by decide +kernel
theorem dX9_elementError_23 : decode cX9_elementError 23 = .ok (.invokestatic 101, 3) := by decide +kernel
theorem dX9_elementError_26 : decode cX9_elementError 26 = .ok (.ifCond .ne 6, 3) := by decide +kernel
theorem dX9_elementError_29 : decode cX9_elementError 29 = .ok (.bipush (-13), 2) := by decide +kernel
theorem dX9_elementError_31 : decode cX9_elementError 31 = .ok (.ireturn, 1) := by decide +kernel
theorem dX9_elementError_32 : decode cX9_elementError 32 = .ok (.iload_n 3, 1) := by decide +kernel
theorem dX9_elementError_33 : decode cX9_elementError 33 = .ok (.ireturn, 1) := by decide +kernel
theorem dX9_commitWork_0 : decode cX9_commitWork 0 = .ok (.aload_n 0, 1) := by decide +kernel
theorem dX9_commitWork_1 : decode cX9_commitWork 1 = .ok (.getfield 29, 3) := by decide +kernel
theorem dX9_commitWork_4 : decode cX9_commitWork 4 = .ok (.aload_n 0, 1) := by decide +kernel
theorem dX9_commitWork_5 : decode cX9_commitWork 5 = .ok (.getfield 12, 3) := by decide +kernel
theorem dX9_commitWork_8 : decode cX9_commitWork 8 = .ok (.invokevirtual 134, 3) := by decide +kernel
theorem dX9_commitWork_11 : decode cX9_commitWork 11 = .ok (.aload_n 0, 1) := by decide +kernel
theorem dX9_commitWork_12 : decode cX9_commitWork 12 = .ok (.getfield 12, 3) := by decide +kernel
theorem dX9_commitWork_15 : decode cX9_commitWork 15 = .ok (.aload_n 0, 1) := by decide +kernel
theorem dX9_commitWork_16 : decode cX9_commitWork 16 = .ok (.getfield 16, 3) := by decide +kernel
theorem dX9_commitWork_19 : decode cX9_commitWork 19 = .ok (.invokevirtual 209, 3) := by decide +kernel
theorem dX9_commitWork_22 : decode cX9_commitWork 22 = .ok (.return_, 1) := by decide +kernel
theorem dX9_remember_0 : decode cX9_remember 0 = .ok (.aload_n 0, 1) := by decide +kernel
theorem dX9_remember_1 : decode cX9_remember 1 = .ok (.iload_n 1, 1) := by decide +kernel
theorem dX9_remember_2 : decode cX9_remember 2 = .ok (.putfield 65, 3) := by decide +kernel
theorem dX9_remember_5 : decode cX9_remember 5 = .ok (.aload_n 0, 1) := by decide +kernel
theorem dX9_remember_6 : decode cX9_remember 6 = .ok (.iload_n 2, 1) := by decide +kernel
theorem dX9_remember_7 : decode cX9_remember 7 = .ok (.putfield 68, 3) := by decide +kernel
theorem dX9_remember_10 : decode cX9_remember 10 = .ok (.bipush (-4), 2) := by decide +kernel
theorem dX9_remember_12 : decode cX9_remember 12 = .ok (.ireturn, 1) := by decide +kernel
theorem dX9_forgetContradiction_0 : decode cX9_forgetContradiction 0 = .ok (.aload_n 0, 1) := by decide +kernel
theorem dX9_forgetContradiction_1 : decode cX9_forgetContradiction 1 = .ok (.bipush (-8), 2) := by decide +kernel
theorem dX9_forgetContradiction_3 : decode cX9_forgetContradiction 3 = .ok (.putfield 65, 3) := by decide +kernel
theorem dX9_forgetContradiction_6 : decode cX9_forgetContradiction 6 = .ok (.aload_n 0, 1) := by decide +kernel
theorem dX9_forgetContradiction_7 : decode cX9_forgetContradiction 7 = .ok (.bipush (-8), 2) := by decide +kernel
theorem dX9_forgetContradiction_9 : decode cX9_forgetContradiction 9 = .ok (.putfield 68, 3) := by decide +kernel
theorem dX9_forgetContradiction_12 : decode cX9_forgetContradiction 12 = .ok (.return_, 1) := by decide +kernel
theorem dX9_parseText_0 : decode cX9_parseText 0 = .ok (.aload_n 0, 1) := by decide +kernel
theorem dX9_parseText_1 : decode cX9_parseText 1 = .ok (.getfield 86, 3) := by decide +kernel
theorem dX9_parseText_4 : decode cX9_parseText 4 = .ok (.invokevirtual 335, 3) := by decide +kernel
theorem dX9_parseText_7 : decode cX9_parseText 7 = .ok (.iconst 0, 1) := by decide +kernel
theorem dX9_parseText_8 : decode cX9_parseText 8 = .ok (.istore_n 1, 1) := by decide +kernel
theorem dX9_parseText_9 : decode cX9_parseText 9 = .ok (.iconst 0, 1) := by decide +kernel
theorem dX9_parseText_10 : decode cX9_parseText 10 = .ok (.istore_n 2, 1) := by decide +kernel
theorem dX9_parseText_11 : decode cX9_parseText 11 = .ok (.iconst 0, 1) := by decide +kernel
theorem dX9_parseText_12 : decode cX9_parseText 12 = .ok (.istore_n 3, 1) := by decide +kernel
theorem dX9_parseText_13 : decode cX9_parseText 13 = .ok (.iload_n 3, 1) := by decide +kernel
theorem dX9_parseText_14 : decode cX9_parseText 14 = .ok (.aload_n 0, 1) := by decide +kernel
theorem dX9_parseText_15 : decode cX9_parseText 15 = .ok (.getfield 76, 3) := by decide +kernel
theorem dX9_parseText_18 : decode cX9_parseText 18 = .ok (.getfield 284, 3) := by decide +kernel
theorem dX9_parseText_21 : decode cX9_parseText 21 = .ok (.if_icmp .ge 128, 3) := by decide +kernel
theorem dX9_parseText_24 : decode cX9_parseText 24 = .ok (.aload_n 0, 1) := by decide +kernel
theorem dX9_parseText_25 : decode cX9_parseText 25 = .ok (.getfield 76, 3) := by decide +kernel
theorem dX9_parseText_28 : decode cX9_parseText 28 = .ok (.getfield 296, 3) := by decide +kernel
theorem dX9_parseText_31 : decode cX9_parseText 31 = .ok (.iload_n 3, 1) := by decide +kernel
theorem dX9_parseText_32 : decode cX9_parseText 32 = .ok (.iaload, 1) := by decide +kernel
theorem dX9_parseText_33 : decode cX9_parseText 33 = .ok (.istore 4, 2) := by decide +kernel
theorem dX9_parseText_35 : decode cX9_parseText 35 = .ok (.iload_n 2, 1) := by decide +kernel
theorem dX9_parseText_36 : decode cX9_parseText 36 = .ok (.ifCond .le 49, 3) := by decide +kernel
theorem dX9_parseText_39 : decode cX9_parseText 39 = .ok (.iload 4, 2) := by decide +kernel
theorem dX9_parseText_41 : decode cX9_parseText 41 = .ok (.bipush 97, 2) := by decide +kernel
theorem dX9_parseText_43 : decode cX9_parseText 43 = .ok (.isub, 1) := by decide +kernel
theorem dX9_parseText_44 : decode cX9_parseText 44 = .ok (.iconst 1, 1) := by decide +kernel
theorem dX9_parseText_45 : decode cX9_parseText 45 = .ok (.iadd, 1) := by decide +kernel
theorem dX9_parseText_46 : decode cX9_parseText 46 = .ok (.istore 5, 2) := by decide +kernel
theorem dX9_parseText_48 : decode cX9_parseText 48 = .ok (.iload 5, 2) := by decide +kernel
theorem dX9_parseText_50 : decode cX9_parseText 50 = .ok (.iconst 1, 1) := by decide +kernel
theorem dX9_parseText_51 : decode cX9_parseText 51 = .ok (.aload_n 0, 1) := by decide +kernel
theorem dX9_parseText_52 : decode cX9_parseText 52 = .ok (.getfield 12, 3) := by decide +kernel
theorem dX9_parseText_55 : decode cX9_parseText 55 = .ok (.getfield 121, 3) := by decide +kernel
theorem dX9_parseText_58 : decode cX9_parseText 58 = .ok (.invokestatic 101, 3) := by decide +kernel
theorem dX9_parseText_61 : decode cX9_parseText 61 = .ok (.ifCond .ne 8, 3) := by decide +kernel
theorem dX9_parseText_64 : decode cX9_parseText 64 = .ok (.bipush (-100), 2) := by decide +kernel
theorem dX9_parseText_66 : decode cX9_parseText 66 = .ok (.iload_n 3, 1) := by decide +kernel
theorem dX9_parseText_67 : decode cX9_parseText 67 = .ok (.isub, 1) := by decide +kernel
theorem dX9_parseText_68 : decode cX9_parseText 68 = .ok (.ireturn, 1) := by decide +kernel
theorem dX9_parseText_69 : decode cX9_parseText 69 = .ok (.aload_n 0, 1) := by decide +kernel
theorem dX9_parseText_70 : decode cX9_parseText 70 = .ok (.getfield 86, 3) := by decide +kernel
theorem dX9_parseText_73 : decode cX9_parseText 73 = .ok (.iload_n 1, 1) := by decide +kernel
theorem dX9_parseText_74 : decode cX9_parseText 74 = .ok (.iload_n 2, 1) := by decide +kernel
theorem dX9_parseText_75 : decode cX9_parseText 75 = .ok (.iload 5, 2) := by decide +kernel
theorem dX9_parseText_77 : decode cX9_parseText 77 = .ok (.invokevirtual 138, 3) := by decide +kernel
theorem dX9_parseText_80 : decode cX9_parseText 80 = .ok (.iconst 0, 1) := by decide +kernel
theorem dX9_parseText_81 : decode cX9_parseText 81 = .ok (.istore_n 2, 1) := by decide +kernel
theorem dX9_parseText_82 : decode cX9_parseText 82 = .ok (.goto 61, 3) := by decide +kernel
theorem dX9_parseText_85 : decode cX9_parseText 85 = .ok (.iload 4, 2) := by decide +kernel
theorem dX9_parseText_87 : decode cX9_parseText 87 = .ok (.bipush 47, 2) := by decide +kernel
theorem dX9_parseText_89 : decode cX9_parseText 89 = .ok (.if_icmp .ne 22, 3) := by decide +kernel
theorem dX9_parseText_92 : decode cX9_parseText 92 = .ok (.iinc 1 1, 3) := by decide +kernel
theorem dX9_parseText_95 : decode cX9_parseText 95 = .ok (.aload_n 0, 1) := by decide +kernel
theorem dX9_parseText_96 : decode cX9_parseText 96 = .ok (.getfield 12, 3) := by decide +kernel
theorem dX9_parseText_99 : decode cX9_parseText 99 = .ok (.iload_n 1, 1) := by decide +kernel
theorem dX9_parseText_100 : decode cX9_parseText 100 = .ok (.invokevirtual 124, 3) := by decide +kernel
theorem dX9_parseText_103 : decode cX9_parseText 103 = .ok (.ifCond .ne 40, 3) := by decide +kernel
theorem dX9_parseText_106 : decode cX9_parseText 106 = .ok (.bipush (-100), 2) := by decide +kernel
theorem dX9_parseText_108 : decode cX9_parseText 108 = .ok (.iload_n 3, 1) := by decide +kernel
theorem dX9_parseText_109 : decode cX9_parseText 109 = .ok (.isub, 1) := by decide +kernel
theorem dX9_parseText_110 : decode cX9_parseText 110 = .ok (.ireturn, 1) := by decide +kernel
theorem dX9_parseText_111 : decode cX9_parseText 111 = .ok (.iload 4, 2) := by decide +kernel
theorem dX9_parseText_113 : decode cX9_parseText 113 = .ok (.bipush 48, 2) := by decide +kernel
theorem dX9_parseText_115 : decode cX9_parseText 115 = .ok (.isub, 1) := by decide +kernel
theorem dX9_parseText_116 : decode cX9_parseText 116 = .ok (.istore_n 2, 1) := by decide +kernel
theorem dX9_parseText_117 : decode cX9_parseText 117 = .ok (.iload_n 2, 1) := by decide +kernel
theorem dX9_parseText_118 : decode cX9_parseText 118 = .ok (.iconst 1, 1) := by decide +kernel
theorem dX9_parseText_119 : decode cX9_parseText 119 = .ok (.bipush 8, 2) := by decide +kernel
theorem dX9_parseText_121 : decode cX9_parseText 121 = .ok (.invokestatic 101, 3) := by decide +kernel
theorem dX9_parseText_124 : decode cX9_parseText 124 = .ok (.ifCond .eq 14, 3) := by decide +kernel
theorem dX9_parseText_127 : decode cX9_parseText 127 = .ok (.aload_n 0, 1) := by decide +kernel
theorem dX9_parseText_128 : decode cX9_parseText 128 = .ok (.getfield 86, 3) := by decide +kernel
theorem dX9_parseText_131 : decode cX9_parseText 131 = .ok (.iload_n 1, 1) := by decide +kernel
theorem dX9_parseText_132 : decode cX9_parseText 132 = .ok (.invokevirtual 131, 3) := by decide +kernel
theorem dX9_parseText_135 : decode cX9_parseText 135 = .ok (.ifCond .eq 8, 3) := by decide +kernel
theorem dX9_parseText_138 : decode cX9_parseText 138 = .ok (.bipush (-100), 2) := by decide +kernel
theorem dX9_parseText_140 : decode cX9_parseText 140 = .ok (.iload_n 3, 1) := by decide +kernel
theorem dX9_parseText_141 : decode cX9_parseText 141 = .ok (.isub, 1) := by decide +kernel
theorem dX9_parseText_142 : decode cX9_parseText 142 = .ok (.ireturn, 1) := by decide +kernel
theorem dX9_parseText_143 : decode cX9_parseText 143 = .ok (.iinc 3 1, 3) := by decide +kernel
theorem dX9_parseText_146 : decode cX9_parseText 146 = .ok (.goto (-133), 3) := by decide +kernel
theorem dX9_parseText_149 : decode cX9_parseText 149 = .ok (.iload_n 2, 1) := by decide +kernel
theorem dX9_parseText_150 : decode cX9_parseText 150 = .ok (.ifCond .ne 20, 3) := by decide +kernel
theorem dX9_parseText_153 : decode cX9_parseText 153 = .ok (.iload_n 1, 1) := by decide +kernel
theorem dX9_parseText_154 : decode cX9_parseText 154 = .ok (.aload_n 0, 1) := by decide +kernel
theorem dX9_parseText_155 : decode cX9_parseText 155 = .ok (.getfield 12, 3) := by decide +kernel
theorem dX9_parseText_158 : decode cX9_parseText 158 = .ok (.invokevirtual 111, 3) := by decide +kernel
theorem dX9_parseText_161 : decode cX9_parseText 161 = .ok (.iconst 1, 1) := by decide +kernel
theorem dX9_parseText_162 : decode cX9_parseText 162 = .ok (.isub, 1) := by decide +kernel
theorem dX9_parseText_163 : decode cX9_parseText 163 = .ok (.if_icmp .ne 7, 3) := by decide +kernel
theorem dX9_parseText_166 : decode cX9_parseText 166 = .ok (.iconst 1, 1) := by decide +kernel
theorem dX9_parseText_167 : decode cX9_parseText 167 = .ok (.goto 4, 3) := by decide +kernel
theorem dX9_parseText_170 : decode cX9_parseText 170 = .ok (.iconst 0, 1) := by decide +kernel
theorem dX9_parseText_171 : decode cX9_parseText 171 = .ok (.istore_n 3, 1) := by decide +kernel
theorem dX9_parseText_172 : decode cX9_parseText 172 = .ok (.iload_n 3, 1) := by decide +kernel
theorem dX9_parseText_173 : decode cX9_parseText 173 = .ok (.ifCond .eq 13, 3) := by decide +kernel
theorem dX9_parseText_176 : decode cX9_parseText 176 = .ok (.aload_n 0, 1) := by decide +kernel
theorem dX9_parseText_177 : decode cX9_parseText 177 = .ok (.getfield 86, 3) := by decide +kernel
theorem dX9_parseText_180 : decode cX9_parseText 180 = .ok (.invokevirtual 272, 3) := by decide +kernel
theorem dX9_parseText_183 : decode cX9_parseText 183 = .ok (.goto 13, 3) := by decide +kernel
theorem dX9_parseText_186 : decode cX9_parseText 186 = .ok (.bipush (-100), 2) := by decide +kernel
theorem dX9_parseText_188 : decode cX9_parseText 188 = .ok (.aload_n 0, 1) := by decide +kernel
theorem dX9_parseText_189 : decode cX9_parseText 189 = .ok (.getfield 76, 3) := by decide +kernel
theorem dX9_parseText_192 : decode cX9_parseText 192 = .ok (.getfield 284, 3) := by decide +kernel
theorem dX9_parseText_195 : decode cX9_parseText 195 = .ok (.isub, 1) := by decide +kernel
theorem dX9_parseText_196 : decode cX9_parseText 196 = .ok (.ireturn, 1) := by decide +kernel
