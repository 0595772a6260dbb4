theorem dX10_fails_9 : decode cX10_fails 9 = .ok (.getfield 22, 3) := by decide +kernel
theorem dX10_fails_12 : decode cX10_fails 12 = .ok (.sipush 128, 3) := by decide +kernel
theorem dX10_fails_15 : decode cX10_fails 15 = .ok (.iload_n 2, 1) := by decide +kernel
theorem dX10_fails_16 : decode cX10_fails 16 = .ok (.iadd, 1) := by decide +kernel
theorem dX10_fails_17 : decode cX10_fails 17 = .ok (.iconst 1, 1) := by decide +kernel
theorem dX10_fails_18 : decode cX10_fails 18 = .ok (.iload_n 3, 1) := by decide +kernel
theorem dX10_fails_19 : decode cX10_fails 19 = .ok (.ishl, 1) := by decide +kernel
theorem dX10_fails_20 : decode cX10_fails 20 = .ok (.iastore, 1) := by decide +kernel
theorem dX10_fails_21 : decode cX10_fails 21 = .ok (.aload_n 0, 1) := by decide +kernel
theorem dX10_fails_22 : decode cX10_fails 22 = .ok (.sipush 128, 3) := by decide +kernel
theorem dX10_fails_25 : decode cX10_fails 25 = .ok (.invokevirtual 239, 3) := by decide +kernel
theorem dX10_fails_28 : decode cX10_fails 28 = .ok (.ifCond .ge 7, 3) := by decide +kernel
theorem dX10_fails_31 : decode cX10_fails 31 = .ok (.iconst 1, 1) := by decide +kernel
theorem dX10_fails_32 : decode cX10_fails 32 = .ok (.goto 4, 3) := by decide +kernel
theorem dX10_fails_35 : decode cX10_fails 35 = .ok (.iconst 0, 1) := by decide +kernel
theorem dX10_fails_36 : decode cX10_fails 36 = .ok (.ireturn, 1) := by decide +kernel
theorem dX10_probe_0 : decode cX10_probe 0 = .ok (.aload_n 0, 1) := by decide +kernel
theorem dX10_probe_1 : decode cX10_probe 1 = .ok (.iload_n 1, 1) := by decide +kernel
theorem dX10_probe_2 : decode cX10_probe 2 = .ok (.iload_n 2, 1) := by decide +kernel
theorem dX10_probe_3 : decode cX10_probe 3 = .ok (.invokevirtual 195, 3) := by decide +kernel
theorem dX10_probe_6 : decode cX10_probe 6 = .ok (.ifCond .ne 5, 3) := by decide +kernel
theorem dX10_probe_9 : decode cX10_probe 9 = .ok (.iconst (-1), 1) := by decide +kernel
theorem dX10_probe_10 : decode cX10_probe 10 = .ok (.ireturn, 1) := by decide +kernel
theorem dX10_probe_11 : decode cX10_probe 11 = .ok (.aload_n 0, 1) := by decide +kernel
theorem dX10_probe_12 : decode cX10_probe 12 = .ok (.iload_n 3, 1) := by decide +kernel
theorem dX10_probe_13 : decode cX10_probe 13 = .ok (.invokevirtual 205, 3) := by decide +kernel
theorem dX10_probe_16 : decode cX10_probe 16 = .ok (.ifCond .ne 6, 3) := by decide +kernel
theorem dX10_probe_19 : decode cX10_probe 19 = .ok (.bipush (-2), 2) := by decide +kernel
theorem dX10_probe_21 : decode cX10_probe 21 = .ok (.ireturn, 1) := by decide +kernel
theorem dX10_probe_22 : decode cX10_probe 22 = .ok (.aload_n 0, 1) := by decide +kernel
theorem dX10_probe_23 : decode cX10_probe 23 = .ok (.getfield 22, 3) := by decide +kernel
theorem dX10_probe_26 : decode cX10_probe 26 = .ok (.bipush 8, 2) := by decide +kernel
theorem dX10_probe_28 : decode cX10_probe 28 = .ok (.iload_n 1, 1) := by decide +kernel
theorem dX10_probe_29 : decode cX10_probe 29 = .ok (.imul, 1) := by decide +kernel
theorem dX10_probe_30 : decode cX10_probe 30 = .ok (.iload_n 2, 1) := by decide +kernel
theorem dX10_probe_31 : decode cX10_probe 31 = .ok (.iadd, 1) := by decide +kernel
theorem dX10_probe_32 : decode cX10_probe 32 = .ok (.iaload, 1) := by decide +kernel
theorem dX10_probe_33 : decode cX10_probe 33 = .ok (.istore 4, 2) := by decide +kernel
theorem dX10_probe_35 : decode cX10_probe 35 = .ok (.iload 4, 2) := by decide +kernel
theorem dX10_probe_37 : decode cX10_probe 37 = .ok (.iload_n 3, 1) := by decide +kernel
theorem dX10_probe_38 : decode cX10_probe 38 = .ok (.ishr, 1) := by decide +kernel
theorem dX10_probe_39 : decode cX10_probe 39 = .ok (.iconst 1, 1) := by decide +kernel
theorem dX10_probe_40 : decode cX10_probe 40 = .ok (.iand, 1) := by decide +kernel
theorem dX10_probe_41 : decode cX10_probe 41 = .ok (.ifCond .eq 11, 3) := by decide +kernel
theorem dX10_probe_44 : decode cX10_probe 44 = .ok (.iload 4, 2) := by decide +kernel
theorem dX10_probe_46 : decode cX10_probe 46 = .ok (.iconst 1, 1) := by decide +kernel
theorem dX10_probe_47 : decode cX10_probe 47 = .ok (.iload_n 3, 1) := by decide +kernel
theorem dX10_probe_48 : decode cX10_probe 48 = .ok (.ishl, 1) := by decide +kernel
theorem dX10_probe_49 : decode cX10_probe 49 = .ok (.if_icmp .ne 6, 3) := by decide +kernel
theorem dX10_probe_52 : decode cX10_probe 52 = .ok (.bipush (-5), 2) := by decide +kernel
theorem dX10_probe_54 : decode cX10_probe 54 = .ok (.ireturn, 1) := by decide +kernel
theorem dX10_probe_55 : decode cX10_probe 55 = .ok (.aload_n 0, 1) := by decide +kernel
theorem dX10_probe_56 : decode cX10_probe 56 = .ok (.iconst 0, 1) := by decide +kernel
theorem dX10_probe_57 : decode cX10_probe 57 = .ok (.bipush 8, 2) := by decide +kernel
theorem dX10_probe_59 : decode cX10_probe 59 = .ok (.iload_n 1, 1) := by decide +kernel
theorem dX10_probe_60 : decode cX10_probe 60 = .ok (.imul, 1) := by decide +kernel
theorem dX10_probe_61 : decode cX10_probe 61 = .ok (.iload_n 2, 1) := by decide +kernel
theorem dX10_probe_62 : decode cX10_probe 62 = .ok (.iadd, 1) := by decide +kernel
theorem dX10_probe_63 : decode cX10_probe 63 = .ok (.iload_n 3, 1) := by decide +kernel
theorem dX10_probe_64 : decode cX10_probe 64 = .ok (.invokevirtual 242, 3) := by decide +kernel
theorem dX10_probe_67 : decode cX10_probe 67 = .ok (.ifCond .eq 7, 3) := by decide +kernel
theorem dX10_probe_70 : decode cX10_probe 70 = .ok (.iconst 1, 1) := by decide +kernel
theorem dX10_probe_71 : decode cX10_probe 71 = .ok (.goto 4, 3) := by decide +kernel
theorem dX10_probe_74 : decode cX10_probe 74 = .ok (.iconst 0, 1) := by decide +kernel
theorem dX10_probe_75 : decode cX10_probe 75 = .ok (.ireturn, 1) := by decide +kernel
theorem dX10_probeRound_0 : decode cX10_probeRound 0 = .ok (.iconst 0, 1) := by decide +kernel
theorem dX10_probeRound_1 : decode cX10_probeRound 1 = .ok (.istore_n 1, 1) := by decide +kernel
theorem dX10_probeRound_2 : decode cX10_probeRound 2 = .ok (.iload_n 1, 1) := by decide +kernel
theorem dX10_probeRound_3 : decode cX10_probeRound 3 = .ok (.bipush 64, 2) := by decide +kernel
theorem dX10_probeRound_5 : decode cX10_probeRound 5 = .ok (.if_icmp .ge 141, 3) := by decide +kernel
theorem dX10_probeRound_8 : decode cX10_probeRound 8 = .ok (.iload_n 1, 1) := by decide +kernel
theorem dX10_probeRound_9 : decode cX10_probeRound 9 = .ok (.bipush 8, 2) := by decide +kernel
theorem dX10_probeRound_11 : decode cX10_probeRound 11 = .ok (.idiv, 1) := by decide +kernel
theorem dX10_probeRound_12 : decode cX10_probeRound 12 = .ok (.aload_n 0, 1) := by decide +kernel
theorem dX10_probeRound_13 : decode cX10_probeRound 13 = .ok (.getfield 7, 3) := by decide +kernel
theorem dX10_probeRound_16 : decode cX10_probeRound 16 = .ok (.if_icmp .ge 124, 3) := by decide +kernel
theorem dX10_probeRound_19 : decode cX10_probeRound 19 = .ok (.iload_n 1, 1) := by decide +kernel
theorem dX10_probeRound_20 : decode cX10_probeRound 20 = .ok (.bipush 8, 2) := by decide +kernel
theorem dX10_probeRound_22 : decode cX10_probeRound 22 = .ok (.irem, 1) := by decide +kernel
theorem dX10_probeRound_23 : decode cX10_probeRound 23 = .ok (.aload_n 0, 1) := by decide +kernel
theorem dX10_probeRound_24 : decode cX10_probeRound 24 = .ok (.getfield 13, 3) := by decide +kernel
theorem dX10_probeRound_27 : decode cX10_probeRound 27 = .ok (.if_icmp .lt 6, 3) := by decide +kernel
theorem dX10_probeRound_30 : decode cX10_probeRound 30 = .ok (.goto 110, 3) := by decide +kernel
theorem dX10_probeRound_33 : decode cX10_probeRound 33 = .ok (.aload_n 0, 1) := by decide +kernel
theorem dX10_probeRound_34 : decode cX10_probeRound 34 = .ok (.getfield 22, 3) := by decide +kernel
theorem dX10_probeRound_37 : decode cX10_probeRound 37 = .ok (.bipush 64, 2) := by decide +kernel
theorem dX10_probeRound_39 : decode cX10_probeRound 39 = .ok (.iload_n 1, 1) := by decide +kernel
theorem dX10_probeRound_40 : decode cX10_probeRound 40 = .ok (.iadd, 1) := by decide +kernel
theorem dX10_probeRound_41 : decode cX10_probeRound 41 = .ok (.iaload, 1) := by decide +kernel
theorem dX10_probeRound_42 : decode cX10_probeRound 42 = .ok (.istore_n 2, 1) := by decide +kernel
theorem dX10_probeRound_43 : decode cX10_probeRound 43 = .ok (.iconst 0, 1) := by decide +kernel
theorem dX10_probeRound_44 : decode cX10_probeRound 44 = .ok (.istore_n 3, 1) := by decide +kernel
theorem dX10_probeRound_45 : decode cX10_probeRound 45 = .ok (.iload_n 3, 1) := by decide +kernel
theorem dX10_probeRound_46 : decode cX10_probeRound 46 = .ok (.aload_n 0, 1) := by decide +kernel
theorem dX10_probeRound_47 : decode cX10_probeRound 47 = .ok (.getfield 16, 3) := by decide +kernel
theorem dX10_probeRound_50 : decode cX10_probeRound 50 = .ok (.if_icmp .gt 90, 3) := by decide +kernel
theorem dX10_probeRound_53 : decode cX10_probeRound 53 = .ok (.iload_n 2, 1) := by decide +kernel
theorem dX10_probeRound_54 : decode cX10_probeRound 54 = .ok (.aload_n 0, 1) := by decide +kernel
theorem dX10_probeRound_55 : decode cX10_probeRound 55 = .ok (.getfield 22, 3) := by decide +kernel
theorem dX10_probeRound_58 : decode cX10_probeRound 58 = .ok (.bipush 64, 2) := by decide +kernel
theorem dX10_probeRound_60 : decode cX10_probeRound 60 = .ok (.iload_n 1, 1) := by decide +kernel
theorem dX10_probeRound_61 : decode cX10_probeRound 61 = .ok (.iadd, 1) := by decide +kernel
theorem dX10_probeRound_62 : decode cX10_probeRound 62 = .ok (.iaload, 1) := by decide +kernel
theorem dX10_probeRound_63 : decode cX10_probeRound 63 = .ok (.iand, 1) := by decide +kernel
theorem dX10_probeRound_64 : decode cX10_probeRound 64 = .ok (.iconst 1, 1) := by decide +kernel
theorem dX10_probeRound_65 : decode cX10_probeRound 65 = .ok (.iload_n 3, 1) := by decide +kernel
theorem dX10_probeRound_66 : decode cX10_probeRound 66 = .ok (.ishl, 1) := by decide +kernel
theorem dX10_probeRound_67 : decode cX10_probeRound 67 = .ok (.iand, 1) := by decide +kernel
theorem dX10_probeRound_68 : decode cX10_probeRound 68 = .ok (.ifCond .eq 66, 3) := by decide +kernel
theorem dX10_probeRound_71 : decode cX10_probeRound 71 = .ok (.aload_n 0, 1) := by decide +kernel
theorem dX10_probeRound_72 : decode cX10_probeRound 72 = .ok (.bipush 64, 2) := by decide +kernel
theorem dX10_probeRound_74 : decode cX10_probeRound 74 = .ok (.iload_n 1, 1) := by decide +kernel
theorem dX10_probeRound_75 : decode cX10_probeRound 75 = .ok (.iadd, 1) := by decide +kernel
theorem dX10_probeRound_76 : decode cX10_probeRound 76 = .ok (.invokevirtual 198, 3) := by decide +kernel
theorem dX10_probeRound_79 : decode cX10_probeRound 79 = .ok (.ifCond .ne 55, 3) := by decide +kernel
theorem dX10_probeRound_82 : decode cX10_probeRound 82 = .ok (.aload_n 0, 1) := by decide +kernel
theorem dX10_probeRound_83 : decode cX10_probeRound 83 = .ok (.bipush 64, 2) := by decide +kernel
theorem dX10_probeRound_85 : decode cX10_probeRound 85 = .ok (.iload_n 1, 1) := by decide +kernel
theorem dX10_probeRound_86 : decode cX10_probeRound 86 = .ok (.iload_n 3, 1) := by decide +kernel
theorem dX10_probeRound_87 : decode cX10_probeRound 87 = .ok (.invokevirtual 242, 3) := by decide +kernel
theorem dX10_probeRound_90 : decode cX10_probeRound 90 = .ok (.ifCond .ne 6, 3) := by decide +kernel
theorem dX10_probeRound_93 : decode cX10_probeRound 93 = .ok (.goto 41, 3) := by decide +kernel
theorem dX10_probeRound_96 : decode cX10_probeRound 96 = .ok (.aload_n 0, 1) := by decide +kernel
theorem dX10_probeRound_97 : decode cX10_probeRound 97 = .ok (.dup, 1) := by decide +kernel
theorem dX10_probeRound_98 : decode cX10_probeRound 98 = .ok (.getfield 86, 3) := by decide +kernel
theorem dX10_probeRound_101 : decode cX10_probeRound 101 = .ok (.iconst 1, 1) := by decide +kernel
theorem dX10_probeRound_102 : decode cX10_probeRound 102 = .ok (.iadd, 1) := by decide +kernel
theorem dX10_probeRound_103 : decode cX10_probeRound 103 = .ok (.putfield 86, 3) := by decide +kernel
theorem dX10_probeRound_106 : decode cX10_probeRound 106 = .ok (.aload_n 0, 1) := by decide +kernel
theorem dX10_probeRound_107 : decode cX10_probeRound 107 = .ok (.getfield 22, 3) := by decide +kernel
theorem dX10_probeRound_110 : decode cX10_probeRound 110 = .ok (.bipush 64, 2) := by decide +kernel
theorem dX10_probeRound_112 : decode cX10_probeRound 112 = .ok (.iload_n 1, 1) := by decide +kernel
theorem dX10_probeRound_113 : decode cX10_probeRound 113 = .ok (.iadd, 1) := by decide +kernel
theorem dX10_probeRound_114 : decode cX10_probeRound 114 = .ok (.dup2, 1) := by decide +kernel
theorem dX10_probeRound_115 : decode cX10_probeRound 115 = .ok (.iaload, 1) := by decide +kernel
theorem dX10_probeRound_116 : decode cX10_probeRound 116 = .ok (.iconst 1, 1) := by decide +kernel
theorem dX10_probeRound_117 : decode cX10_probeRound 117 = .ok (.iload_n 3, 1) := by decide +kernel
theorem dX10_probeRound_118 : decode cX10_probeRound 118 = .ok (.ishl, 1) := by decide +kernel
theorem dX10_probeRound_119 : decode cX10_probeRound 119 = .ok (.iconst (-1), 1) := by decide +kernel
theorem dX10_probeRound_120 : decode cX10_probeRound 120 = .ok (.ixor, 1) := by decide +kernel
theorem dX10_probeRound_121 : decode cX10_probeRound 121 = .ok (.iand, 1) := by decide +kernel
theorem dX10_probeRound_122 : decode cX10_probeRound 122 = .ok (.iastore, 1) := by decide +kernel
theorem dX10_probeRound_123 : decode cX10_probeRound 123 = .ok (.aload_n 0, 1) := by decide +kernel
theorem dX10_probeRound_124 : decode cX10_probeRound 124 = .ok (.bipush 64, 2) := by decide +kernel
theorem dX10_probeRound_126 : decode cX10_probeRound 126 = .ok (.invokevirtual 239, 3) := by decide +kernel
theorem dX10_probeRound_129 : decode cX10_probeRound 129 = .ok (.ifCond .ge 5, 3) := by decide +kernel
theorem dX10_probeRound_132 : decode cX10_probeRound 132 = .ok (.iconst 0, 1) := by decide +kernel
theorem dX10_probeRound_133 : decode cX10_probeRound 133 = .ok (.ireturn, 1) := by decide +kernel
theorem dX10_probeRound_134 : decode cX10_probeRound 134 = .ok (.iinc 3 1, 3) := by decide +kernel
theorem dX10_probeRound_137 : decode cX10_probeRound 137 = .ok (.goto (-92), 3) := by decide +kernel
theorem dX10_probeRound_140 : decode cX10_probeRound 140 = .ok (.iinc 1 1, 3) := by decide +kernel
theorem dX10_probeRound_143 : decode cX10_probeRound 143 = .ok (.goto (-141), 3) := by decide +kernel
theorem dX10_probeRound_146 : decode cX10_probeRound 146 = .ok (.iconst 1, 1) := by decide +kernel
theorem dX10_probeRound_147 : decode cX10_probeRound 147 = .ok (.ireturn, 1) := by decide +kernel
theorem dX10_probeAll_0 : decode cX10_probeAll 0 = .ok (.aload_n 0, 1) := by decide +kernel
theorem dX10_probeAll_1 : decode cX10_probeAll 1 = .ok (.iconst 0, 1) := by decide +kernel
theorem dX10_probeAll_2 : decode cX10_probeAll 2 = .ok (.bipush 64, 2) := by decide +kernel
theorem dX10_probeAll_4 : decode cX10_probeAll 4 = .ok (.invokevirtual 230, 3) := by decide +kernel
theorem dX10_probeAll_7 : decode cX10_probeAll 7 = .ok (.aload_n 0, 1) := by decide +kernel
theorem dX10_probeAll_8 : decode cX10_probeAll 8 = .ok (.iconst 0, 1) := by decide +kernel
theorem dX10_probeAll_9 : decode cX10_probeAll 9 = .ok (.putfield 86, 3) := by decide +kernel
theorem dX10_probeAll_12 : decode cX10_probeAll 12 = .ok (.aload_n 0, 1) := by decide +kernel
theorem dX10_probeAll_13 : decode cX10_probeAll 13 = .ok (.bipush 64, 2) := by decide +kernel
theorem dX10_probeAll_15 : decode cX10_probeAll 15 = .ok (.invokevirtual 239, 3) := by decide +kernel
theorem dX10_probeAll_18 : decode cX10_probeAll 18 = .ok (.ifCond .ge 13, 3) := by decide +kernel
theorem dX10_probeAll_21 : decode cX10_probeAll 21 = .ok (.aload_n 0, 1) := by decide +kernel
theorem dX10_probeAll_22 : decode cX10_probeAll 22 = .ok (.aload_n 0, 1) := by decide +kernel
theorem dX10_probeAll_23 : decode cX10_probeAll 23 = .ok (.getfield 83, 3) := by decide +kernel
theorem dX10_probeAll_26 : decode cX10_probeAll 26 = .ok (.iconst 0, 1) := by decide +kernel
theorem dX10_probeAll_27 : decode cX10_probeAll 27 = .ok (.invokevirtual 233, 3) := by decide +kernel
theorem dX10_probeAll_30 : decode cX10_probeAll 30 = .ok (.ireturn, 1) := by decide +kernel
theorem dX10_probeAll_31 : decode cX10_probeAll 31 = .ok (.iconst (-1), 1) := by decide +kernel
theorem dX10_probeAll_32 : decode cX10_probeAll 32 = .ok (.istore_n 1, 1) := by decide +kernel
theorem dX10_probeAll_33 : decode cX10_probeAll 33 = .ok (.iload_n 1, 1) := by decide +kernel
theorem dX10_probeAll_34 : decode cX10_probeAll 34 = .ok (.aload_n 0, 1) := by decide +kernel
theorem dX10_probeAll_35 : decode cX10_probeAll 35 = .ok (.getfield 86, 3) := by decide +kernel
theorem dX10_probeAll_38 : decode cX10_probeAll 38 = .ok (.if_icmp .ge 28, 3) := by decide +kernel
theorem dX10_probeAll_41 : decode cX10_probeAll 41 = .ok (.aload_n 0, 1) := by decide +kernel
theorem dX10_probeAll_42 : decode cX10_probeAll 42 = .ok (.getfield 86, 3) := by decide +kernel
theorem dX10_probeAll_45 : decode cX10_probeAll 45 = .ok (.istore_n 1, 1) := by decide +kernel
theorem dX10_probeAll_46 : decode cX10_probeAll 46 = .ok (.aload_n 0, 1) := by decide +kernel
theorem dX10_probeAll_47 : decode cX10_probeAll 47 = .ok (.invokevirtual 245, 3) := by decide +kernel
theorem dX10_probeAll_50 : decode cX10_probeAll 50 = .ok (.ifCond .ne (-17), 3) := by decide +kernel
theorem dX10_probeAll_53 : decode cX10_probeAll 53 = .ok (.aload_n 0, 1) := by decide +kernel
theorem dX10_probeAll_54 : decode cX10_probeAll 54 = .ok (.aload_n 0, 1) := by decide +kernel
theorem dX10_probeAll_55 : decode cX10_probeAll 55 = .ok (.getfield 83, 3) := by decide +kernel
theorem dX10_probeAll_58 : decode cX10_probeAll 58 = .ok (.aload_n 0, 1) := by decide +kernel
theorem dX10_probeAll_59 : decode cX10_probeAll 59 = .ok (.getfield 86, 3) := by decide +kernel
theorem dX10_probeAll_62 : decode cX10_probeAll 62 = .ok (.invokevirtual 233, 3) := by decide +kernel
theorem dX10_probeAll_65 : decode cX10_probeAll 65 = .ok (.ireturn, 1) := by decide +kernel
theorem dX10_probeAll_66 : decode cX10_probeAll 66 = .ok (.aload_n 0, 1) := by decide +kernel
theorem dX10_probeAll_67 : decode cX10_probeAll 67 = .ok (.aload_n 0, 1) := by decide +kernel
theorem dX10_probeAll_68 : decode cX10_probeAll 68 = .ok (.getfield 86, 3) := by decide +kernel
theorem dX10_probeAll_71 : decode cX10_probeAll 71 = .ok (.invokevirtual 236, 3) := by decide +kernel
theorem dX10_probeAll_74 : decode cX10_probeAll 74 = .ok (.ireturn, 1) := by decide +kernel
theorem dX10_contradictionLine_0 : decode cX10_contradictionLine 0 = .ok (.aload_n 0, 1) := by decide +kernel
theorem dX10_contradictionLine_1 : decode cX10_contradictionLine 1 = .ok (.getfield 50, 3) := by decide +kernel
theorem dX10_contradictionLine_4 : decode cX10_contradictionLine 4 = .ok (.ifCond .ge 8, 3) := by decide +kernel
theorem dX10_contradictionLine_7 : decode cX10_contradictionLine 7 = .ok (.bipush (-8), 2) := by decide +kernel
theorem dX10_contradictionLine_9 : decode cX10_contradictionLine 9 = .ok (.goto 7, 3) := by decide +kernel
theorem dX10_contradictionLine_12 : decode cX10_contradictionLine 12 = .ok (.aload_n 0, 1) := by decide +kernel
theorem dX10_contradictionLine_13 : decode cX10_contradictionLine 13 = .ok (.getfield 50, 3) := by decide +kernel
theorem dX10_contradictionLine_16 : decode cX10_contradictionLine 16 = .ok (.ireturn, 1) := by decide +kernel
theorem dX10_contradictionDepth_0 : decode cX10_contradictionDepth 0 = .ok (.aload_n 0, 1) := by decide +kernel
theorem dX10_contradictionDepth_1 : decode cX10_contradictionDepth 1 = .ok (.getfield 50, 3) := by decide +kernel
theorem dX10_contradictionDepth_4 : decode cX10_contradictionDepth 4 = .ok (.ifCond .ge 8, 3) := by decide +kernel
theorem dX10_contradictionDepth_7 : decode cX10_contradictionDepth 7 = .ok (.bipush (-8), 2) := by decide +kernel
theorem dX10_contradictionDepth_9 : decode cX10_contradictionDepth 9 = .ok (.goto 7, 3) := by decide +kernel
theorem dX10_contradictionDepth_12 : decode cX10_contradictionDepth 12 = .ok (.aload_n 0, 1) := by decide +kernel
theorem dX10_contradictionDepth_13 : decode cX10_contradictionDepth 13 = .ok (.getfield 53, 3) := by decide +kernel
theorem dX10_contradictionDepth_16 : decode cX10_contradictionDepth 16 = .ok (.ireturn, 1) := by decide +kernel
theorem dX10_setRule_0 : decode cX10_setRule 0 = .ok (.aload_n 0, 1) := by decide +kernel
theorem dX10_setRule_1 : decode cX10_setRule 1 = .ok (.iload_n 1, 1) := by decide +kernel
theorem dX10_setRule_2 : decode cX10_setRule 2 = .ok (.iconst 0, 1) := by decide +kernel
theorem dX10_setRule_3 : decode cX10_setRule 3 = .ok (.iconst 2, 1) := by decide +kernel
theorem dX10_setRule_4 : decode cX10_setRule 4 = .ok (.invokevirtual 172, 3) := by decide +kernel
theorem dX10_setRule_7 : decode cX10_setRule 7 = .ok (.ifCond .ne 6, 3) := by decide +kernel
theorem dX10_setRule_10 : decode cX10_setRule 10 = .ok (.bipush (-2), 2) := by decide +kernel
theorem dX10_setRule_12 : decode cX10_setRule 12 = .ok (.ireturn, 1) := by decide +kernel
theorem dX10_setRule_13 : decode cX10_setRule 13 = .ok (.aload_n 0, 1) := by decide +kernel
theorem dX10_setRule_14 : decode cX10_setRule 14 = .ok (.getfield 19, 3) := by decide +kernel
theorem dX10_setRule_17 : decode cX10_setRule 17 = .ok (.istore_n 2, 1) := by decide +kernel
theorem dX10_setRule_18 : decode cX10_setRule 18 = .ok (.aload_n 0, 1) := by decide +kernel
theorem dX10_setRule_19 : decode cX10_setRule 19 = .ok (.iload_n 1, 1) := by decide +kernel
theorem dX10_setRule_20 : decode cX10_setRule 20 = .ok (.putfield 19, 3) := by decide +kernel
theorem dX10_setRule_23 : decode cX10_setRule 23 = .ok (.iload_n 2, 1) := by decide +kernel
theorem dX10_setRule_24 : decode cX10_setRule 24 = .ok (.ireturn, 1) := by decide +kernel
theorem dX10_rank_0 : decode cX10_rank 0 = .ok (.aload_n 0, 1) := by decide +kernel
theorem dX10_rank_1 : decode cX10_rank 1 = .ok (.getfield 19, 3) := by decide +kernel
theorem dX10_rank_4 : decode cX10_rank 4 = .ok (.ifCond .ne 5, 3) := by decide +kernel
theorem dX10_rank_7 : decode cX10_rank 7 = .ok (.iconst 0, 1) := by decide +kernel
theorem dX10_rank_8 : decode cX10_rank 8 = .ok (.ireturn, 1) := by decide +kernel
theorem dX10_rank_9 : decode cX10_rank 9 = .ok (.aload_n 0, 1) := by decide +kernel
theorem dX10_rank_10 : decode cX10_rank 10 = .ok (.getfield 19, 3) := by decide +kernel
theorem dX10_rank_13 : decode cX10_rank 13 = .ok (.iconst 1, 1) := by decide +kernel
theorem dX10_rank_14 : decode cX10_rank 14 = .ok (.if_icmp .ne 17, 3) := by decide +kernel
theorem dX10_rank_17 : decode cX10_rank 17 = .ok (.aload_n 0, 1) := by decide +kernel
theorem dX10_rank_18 : decode cX10_rank 18 = .ok (.aload_n 0, 1) := by decide +kernel
theorem dX10_rank_19 : decode cX10_rank 19 = .ok (.getfield 22, 3) := by decide +kernel
theorem dX10_rank_22 : decode cX10_rank 22 = .ok (.iload_n 1, 1) := by decide +kernel
theorem dX10_rank_23 : decode cX10_rank 23 = .ok (.iload_n 2, 1) := by decide +kernel
theorem dX10_rank_24 : decode cX10_rank 24 = .ok (.iadd, 1) := by decide +kernel
theorem dX10_rank_25 : decode cX10_rank 25 = .ok (.iaload, 1) := by decide +kernel
theorem dX10_rank_26 : decode cX10_rank 26 = .ok (.invokevirtual 208, 3) := by decide +kernel
theorem dX10_rank_29 : decode cX10_rank 29 = .ok (.ineg, 1) := by decide +kernel
theorem dX10_rank_30 : decode cX10_rank 30 = .ok (.ireturn, 1) := by decide +kernel
theorem dX10_rank_31 : decode cX10_rank 31 = .ok (.iconst 0, 1) := by decide +kernel
theorem dX10_rank_32 : decode cX10_rank 32 = .ok (.istore_n 3, 1) := by decide +kernel
theorem dX10_rank_33 : decode cX10_rank 33 = .ok (.iconst 0, 1) := by decide +kernel
theorem dX10_rank_34 : decode cX10_rank 34 = .ok (.istore 4, 2) := by decide +kernel
theorem dX10_rank_36 : decode cX10_rank 36 = .ok (.iload 4, 2) := by decide +kernel
theorem dX10_rank_38 : decode cX10_rank 38 = .ok (.aload_n 0, 1) := by decide +kernel
theorem dX10_rank_39 : decode cX10_rank 39 = .ok (.getfield 13, 3) := by decide +kernel
theorem dX10_rank_42 : decode cX10_rank 42 = .ok (.if_icmp .ge 36, 3) := by decide +kernel
theorem dX10_rank_45 : decode cX10_rank 45 = .ok (.iload_n 3, 1) := by decide +kernel
theorem dX10_rank_46 : decode cX10_rank 46 = .ok (.aload_n 0, 1) := by decide +kernel
theorem dX10_rank_47 : decode cX10_rank 47 = .ok (.iload_n 1, 1) := by decide +kernel
theorem dX10_rank_48 : decode cX10_rank 48 = .ok (.iload_n 2, 1) := by decide +kernel
theorem dX10_rank_49 : decode cX10_rank 49 = .ok (.bipush 8, 2) := by decide +kernel
theorem dX10_rank_51 : decode cX10_rank 51 = .ok (.idiv, 1) := by decide +kernel
theorem dX10_rank_52 : decode cX10_rank 52 = .ok (.bipush 8, 2) := by decide +kernel
theorem dX10_rank_54 : decode cX10_rank 54 = .ok (.imul, 1) := by decide +kernel
theorem dX10_rank_55 : decode cX10_rank 55 = .ok (.iadd, 1) := by decide +kernel
theorem dX10_rank_56 : decode cX10_rank 56 = .ok (.iload 4, 2) := by decide +kernel
theorem dX10_rank_58 : decode cX10_rank 58 = .ok (.iadd, 1) := by decide +kernel
theorem dX10_rank_59 : decode cX10_rank 59 = .ok (.invokevirtual 198, 3) := by decide +kernel
theorem dX10_rank_62 : decode cX10_rank 62 = .ok (.ifCond .eq 7, 3) := by decide +kernel
theorem dX10_rank_65 : decode cX10_rank 65 = .ok (.iconst 1, 1) := by decide +kernel
theorem dX10_rank_66 : decode cX10_rank 66 = .ok (.goto 4, 3) := by decide +kernel
theorem dX10_rank_69 : decode cX10_rank 69 = .ok (.iconst 0, 1) := by decide +kernel
theorem dX10_rank_70 : decode cX10_rank 70 = .ok (.iadd, 1) := by decide +kernel
theorem dX10_rank_71 : decode cX10_rank 71 = .ok (.istore_n 3, 1) := by decide +kernel
theorem dX10_rank_72 : decode cX10_rank 72 = .ok (.iinc 4 1, 3) := by decide +kernel
theorem dX10_rank_75 : decode cX10_rank 75 = .ok (.goto (-39), 3) := by decide +kernel
theorem dX10_rank_78 : decode cX10_rank 78 = .ok (.iconst 0, 1) := by decide +kernel
theorem dX10_rank_79 : decode cX10_rank 79 = .ok (.istore 4, 2) := by decide +kernel
theorem dX10_rank_81 : decode cX10_rank 81 = .ok (.iload 4, 2) := by decide +kernel
theorem dX10_rank_83 : decode cX10_rank 83 = .ok (.aload_n 0, 1) := by decide +kernel
theorem dX10_rank_84 : decode cX10_rank 84 = .ok (.getfield 7, 3) := by decide +kernel
theorem dX10_rank_87 : decode cX10_rank 87 = .ok (.if_icmp .ge 36, 3) := by decide +kernel
theorem dX10_rank_90 : decode cX10_rank 90 = .ok (.iload_n 3, 1) := by decide +kernel
theorem dX10_rank_91 : decode cX10_rank 91 = .ok (.aload_n 0, 1) := by decide +kernel
theorem dX10_rank_92 : decode cX10_rank 92 = .ok (.iload_n 1, 1) := by decide +kernel
theorem dX10_rank_93 : decode cX10_rank 93 = .ok (.bipush 8, 2) := by decide +kernel
theorem dX10_rank_95 : decode cX10_rank 95 = .ok (.iload 4, 2) := by decide +kernel
theorem dX10_rank_97 : decode cX10_rank 97 = .ok (.imul, 1) := by decide +kernel
theorem dX10_rank_98 : decode cX10_rank 98 = .ok (.iadd, 1) := by decide +kernel
theorem dX10_rank_99 : decode cX10_rank 99 = .ok (.iload_n 2, 1) := by decide +kernel
theorem dX10_rank_100 : decode cX10_rank 100 = .ok (.bipush 8, 2) := by decide +kernel
theorem dX10_rank_102 : decode cX10_rank 102 = .ok (.irem, 1) := by decide +kernel
theorem dX10_rank_103 : decode cX10_rank 103 = .ok (.iadd, 1) := by decide +kernel
theorem dX10_rank_104 : decode cX10_rank 104 = .ok (.invokevirtual 198, 3) := by decide +kernel
theorem dX10_rank_107 : decode cX10_rank 107 = .ok (.ifCond .eq 7, 3) := by decide +kernel
theorem dX10_rank_110 : decode cX10_rank 110 = .ok (.iconst 1, 1) := by decide +kernel
theorem dX10_rank_111 : decode cX10_rank 111 = .ok (.goto 4, 3) := by decide +kernel
theorem dX10_rank_114 : decode cX10_rank 114 = .ok (.iconst 0, 1) := by decide +kernel
theorem dX10_rank_115 : decode cX10_rank 115 = .ok (.iadd, 1) := by decide +kernel
theorem dX10_rank_116 : decode cX10_rank 116 = .ok (.istore_n 3, 1) := by decide +kernel
theorem dX10_rank_117 : decode cX10_rank 117 = .ok (.iinc 4 1, 3) := by decide +kernel
theorem dX10_rank_120 : decode cX10_rank 120 = .ok (.goto (-39), 3) := by decide +kernel
theorem dX10_rank_123 : decode cX10_rank 123 = .ok (.iload_n 3, 1) := by decide +kernel
theorem dX10_rank_124 : decode cX10_rank 124 = .ok (.ireturn, 1) := by decide +kernel
theorem dX10_select_0 : decode cX10_select 0 = .ok (.iconst (-1), 1) := by decide +kernel
theorem dX10_select_1 : decode cX10_select 1 = .ok (.istore_n 2, 1) := by decide +kernel
theorem dX10_select_2 : decode cX10_select 2 = .ok (.iconst 0, 1) := by decide +kernel
theorem dX10_select_3 : decode cX10_select 3 = .ok (.istore_n 3, 1) := by decide +kernel
theorem dX10_select_4 : decode cX10_select 4 = .ok (.iload_n 3, 1) := by decide +kernel
theorem dX10_select_5 : decode cX10_select 5 = .ok (.aload_n 0, 1) := by decide +kernel
theorem dX10_select_6 : decode cX10_select 6 = .ok (.getfield 7, 3) := by decide +kernel
theorem dX10_select_9 : decode cX10_select 9 = .ok (.if_icmp .ge 70, 3) := by decide +kernel
theorem dX10_select_12 : decode cX10_select 12 = .ok (.iconst 0, 1) := by decide +kernel
theorem dX10_select_13 : decode cX10_select 13 = .ok (.istore 4, 2) := by decide +kernel
theorem dX10_select_15 : decode cX10_select 15 = .ok (.iload 4, 2) := by decide +kernel
theorem dX10_select_17 : decode cX10_select 17 = .ok (.aload_n 0, 1) := by decide +kernel
theorem dX10_select_18 : decode cX10_select 18 = .ok (.getfield 13, 3) := by decide +kernel
theorem dX10_select_21 : decode cX10_select 21 = .ok (.if_icmp .ge 52, 3) := by decide +kernel
theorem dX10_select_24 : decode cX10_select 24 = .ok (.bipush 8, 2) := by decide +kernel
theorem dX10_select_26 : decode cX10_select 26 = .ok (.iload_n 3, 1) := by decide +kernel
theorem dX10_select_27 : decode cX10_select 27 = .ok (.imul, 1) := by decide +kernel
theorem dX10_select_28 : decode cX10_select 28 = .ok (.iload 4, 2) := by decide +kernel
theorem dX10_select_30 : decode cX10_select 30 = .ok (.iadd, 1) := by decide +kernel
theorem dX10_select_31 : decode cX10_select 31 = .ok (.istore 5, 2) := by decide +kernel
theorem dX10_select_33 : decode cX10_select 33 = .ok (.aload_n 0, 1) := by decide +kernel
theorem dX10_select_34 : decode cX10_select 34 = .ok (.iload_n 1, 1) := by decide +kernel
theorem dX10_select_35 : decode cX10_select 35 = .ok (.iload 5, 2) := by decide +kernel
theorem dX10_select_37 : decode cX10_select 37 = .ok (.iadd, 1) := by decide +kernel
theorem dX10_select_38 : decode cX10_select 38 = .ok (.invokevirtual 198, 3) := by decide +kernel
theorem dX10_select_41 : decode cX10_select 41 = .ok (.ifCond .ne 26, 3) := by decide +kernel
theorem dX10_select_44 : decode cX10_select 44 = .ok (.iload_n 2, 1) := by decide +kernel
theorem dX10_select_45 : decode cX10_select 45 = .ok (.ifCond .lt 19, 3) := by decide +kernel
theorem dX10_select_48 : decode cX10_select 48 = .ok (.aload_n 0, 1) := by decide +kernel
theorem dX10_select_49 : decode cX10_select 49 = .ok (.iload_n 1, 1) := by decide +kernel
theorem dX10_select_50 : decode cX10_select 50 = .ok (.iload 5, 2) := by decide +kernel
theorem dX10_select_52 : decode cX10_select 52 = .ok (.invokevirtual 249, 3) := by decide +kernel
theorem dX10_select_55 : decode cX10_select 55 = .ok (.aload_n 0, 1) := by decide +kernel
theorem dX10_select_56 : decode cX10_select 56 = .ok (.iload_n 1, 1) := by decide +kernel
theorem dX10_select_57 : decode cX10_select 57 = .ok (.iload_n 2, 1) := by decide +kernel
theorem dX10_select_58 : decode cX10_select 58 = .ok (.invokevirtual 249, 3) := by decide +kernel
theorem dX10_select_61 : decode cX10_select 61 = .ok (.if_icmp .le 6, 3) := by decide +kernel
theorem dX10_select_64 : decode cX10_select 64 = .ok (.iload 5, 2) := by decide +kernel
theorem dX10_select_66 : decode cX10_select 66 = .ok (.istore_n 2, 1) := by decide +kernel
theorem dX10_select_67 : decode cX10_select 67 = .ok (.iinc 4 1, 3) := by decide +kernel
theorem dX10_select_70 : decode cX10_select 70 = .ok (.goto (-55), 3) := by decide +kernel
theorem dX10_select_73 : decode cX10_select 73 = .ok (.iinc 3 1, 3) := by decide +kernel
theorem dX10_select_76 : decode cX10_select 76 = .ok (.goto (-72), 3) := by decide +kernel
theorem dX10_select_79 : decode cX10_select 79 = .ok (.iload_n 2, 1) := by decide +kernel
theorem dX10_select_80 : decode cX10_select 80 = .ok (.ireturn, 1) := by decide +kernel
theorem dX10_visit_0 : decode cX10_visit 0 = .ok (.aload_n 0, 1) := by decide +kernel
theorem dX10_visit_1 : decode cX10_visit 1 = .ok (.getfield 92, 3) := by decide +kernel
theorem dX10_visit_4 : decode cX10_visit 4 = .ok (.bipush 60, 2) := by decide +kernel
theorem dX10_visit_6 : decode cX10_visit 6 = .ok (.if_icmp .ne 9, 3) := by decide +kernel
theorem dX10_visit_9 : decode cX10_visit 9 = .ok (.aload_n 0, 1) := by decide +kernel
theorem dX10_visit_10 : decode cX10_visit 10 = .ok (.iconst 1, 1) := by decide +kernel
theorem dX10_visit_11 : decode cX10_visit 11 = .ok (.putfield 101, 3) := by decide +kernel
theorem dX10_visit_14 : decode cX10_visit 14 = .ok (.return_, 1) := by decide +kernel
theorem dX10_visit_15 : decode cX10_visit 15 = .ok (.aload_n 0, 1) := by decide +kernel
theorem dX10_visit_16 : decode cX10_visit 16 = .ok (.dup, 1) := by decide +kernel
theorem dX10_visit_17 : decode cX10_visit 17 = .ok (.getfield 92, 3) := by decide +kernel
theorem dX10_visit_20 : decode cX10_visit 20 = .ok (.iconst 1, 1) := by decide +kernel
theorem dX10_visit_21 : decode cX10_visit 21 = .ok (.iadd, 1) := by decide +kernel
theorem dX10_visit_22 : decode cX10_visit 22 = .ok (.putfield 92, 3) := by decide +kernel
theorem dX10_visit_25 : decode cX10_visit 25 = .ok (.aload_n 0, 1) := by decide +kernel
theorem dX10_visit_26 : decode cX10_visit 26 = .ok (.iload_n 1, 1) := by decide +kernel
theorem dX10_visit_27 : decode cX10_visit 27 = .ok (.invokevirtual 239, 3) := by decide +kernel
theorem dX10_visit_30 : decode cX10_visit 30 = .ok (.ifCond .ge 4, 3) := by decide +kernel
theorem dX10_visit_33 : decode cX10_visit 33 = .ok (.return_, 1) := by decide +kernel
theorem dX10_visit_34 : decode cX10_visit 34 = .ok (.aload_n 0, 1) := by decide +kernel
theorem dX10_visit_35 : decode cX10_visit 35 = .ok (.iload_n 1, 1) := by decide +kernel
theorem dX10_visit_36 : decode cX10_visit 36 = .ok (.invokevirtual 252, 3) := by decide +kernel
theorem dX10_visit_39 : decode cX10_visit 39 = .ok (.istore_n 2, 1) := by decide +kernel
theorem dX10_visit_40 : decode cX10_visit 40 = .ok (.iload_n 2, 1) := by decide +kernel
theorem dX10_visit_41 : decode cX10_visit 41 = .ok (.ifCond .ge 42, 3) := by decide +kernel
theorem dX10_visit_44 : decode cX10_visit 44 = .ok (.aload_n 0, 1) := by decide +kernel
theorem dX10_visit_45 : decode cX10_visit 45 = .ok (.dup, 1) := by decide +kernel
theorem dX10_visit_46 : decode cX10_visit 46 = .ok (.getfield 95, 3) := by decide +kernel
theorem dX10_visit_49 : decode cX10_visit 49 = .ok (.iconst 1, 1) := by decide +kernel
theorem dX10_visit_50 : decode cX10_visit 50 = .ok (.iadd, 1) := by decide +kernel
theorem dX10_visit_51 : decode cX10_visit 51 = .ok (.putfield 95, 3) := by decide +kernel
theorem dX10_visit_54 : decode cX10_visit 54 = .ok (.iconst 0, 1) := by decide +kernel
theorem dX10_visit_55 : decode cX10_visit 55 = .ok (.istore_n 3, 1) := by decide +kernel
theorem dX10_visit_56 : decode cX10_visit 56 = .ok (.iload_n 3, 1) := by decide +kernel
theorem dX10_visit_57 : decode cX10_visit 57 = .ok (.bipush 64, 2) := by decide +kernel
theorem dX10_visit_59 : decode cX10_visit 59 = .ok (.if_icmp .ge 23, 3) := by decide +kernel
theorem dX10_visit_62 : decode cX10_visit 62 = .ok (.aload_n 0, 1) := by decide +kernel
theorem dX10_visit_63 : decode cX10_visit 63 = .ok (.getfield 89, 3) := by decide +kernel
theorem dX10_visit_66 : decode cX10_visit 66 = .ok (.iload_n 3, 1) := by decide +kernel
theorem dX10_visit_67 : decode cX10_visit 67 = .ok (.aload_n 0, 1) := by decide +kernel
theorem dX10_visit_68 : decode cX10_visit 68 = .ok (.getfield 22, 3) := by decide +kernel
theorem dX10_visit_71 : decode cX10_visit 71 = .ok (.iload_n 1, 1) := by decide +kernel
theorem dX10_visit_72 : decode cX10_visit 72 = .ok (.iload_n 3, 1) := by decide +kernel
theorem dX10_visit_73 : decode cX10_visit 73 = .ok (.iadd, 1) := by decide +kernel
theorem dX10_visit_74 : decode cX10_visit 74 = .ok (.iaload, 1) := by decide +kernel
theorem dX10_visit_75 : decode cX10_visit 75 = .ok (.iastore, 1) := by decide +kernel
theorem dX10_visit_76 : decode cX10_visit 76 = .ok (.iinc 3 1, 3) := by decide +kernel
theorem dX10_visit_79 : decode cX10_visit 79 = .ok (.goto (-23), 3) := by decide +kernel
theorem dX10_visit_82 : decode cX10_visit 82 = .ok (.return_, 1) := by decide +kernel
theorem dX10_visit_83 : decode cX10_visit 83 = .ok (.aload_n 0, 1) := by decide +kernel
theorem dX10_visit_84 : decode cX10_visit 84 = .ok (.getfield 22, 3) := by decide +kernel
theorem dX10_visit_87 : decode cX10_visit 87 = .ok (.iload_n 1, 1) := by decide +kernel
theorem dX10_visit_88 : decode cX10_visit 88 = .ok (.iload_n 2, 1) := by decide +kernel
theorem dX10_visit_89 : decode cX10_visit 89 = .ok (.iadd, 1) := by decide +kernel
theorem dX10_visit_90 : decode cX10_visit 90 = .ok (.iaload, 1) := by decide +kernel
theorem dX10_visit_91 : decode cX10_visit 91 = .ok (.istore_n 3, 1) := by decide +kernel
theorem dX10_visit_92 : decode cX10_visit 92 = .ok (.iconst 0, 1) := by decide +kernel
theorem dX10_visit_93 : decode cX10_visit 93 = .ok (.istore 4, 2) := by decide +kernel
theorem dX10_visit_95 : decode cX10_visit 95 = .ok (.iload 4, 2) := by decide +kernel
theorem dX10_visit_97 : decode cX10_visit 97 = .ok (.aload_n 0, 1) := by decide +kernel
theorem dX10_visit_98 : decode cX10_visit 98 = .ok (.getfield 16, 3) := by decide +kernel
theorem dX10_visit_101 : decode cX10_visit 101 = .ok (.if_icmp .gt 71, 3) := by decide +kernel
theorem dX10_visit_104 : decode cX10_visit 104 = .ok (.aload_n 0, 1) := by decide +kernel
theorem dX10_visit_105 : decode cX10_visit 105 = .ok (.getfield 101, 3) := by decide +kernel
theorem dX10_visit_108 : decode cX10_visit 108 = .ok (.ifCond .ne 64, 3) := by decide +kernel
theorem dX10_visit_111 : decode cX10_visit 111 = .ok (.aload_n 0, 1) := by decide +kernel
theorem dX10_visit_112 : decode cX10_visit 112 = .ok (.getfield 95, 3) := by decide +kernel
theorem dX10_visit_115 : decode cX10_visit 115 = .ok (.aload_n 0, 1) := by decide +kernel
theorem dX10_visit_116 : decode cX10_visit 116 = .ok (.getfield 98, 3) := by decide +kernel
theorem dX10_visit_119 : decode cX10_visit 119 = .ok (.if_icmp .ge 53, 3) := by decide +kernel
theorem dX10_visit_122 : decode cX10_visit 122 = .ok (.iload_n 3, 1) := by decide +kernel
theorem dX10_visit_123 : decode cX10_visit 123 = .ok (.iload 4, 2) := by decide +kernel
theorem dX10_visit_125 : decode cX10_visit 125 = .ok (.ishr, 1) := by decide +kernel
theorem dX10_visit_126 : decode cX10_visit 126 = .ok (.iconst 1, 1) := by decide +kernel
theorem dX10_visit_127 : decode cX10_visit 127 = .ok (.iand, 1) := by decide +kernel
theorem dX10_visit_128 : decode cX10_visit 128 = .ok (.ifCond .ne 6, 3) := by decide +kernel
theorem dX10_visit_131 : decode cX10_visit 131 = .ok (.goto 35, 3) := by decide +kernel
theorem dX10_visit_134 : decode cX10_visit 134 = .ok (.aload_n 0, 1) := by decide +kernel
theorem dX10_visit_135 : decode cX10_visit 135 = .ok (.iload_n 1, 1) := by decide +kernel
theorem dX10_visit_136 : decode cX10_visit 136 = .ok (.iload_n 1, 1) := by decide +kernel
theorem dX10_visit_137 : decode cX10_visit 137 = .ok (.bipush 64, 2) := by decide +kernel
theorem dX10_visit_139 : decode cX10_visit 139 = .ok (.iadd, 1) := by decide +kernel
theorem dX10_visit_140 : decode cX10_visit 140 = .ok (.invokevirtual 230, 3) := by decide +kernel
theorem dX10_visit_143 : decode cX10_visit 143 = .ok (.aload_n 0, 1) := by decide +kernel
theorem dX10_visit_144 : decode cX10_visit 144 = .ok (.getfield 22, 3) := by decide +kernel
theorem dX10_visit_147 : decode cX10_visit 147 = .ok (.iload_n 1, 1) := by decide +kernel
theorem dX10_visit_148 : decode cX10_visit 148 = .ok (.bipush 64, 2) := by decide +kernel
theorem dX10_visit_150 : decode cX10_visit 150 = .ok (.iadd, 1) := by decide +kernel
theorem dX10_visit_151 : decode cX10_visit 151 = .ok (.iload_n 2, 1) := by decide +kernel
theorem dX10_visit_152 : decode cX10_visit 152 = .ok (.iadd, 1) := by decide +kernel
theorem dX10_visit_153 : decode cX10_visit 153 = .ok (.iconst 1, 1) := by decide +kernel
theorem dX10_visit_154 : decode cX10_visit 154 = .ok (.iload 4, 2) := by decide +kernel
theorem dX10_visit_156 : decode cX10_visit 156 = .ok (.ishl, 1) := by decide +kernel
theorem dX10_visit_157 : decode cX10_visit 157 = .ok (.iastore, 1) := by decide +kernel
theorem dX10_visit_158 : decode cX10_visit 158 = .ok (.aload_n 0, 1) := by decide +kernel
theorem dX10_visit_159 : decode cX10_visit 159 = .ok (.iload_n 1, 1) := by decide +kernel
theorem dX10_visit_160 : decode cX10_visit 160 = .ok (.bipush 64, 2) := by decide +kernel
theorem dX10_visit_162 : decode cX10_visit 162 = .ok (.iadd, 1) := by decide +kernel
theorem dX10_visit_163 : decode cX10_visit 163 = .ok (.invokevirtual 255, 3) := by decide +kernel
theorem dX10_visit_166 : decode cX10_visit 166 = .ok (.iinc 4 1, 3) := by decide +kernel
theorem dX10_visit_169 : decode cX10_visit 169 = .ok (.goto (-74), 3) := by decide +kernel
theorem dX10_visit_172 : decode cX10_visit 172 = .ok (.return_, 1) := by decide +kernel
theorem dX10_search_0 : decode cX10_search 0 = .ok (.aload_n 0, 1) := by decide +kernel
theorem dX10_search_1 : decode cX10_search 1 = .ok (.iconst 0, 1) := by decide +kernel
theorem dX10_search_2 : decode cX10_search 2 = .ok (.putfield 92, 3) := by decide +kernel
theorem dX10_search_5 : decode cX10_search 5 = .ok (.aload_n 0, 1) := by decide +kernel
theorem dX10_search_6 : decode cX10_search 6 = .ok (.iconst 0, 1) := by decide +kernel
theorem dX10_search_7 : decode cX10_search 7 = .ok (.putfield 95, 3) := by decide +kernel
theorem dX10_search_10 : decode cX10_search 10 = .ok (.aload_n 0, 1) := by decide +kernel
theorem dX10_search_11 : decode cX10_search 11 = .ok (.iload_n 1, 1) := by decide +kernel
theorem dX10_search_12 : decode cX10_search 12 = .ok (.putfield 98, 3) := by decide +kernel
theorem dX10_search_15 : decode cX10_search 15 = .ok (.aload_n 0, 1) := by decide +kernel
theorem dX10_search_16 : decode cX10_search 16 = .ok (.iconst 0, 1) := by decide +kernel
theorem dX10_search_17 : decode cX10_search 17 = .ok (.putfield 101, 3) := by decide +kernel
theorem dX10_search_20 : decode cX10_search 20 = .ok (.aload_n 0, 1) := by decide +kernel
theorem dX10_search_21 : decode cX10_search 21 = .ok (.iconst 0, 1) := by decide +kernel
theorem dX10_search_22 : decode cX10_search 22 = .ok (.bipush 64, 2) := by decide +kernel
theorem dX10_search_24 : decode cX10_search 24 = .ok (.invokevirtual 230, 3) := by decide +kernel
theorem dX10_search_27 : decode cX10_search 27 = .ok (.aload_n 0, 1) := by decide +kernel
theorem dX10_search_28 : decode cX10_search 28 = .ok (.bipush 64, 2) := by decide +kernel
theorem dX10_search_30 : decode cX10_search 30 = .ok (.invokevirtual 255, 3) := by decide +kernel
theorem dX10_search_33 : decode cX10_search 33 = .ok (.aload_n 0, 1) := by decide +kernel
theorem dX10_search_34 : decode cX10_search 34 = .ok (.getfield 101, 3) := by decide +kernel
theorem dX10_search_37 : decode cX10_search 37 = .ok (.ifCond .ne 7, 3) := by decide +kernel
theorem dX10_search_40 : decode cX10_search 40 = .ok (.iconst 1, 1) := by decide +kernel
theorem dX10_search_41 : decode cX10_search 41 = .ok (.goto 4, 3) := by decide +kernel
theorem dX10_search_44 : decode cX10_search 44 = .ok (.iconst 0, 1) := by decide +kernel
theorem dX10_search_45 : decode cX10_search 45 = .ok (.ireturn, 1) := by decide +kernel
theorem dX10_countSolutions_0 : decode cX10_countSolutions 0 = .ok (.aload_n 0, 1) := by decide +kernel
theorem dX10_countSolutions_1 : decode cX10_countSolutions 1 = .ok (.iload_n 1, 1) := by decide +kernel
theorem dX10_countSolutions_2 : decode cX10_countSolutions 2 = .ok (.iconst 1, 1) := by decide +kernel
theorem dX10_countSolutions_3 : decode cX10_countSolutions 3 = .ok (.bipush 20, 2) := by decide +kernel
theorem dX10_countSolutions_5 : decode cX10_countSolutions 5 = .ok (.invokevirtual 172, 3) := by decide +kernel
theorem dX10_countSolutions_8 : decode cX10_countSolutions 8 = .ok (.ifCond .ne 6, 3) := by decide +kernel
theorem dX10_countSolutions_11 : decode cX10_countSolutions 11 = .ok (.bipush (-2), 2) := by decide +kernel
theorem dX10_countSolutions_13 : decode cX10_countSolutions 13 = .ok (.ireturn, 1) := by decide +kernel
theorem dX10_countSolutions_14 : decode cX10_countSolutions 14 = .ok (.aload_n 0, 1) := by decide +kernel
theorem dX10_countSolutions_15 : decode cX10_countSolutions 15 = .ok (.iload_n 1, 1) := by decide +kernel
theorem dX10_countSolutions_16 : decode cX10_countSolutions 16 = .ok (.invokevirtual 259, 3) := by decide +kernel
theorem dX10_countSolutions_19 : decode cX10_countSolutions 19 = .ok (.ifCond .eq 10, 3) := by decide +kernel
theorem dX10_countSolutions_22 : decode cX10_countSolutions 22 = .ok (.aload_n 0, 1) := by decide +kernel
theorem dX10_countSolutions_23 : decode cX10_countSolutions 23 = .ok (.getfield 95, 3) := by decide +kernel
theorem dX10_countSolutions_26 : decode cX10_countSolutions 26 = .ok (.goto 5, 3) := by decide +kernel
theorem dX10_countSolutions_29 : decode cX10_countSolutions 29 = .ok (.bipush (-7), 2) := by decide +kernel
theorem dX10_countSolutions_31 : decode cX10_countSolutions 31 = .ok (.ireturn, 1) := by decide +kernel
theorem dX10_solutionColor_0 : decode cX10_solutionColor 0 = .ok (.aload_n 0, 1) := by decide +kernel
theorem dX10_solutionColor_1 : decode cX10_solutionColor 1 = .ok (.iload_n 1, 1) := by decide +kernel
theorem dX10_solutionColor_2 : decode cX10_solutionColor 2 = .ok (.iconst 0, 1) := by decide +kernel
theorem dX10_solutionColor_3 : decode cX10_solutionColor 3 = .ok (.bipush 19, 2) := by decide +kernel
theorem dX10_solutionColor_5 : decode cX10_solutionColor 5 = .ok (.invokevirtual 172, 3) := by decide +kernel
theorem dX10_solutionColor_8 : decode cX10_solutionColor 8 = .ok (.ifCond .ne 6, 3) := by decide +kernel
theorem dX10_solutionColor_11 : decode cX10_solutionColor 11 = .ok (.bipush (-2), 2) := by decide +kernel
theorem dX10_solutionColor_13 : decode cX10_solutionColor 13 = .ok (.ireturn, 1) := by decide +kernel
theorem dX10_solutionColor_14 : decode cX10_solutionColor 14 = .ok (.aload_n 0, 1) := by decide +kernel
theorem dX10_solutionColor_15 : decode cX10_solutionColor 15 = .ok (.iload_n 2, 1) := by decide +kernel
theorem dX10_solutionColor_16 : decode cX10_solutionColor 16 = .ok (.iload_n 3, 1) := by decide +kernel
theorem dX10_solutionColor_17 : decode cX10_solutionColor 17 = .ok (.invokevirtual 195, 3) := by decide +kernel
theorem dX10_solutionColor_20 : decode cX10_solutionColor 20 = .ok (.ifCond .ne 5, 3) := by decide +kernel
theorem dX10_solutionColor_23 : decode cX10_solutionColor 23 = .ok (.iconst (-1), 1) := by decide +kernel
theorem dX10_solutionColor_24 : decode cX10_solutionColor 24 = .ok (.ireturn, 1) := by decide +kernel
theorem dX10_solutionColor_25 : decode cX10_solutionColor 25 = .ok (.aload_n 0, 1) := by decide +kernel
theorem dX10_solutionColor_26 : decode cX10_solutionColor 26 = .ok (.iload_n 1, 1) := by decide +kernel
theorem dX10_solutionColor_27 : decode cX10_solutionColor 27 = .ok (.iconst 1, 1) := by decide +kernel
theorem dX10_solutionColor_28 : decode cX10_solutionColor 28 = .ok (.iadd, 1) := by decide +kernel
theorem dX10_solutionColor_29 : decode cX10_solutionColor 29 = .ok (.invokevirtual 259, 3) := by decide +kernel
theorem dX10_solutionColor_32 : decode cX10_solutionColor 32 = .ok (.ifCond .ne 6, 3) := by decide +kernel
theorem dX10_solutionColor_35 : decode cX10_solutionColor 35 = .ok (.bipush (-7), 2) := by decide +kernel
theorem dX10_solutionColor_37 : decode cX10_solutionColor 37 = .ok (.ireturn, 1) := by decide +kernel
theorem dX10_solutionColor_38 : decode cX10_solutionColor 38 = .ok (.aload_n 0, 1) := by decide +kernel
theorem dX10_solutionColor_39 : decode cX10_solutionColor 39 = .ok (.getfield 95, 3) := by decide +kernel
theorem dX10_solutionColor_42 : decode cX10_solutionColor 42 = .ok (.iload_n 1, 1) := by decide +kernel
theorem dX10_solutionColor_43 : decode cX10_solutionColor 43 = .ok (.if_icmp .gt 6, 3) := by decide +kernel
theorem dX10_solutionColor_46 : decode cX10_solutionColor 46 = .ok (.bipush (-8), 2) := by decide +kernel
theorem dX10_solutionColor_48 : decode cX10_solutionColor 48 = .ok (.ireturn, 1) := by decide +kernel
theorem dX10_solutionColor_49 : decode cX10_solutionColor 49 = .ok (.iconst 0, 1) := by decide +kernel
theorem dX10_solutionColor_50 : decode cX10_solutionColor 50 = .ok (.istore 4, 2) := by decide +kernel
theorem dX10_solutionColor_52 : decode cX10_solutionColor 52 = .ok (.aload_n 0, 1) := by decide +kernel
theorem dX10_solutionColor_53 : decode cX10_solutionColor 53 = .ok (.getfield 89, 3) := by decide +kernel
theorem dX10_solutionColor_56 : decode cX10_solutionColor 56 = .ok (.bipush 8, 2) := by decide +kernel
theorem dX10_solutionColor_58 : decode cX10_solutionColor 58 = .ok (.iload_n 2, 1) := by decide +kernel
theorem dX10_solutionColor_59 : decode cX10_solutionColor 59 = .ok (.imul, 1) := by decide +kernel
theorem dX10_solutionColor_60 : decode cX10_solutionColor 60 = .ok (.iload_n 3, 1) := by decide +kernel
theorem dX10_solutionColor_61 : decode cX10_solutionColor 61 = .ok (.iadd, 1) := by decide +kernel
theorem dX10_solutionColor_62 : decode cX10_solutionColor 62 = .ok (.iaload, 1) := by decide +kernel
theorem dX10_solutionColor_63 : decode cX10_solutionColor 63 = .ok (.iload 4, 2) := by decide +kernel
theorem dX10_solutionColor_65 : decode cX10_solutionColor 65 = .ok (.ishr, 1) := by decide +kernel
theorem dX10_solutionColor_66 : decode cX10_solutionColor 66 = .ok (.iconst 1, 1) := by decide +kernel
theorem dX10_solutionColor_67 : decode cX10_solutionColor 67 = .ok (.if_icmp .eq 9, 3) := by decide +kernel
theorem dX10_solutionColor_70 : decode cX10_solutionColor 70 = .ok (.iinc 4 1, 3) := by decide +kernel
theorem dX10_solutionColor_73 : decode cX10_solutionColor 73 = .ok (.goto (-21), 3) := by decide +kernel
theorem dX10_solutionColor_76 : decode cX10_solutionColor 76 = .ok (.iload 4, 2) := by decide +kernel
theorem dX10_solutionColor_78 : decode cX10_solutionColor 78 = .ok (.ireturn, 1) := by decide +kernel
theorem dX10_searchNodes_0 : decode cX10_searchNodes 0 = .ok (.aload_n 0, 1) := by decide +kernel
theorem dX10_searchNodes_1 : decode cX10_searchNodes 1 = .ok (.iload_n 1, 1) := by decide +kernel
theorem dX10_searchNodes_2 : decode cX10_searchNodes 2 = .ok (.iconst 1, 1) := by decide +kernel
theorem dX10_searchNodes_3 : decode cX10_searchNodes 3 = .ok (.bipush 20, 2) := by decide +kernel
theorem dX10_searchNodes_5 : decode cX10_searchNodes 5 = .ok (.invokevirtual 172, 3) := by decide +kernel
theorem dX10_searchNodes_8 : decode cX10_searchNodes 8 = .ok (.ifCond .ne 6, 3) := by decide +kernel
theorem dX10_searchNodes_11 : decode cX10_searchNodes 11 = .ok (.bipush (-2), 2) := by decide +kernel
theorem dX10_searchNodes_13 : decode cX10_searchNodes 13 = .ok (.ireturn, 1) := by decide +kernel
theorem dX10_searchNodes_14 : decode cX10_searchNodes 14 = .ok (.aload_n 0, 1) := by decide +kernel
theorem dX10_searchNodes_15 : decode cX10_searchNodes 15 = .ok (.iload_n 1, 1) := by decide +kernel
theorem dX10_searchNodes_16 : decode cX10_searchNodes 16 = .ok (.invokevirtual 259, 3) := by decide +kernel
theorem dX10_searchNodes_19 : decode cX10_searchNodes 19 = .ok (.ifCond .eq 10, 3) := by decide +kernel
theorem dX10_searchNodes_22 : decode cX10_searchNodes 22 = .ok (.aload_n 0, 1) := by decide +kernel
theorem dX10_searchNodes_23 : decode cX10_searchNodes 23 = .ok (.getfield 92, 3) := by decide +kernel
theorem dX10_searchNodes_26 : decode cX10_searchNodes 26 = .ok (.goto 5, 3) := by decide +kernel
theorem dX10_searchNodes_29 : decode cX10_searchNodes 29 = .ok (.bipush (-7), 2) := by decide +kernel
theorem dX10_searchNodes_31 : decode cX10_searchNodes 31 = .ok (.ireturn, 1) := by decide +kernel
theorem dX10_isUnique_0 : decode cX10_isUnique 0 = .ok (.aload_n 0, 1) := by decide +kernel
theorem dX10_isUnique_1 : decode cX10_isUnique 1 = .ok (.iconst 2, 1) := by decide +kernel
theorem dX10_isUnique_2 : decode cX10_isUnique 2 = .ok (.invokevirtual 259, 3) := by decide +kernel
theorem dX10_isUnique_5 : decode cX10_isUnique 5 = .ok (.ifCond .eq 19, 3) := by decide +kernel
theorem dX10_isUnique_8 : decode cX10_isUnique 8 = .ok (.aload_n 0, 1) := by decide +kernel
theorem dX10_isUnique_9 : decode cX10_isUnique 9 = .ok (.getfield 95, 3) := by decide +kernel
theorem dX10_isUnique_12 : decode cX10_isUnique 12 = .ok (.iconst 1, 1) := by decide +kernel
theorem dX10_isUnique_13 : decode cX10_isUnique 13 = .ok (.if_icmp .ne 7, 3) := by decide +kernel
theorem dX10_isUnique_16 : decode cX10_isUnique 16 = .ok (.iconst 1, 1) := by decide +kernel
theorem dX10_isUnique_17 : decode cX10_isUnique 17 = .ok (.goto 9, 3) := by decide +kernel
theorem dX10_isUnique_20 : decode cX10_isUnique 20 = .ok (.iconst 0, 1) := by decide +kernel
theorem dX10_isUnique_21 : decode cX10_isUnique 21 = .ok (.goto 5, 3) := by decide +kernel
theorem dX10_isUnique_24 : decode cX10_isUnique 24 = .ok (.bipush (-7), 2) := by decide +kernel
theorem dX10_isUnique_26 : decode cX10_isUnique 26 = .ok (.ireturn, 1) := by decide +kernel
theorem dX10_blocks_0 : decode cX10_blocks 0 = .ok (.iconst 0, 1) := by decide +kernel
theorem dX10_blocks_1 : decode cX10_blocks 1 = .ok (.istore_n 2, 1) := by decide +kernel
theorem dX10_blocks_2 : decode cX10_blocks 2 = .ok (.iconst 0, 1) := by decide +kernel
theorem dX10_blocks_3 : decode cX10_blocks 3 = .ok (.istore_n 3, 1) := by decide +kernel
theorem dX10_blocks_4 : decode cX10_blocks 4 = .ok (.iconst 0, 1) := by decide +kernel
theorem dX10_blocks_5 : decode cX10_blocks 5 = .ok (.istore 4, 2) := by decide +kernel
theorem dX10_blocks_7 : decode cX10_blocks 7 = .ok (.iload 4, 2) := by decide +kernel
theorem dX10_blocks_9 : decode cX10_blocks 9 = .ok (.aload_n 0, 1) := by decide +kernel
theorem dX10_blocks_10 : decode cX10_blocks 10 = .ok (.iload_n 1, 1) := by decide +kernel
theorem dX10_blocks_11 : decode cX10_blocks 11 = .ok (.invokevirtual 214, 3) := by decide +kernel
theorem dX10_blocks_14 : decode cX10_blocks 14 = .ok (.if_icmp .ge 74, 3) := by decide +kernel
theorem dX10_blocks_17 : decode cX10_blocks 17 = .ok (.aload_n 0, 1) := by decide +kernel
theorem dX10_blocks_18 : decode cX10_blocks 18 = .ok (.aload_n 0, 1) := by decide +kernel
theorem dX10_blocks_19 : decode cX10_blocks 19 = .ok (.iload_n 1, 1) := by decide +kernel
theorem dX10_blocks_20 : decode cX10_blocks 20 = .ok (.iload 4, 2) := by decide +kernel
theorem dX10_blocks_22 : decode cX10_blocks 22 = .ok (.invokevirtual 217, 3) := by decide +kernel
theorem dX10_blocks_25 : decode cX10_blocks 25 = .ok (.invokevirtual 201, 3) := by decide +kernel
theorem dX10_blocks_28 : decode cX10_blocks 28 = .ok (.istore 5, 2) := by decide +kernel
theorem dX10_blocks_30 : decode cX10_blocks 30 = .ok (.iload 5, 2) := by decide +kernel
theorem dX10_blocks_32 : decode cX10_blocks 32 = .ok (.ifCond .le 24, 3) := by decide +kernel
theorem dX10_blocks_35 : decode cX10_blocks 35 = .ok (.iload 5, 2) := by decide +kernel
theorem dX10_blocks_37 : decode cX10_blocks 37 = .ok (.iload_n 3, 1) := by decide +kernel
theorem dX10_blocks_38 : decode cX10_blocks 38 = .ok (.if_icmp .ne 18, 3) := by decide +kernel
theorem dX10_blocks_41 : decode cX10_blocks 41 = .ok (.aload_n 0, 1) := by decide +kernel
theorem dX10_blocks_42 : decode cX10_blocks 42 = .ok (.getfield 105, 3) := by decide +kernel
theorem dX10_blocks_45 : decode cX10_blocks 45 = .ok (.iload_n 2, 1) := by decide +kernel
theorem dX10_blocks_46 : decode cX10_blocks 46 = .ok (.iconst 1, 1) := by decide +kernel
theorem dX10_blocks_47 : decode cX10_blocks 47 = .ok (.isub, 1) := by decide +kernel
theorem dX10_blocks_48 : decode cX10_blocks 48 = .ok (.dup2, 1) := by decide +kernel
theorem dX10_blocks_49 : decode cX10_blocks 49 = .ok (.iaload, 1) := by decide +kernel
theorem dX10_blocks_50 : decode cX10_blocks 50 = .ok (.iconst 1, 1) := by decide +kernel
theorem dX10_blocks_51 : decode cX10_blocks 51 = .ok (.iadd, 1) := by decide +kernel
theorem dX10_blocks_52 : decode cX10_blocks 52 = .ok (.iastore, 1) := by decide +kernel
theorem dX10_blocks_53 : decode cX10_blocks 53 = .ok (.goto 26, 3) := by decide +kernel
theorem dX10_blocks_56 : decode cX10_blocks 56 = .ok (.iload 5, 2) := by decide +kernel
theorem dX10_blocks_58 : decode cX10_blocks 58 = .ok (.ifCond .le 21, 3) := by decide +kernel
theorem dX10_blocks_61 : decode cX10_blocks 61 = .ok (.aload_n 0, 1) := by decide +kernel
theorem dX10_blocks_62 : decode cX10_blocks 62 = .ok (.getfield 105, 3) := by decide +kernel
theorem dX10_blocks_65 : decode cX10_blocks 65 = .ok (.iload_n 2, 1) := by decide +kernel
theorem dX10_blocks_66 : decode cX10_blocks 66 = .ok (.iconst 1, 1) := by decide +kernel
theorem dX10_blocks_67 : decode cX10_blocks 67 = .ok (.iastore, 1) := by decide +kernel
theorem dX10_blocks_68 : decode cX10_blocks 68 = .ok (.aload_n 0, 1) := by decide +kernel
theorem dX10_blocks_69 : decode cX10_blocks 69 = .ok (.getfield 108, 3) := by decide +kernel
theorem dX10_blocks_72 : decode cX10_blocks 72 = .ok (.iload_n 2, 1) := by decide +kernel
theorem dX10_blocks_73 : decode cX10_blocks 73 = .ok (.iload 5, 2) := by decide +kernel
theorem dX10_blocks_75 : decode cX10_blocks 75 = .ok (.iastore, 1) := by decide +kernel
theorem dX10_blocks_76 : decode cX10_blocks 76 = .ok (.iinc 2 1, 3) := by decide +kernel
theorem dX10_blocks_79 : decode cX10_blocks 79 = .ok (.iload 5, 2) := by decide +kernel
theorem dX10_blocks_81 : decode cX10_blocks 81 = .ok (.istore_n 3, 1) := by decide +kernel
theorem dX10_blocks_82 : decode cX10_blocks 82 = .ok (.iinc 4 1, 3) := by decide +kernel
theorem dX10_blocks_85 : decode cX10_blocks 85 = .ok (.goto (-78), 3) := by decide +kernel
theorem dX10_blocks_88 : decode cX10_blocks 88 = .ok (.iload_n 2, 1) := by decide +kernel
theorem dX10_blocks_89 : decode cX10_blocks 89 = .ok (.ireturn, 1) := by decide +kernel
theorem dX10_firstMismatch_0 : decode cX10_firstMismatch 0 = .ok (.aload_n 0, 1) := by decide +kernel
theorem dX10_firstMismatch_1 : decode cX10_firstMismatch 1 = .ok (.iconst 0, 1) := by decide +kernel
theorem dX10_firstMismatch_2 : decode cX10_firstMismatch 2 = .ok (.invokevirtual 211, 3) := by decide +kernel
theorem dX10_firstMismatch_5 : decode cX10_firstMismatch 5 = .ok (.aload_n 0, 1) := by decide +kernel
theorem dX10_firstMismatch_6 : decode cX10_firstMismatch 6 = .ok (.getfield 7, 3) := by decide +kernel
theorem dX10_firstMismatch_9 : decode cX10_firstMismatch 9 = .ok (.aload_n 0, 1) := by decide +kernel
theorem dX10_firstMismatch_10 : decode cX10_firstMismatch 10 = .ok (.getfield 13, 3) := by decide +kernel
theorem dX10_firstMismatch_13 : decode cX10_firstMismatch 13 = .ok (.imul, 1) := by decide +kernel
theorem dX10_firstMismatch_14 : decode cX10_firstMismatch 14 = .ok (.if_icmp .ge 6, 3) := by decide +kernel
theorem dX10_firstMismatch_17 : decode cX10_firstMismatch 17 = .ok (.bipush (-6), 2) := by decide +kernel
theorem dX10_firstMismatch_19 : decode cX10_firstMismatch 19 = .ok (.ireturn, 1) := by decide +kernel
theorem dX10_firstMismatch_20 : decode cX10_firstMismatch 20 = .ok (.iconst 0, 1) := by decide +kernel
theorem dX10_firstMismatch_21 : decode cX10_firstMismatch 21 = .ok (.istore_n 1, 1) := by decide +kernel
theorem dX10_firstMismatch_22 : decode cX10_firstMismatch 22 = .ok (.iload_n 1, 1) := by decide +kernel
theorem dX10_firstMismatch_23 : decode cX10_firstMismatch 23 = .ok (.aload_n 0, 1) := by decide +kernel
theorem dX10_firstMismatch_24 : decode cX10_firstMismatch 24 = .ok (.invokevirtual 168, 3) := by decide +kernel
theorem dX10_firstMismatch_27 : decode cX10_firstMismatch 27 = .ok (.if_icmp .ge 106, 3) := by decide +kernel
theorem dX10_firstMismatch_30 : decode cX10_firstMismatch 30 = .ok (.aload_n 0, 1) := by decide +kernel
theorem dX10_firstMismatch_31 : decode cX10_firstMismatch 31 = .ok (.iload_n 1, 1) := by decide +kernel
theorem dX10_firstMismatch_32 : decode cX10_firstMismatch 32 = .ok (.invokevirtual 262, 3) := by decide +kernel
theorem dX10_firstMismatch_35 : decode cX10_firstMismatch 35 = .ok (.istore_n 2, 1) := by decide +kernel
theorem dX10_firstMismatch_36 : decode cX10_firstMismatch 36 = .ok (.iload_n 2, 1) := by decide +kernel
theorem dX10_firstMismatch_37 : decode cX10_firstMismatch 37 = .ok (.aload_n 0, 1) := by decide +kernel
theorem dX10_firstMismatch_38 : decode cX10_firstMismatch 38 = .ok (.getfield 26, 3) := by decide +kernel
theorem dX10_firstMismatch_41 : decode cX10_firstMismatch 41 = .ok (.iload_n 1, 1) := by decide +kernel
theorem dX10_firstMismatch_42 : decode cX10_firstMismatch 42 = .ok (.iaload, 1) := by decide +kernel
theorem dX10_firstMismatch_43 : decode cX10_firstMismatch 43 = .ok (.if_icmp .ne 7, 3) := by decide +kernel
theorem dX10_firstMismatch_46 : decode cX10_firstMismatch 46 = .ok (.iconst 1, 1) := by decide +kernel
theorem dX10_firstMismatch_47 : decode cX10_firstMismatch 47 = .ok (.goto 4, 3) := by decide +kernel
theorem dX10_firstMismatch_50 : decode cX10_firstMismatch 50 = .ok (.iconst 0, 1) := by decide +kernel
theorem dX10_firstMismatch_51 : decode cX10_firstMismatch 51 = .ok (.istore_n 3, 1) := by decide +kernel
theorem dX10_firstMismatch_52 : decode cX10_firstMismatch 52 = .ok (.iconst 0, 1) := by decide +kernel
theorem dX10_firstMismatch_53 : decode cX10_firstMismatch 53 = .ok (.istore 4, 2) := by decide +kernel
theorem dX10_firstMismatch_55 : decode cX10_firstMismatch 55 = .ok (.iload 4, 2) := by decide +kernel
theorem dX10_firstMismatch_57 : decode cX10_firstMismatch 57 = .ok (.iload_n 2, 1) := by decide +kernel
theorem dX10_firstMismatch_58 : decode cX10_firstMismatch 58 = .ok (.if_icmp .ge 63, 3) := by decide +kernel
theorem dX10_firstMismatch_61 : decode cX10_firstMismatch 61 = .ok (.iload_n 3, 1) := by decide +kernel
theorem dX10_firstMismatch_62 : decode cX10_firstMismatch 62 = .ok (.ifCond .eq 59, 3) := by decide +kernel
theorem dX10_firstMismatch_65 : decode cX10_firstMismatch 65 = .ok (.aload_n 0, 1) := by decide +kernel
theorem dX10_firstMismatch_66 : decode cX10_firstMismatch 66 = .ok (.getfield 105, 3) := by decide +kernel
theorem dX10_firstMismatch_69 : decode cX10_firstMismatch 69 = .ok (.iload 4, 2) := by decide +kernel
theorem dX10_firstMismatch_71 : decode cX10_firstMismatch 71 = .ok (.iaload, 1) := by decide +kernel
theorem dX10_firstMismatch_72 : decode cX10_firstMismatch 72 = .ok (.aload_n 0, 1) := by decide +kernel
theorem dX10_firstMismatch_73 : decode cX10_firstMismatch 73 = .ok (.getfield 29, 3) := by decide +kernel
theorem dX10_firstMismatch_76 : decode cX10_firstMismatch 76 = .ok (.bipush 8, 2) := by decide +kernel
theorem dX10_firstMismatch_78 : decode cX10_firstMismatch 78 = .ok (.iload_n 1, 1) := by decide +kernel
theorem dX10_firstMismatch_79 : decode cX10_firstMismatch 79 = .ok (.imul, 1) := by decide +kernel
theorem dX10_firstMismatch_80 : decode cX10_firstMismatch 80 = .ok (.iload 4, 2) := by decide +kernel
theorem dX10_firstMismatch_82 : decode cX10_firstMismatch 82 = .ok (.iadd, 1) := by decide +kernel
theorem dX10_firstMismatch_83 : decode cX10_firstMismatch 83 = .ok (.iaload, 1) := by decide +kernel
theorem dX10_firstMismatch_84 : decode cX10_firstMismatch 84 = .ok (.if_icmp .ne 29, 3) := by decide +kernel
theorem dX10_firstMismatch_87 : decode cX10_firstMismatch 87 = .ok (.aload_n 0, 1) := by decide +kernel
theorem dX10_firstMismatch_88 : decode cX10_firstMismatch 88 = .ok (.getfield 108, 3) := by decide +kernel
theorem dX10_firstMismatch_91 : decode cX10_firstMismatch 91 = .ok (.iload 4, 2) := by decide +kernel
theorem dX10_firstMismatch_93 : decode cX10_firstMismatch 93 = .ok (.iaload, 1) := by decide +kernel
theorem dX10_firstMismatch_94 : decode cX10_firstMismatch 94 = .ok (.aload_n 0, 1) := by decide +kernel
theorem dX10_firstMismatch_95 : decode cX10_firstMismatch 95 = .ok (.getfield 32, 3) := by decide +kernel
theorem dX10_firstMismatch_98 : decode cX10_firstMismatch 98 = .ok (.bipush 8, 2) := by decide +kernel
theorem dX10_firstMismatch_100 : decode cX10_firstMismatch 100 = .ok (.iload_n 1, 1) := by decide +kernel
theorem dX10_firstMismatch_101 : decode cX10_firstMismatch 101 = .ok (.imul, 1) := by decide +kernel
theorem dX10_firstMismatch_102 : decode cX10_firstMismatch 102 = .ok (.iload 4, 2) := by decide +kernel
theorem dX10_firstMismatch_104 : decode cX10_firstMismatch 104 = .ok (.iadd, 1) := by decide +kernel
theorem dX10_firstMismatch_105 : decode cX10_firstMismatch 105 = .ok (.iaload, 1) := by decide +kernel
theorem dX10_firstMismatch_106 : decode cX10_firstMismatch 106 = .ok (.if_icmp .ne 7, 3) := by decide +kernel
theorem dX10_firstMismatch_109 : decode cX10_firstMismatch 109 = .ok (.iconst 1, 1) := by decide +kernel
theorem dX10_firstMismatch_110 : decode cX10_firstMismatch 110 = .ok (.goto 4, 3) := by decide +kernel
theorem dX10_firstMismatch_113 : decode cX10_firstMismatch 113 = .ok (.iconst 0, 1) := by decide +kernel
theorem dX10_firstMismatch_114 : decode cX10_firstMismatch 114 = .ok (.istore_n 3, 1) := by decide +kernel
theorem dX10_firstMismatch_115 : decode cX10_firstMismatch 115 = .ok (.iinc 4 1, 3) := by decide +kernel
theorem dX10_firstMismatch_118 : decode cX10_firstMismatch 118 = .ok (.goto (-63), 3) := by decide +kernel
theorem dX10_firstMismatch_121 : decode cX10_firstMismatch 121 = .ok (.iload_n 3, 1) := by decide +kernel
theorem dX10_firstMismatch_122 : decode cX10_firstMismatch 122 = .ok (.ifCond .ne 5, 3) := by decide +kernel
theorem dX10_firstMismatch_125 : decode cX10_firstMismatch 125 = .ok (.iload_n 1, 1) := by decide +kernel
theorem dX10_firstMismatch_126 : decode cX10_firstMismatch 126 = .ok (.ireturn, 1) := by decide +kernel
theorem dX10_firstMismatch_127 : decode cX10_firstMismatch 127 = .ok (.iinc 1 1, 3) := by decide +kernel
theorem dX10_firstMismatch_130 : decode cX10_firstMismatch 130 = .ok (.goto (-108), 3) := by decide +kernel
theorem dX10_firstMismatch_133 : decode cX10_firstMismatch 133 = .ok (.bipush (-8), 2) := by decide +kernel
theorem dX10_firstMismatch_135 : decode cX10_firstMismatch 135 = .ok (.ireturn, 1) := by decide +kernel
theorem dX10_take_0 : decode cX10_take 0 = .ok (.iconst 0, 1) := by decide +kernel
theorem dX10_take_1 : decode cX10_take 1 = .ok (.istore_n 1, 1) := by decide +kernel
theorem dX10_take_2 : decode cX10_take 2 = .ok (.iconst 0, 1) := by decide +kernel
theorem dX10_take_3 : decode cX10_take 3 = .ok (.istore_n 2, 1) := by decide +kernel
theorem dX10_take_4 : decode cX10_take 4 = .ok (.iload_n 2, 1) := by decide +kernel
theorem dX10_take_5 : decode cX10_take 5 = .ok (.aload_n 0, 1) := by decide +kernel
theorem dX10_take_6 : decode cX10_take 6 = .ok (.invokevirtual 168, 3) := by decide +kernel
theorem dX10_take_9 : decode cX10_take 9 = .ok (.if_icmp .ge 60, 3) := by decide +kernel
theorem dX10_take_12 : decode cX10_take 12 = .ok (.aload_n 0, 1) := by decide +kernel
theorem dX10_take_13 : decode cX10_take 13 = .ok (.iload_n 2, 1) := by decide +kernel
theorem dX10_take_14 : decode cX10_take 14 = .ok (.invokevirtual 262, 3) := by decide +kernel
theorem dX10_take_17 : decode cX10_take 17 = .ok (.istore_n 3, 1) := by decide +kernel
theorem dX10_take_18 : decode cX10_take 18 = .ok (.aload_n 0, 1) := by decide +kernel
theorem dX10_take_19 : decode cX10_take 19 = .ok (.getfield 26, 3) := by decide +kernel
theorem dX10_take_22 : decode cX10_take 22 = .ok (.iload_n 2, 1) := by decide +kernel
theorem dX10_take_23 : decode cX10_take 23 = .ok (.iconst 0, 1) := by decide +kernel
theorem dX10_take_24 : decode cX10_take 24 = .ok (.iastore, 1) := by decide +kernel
theorem dX10_take_25 : decode cX10_take 25 = .ok (.iconst 0, 1) := by decide +kernel
theorem dX10_take_26 : decode cX10_take 26 = .ok (.istore 4, 2) := by decide +kernel
theorem dX10_take_28 : decode cX10_take 28 = .ok (.iload 4, 2) := by decide +kernel
theorem dX10_take_30 : decode cX10_take 30 = .ok (.iload_n 3, 1) := by decide +kernel
theorem dX10_take_31 : decode cX10_take 31 = .ok (.if_icmp .ge 28, 3) := by decide +kernel
theorem dX10_take_34 : decode cX10_take 34 = .ok (.aload_n 0, 1) := by decide +kernel
theorem dX10_take_35 : decode cX10_take 35 = .ok (.iload_n 2, 1) := by decide +kernel
theorem dX10_take_36 : decode cX10_take 36 = .ok (.aload_n 0, 1) := by decide +kernel
theorem dX10_take_37 : decode cX10_take 37 = .ok (.getfield 105, 3) := by decide +kernel
theorem dX10_take_40 : decode cX10_take 40 = .ok (.iload 4, 2) := by decide +kernel
theorem dX10_take_42 : decode cX10_take 42 = .ok (.iaload, 1) := by decide +kernel
theorem dX10_take_43 : decode cX10_take 43 = .ok (.aload_n 0, 1) := by decide +kernel
theorem dX10_take_44 : decode cX10_take 44 = .ok (.getfield 108, 3) := by decide +kernel
theorem dX10_take_47 : decode cX10_take 47 = .ok (.iload 4, 2) := by decide +kernel
theorem dX10_take_49 : decode cX10_take 49 = .ok (.iaload, 1) := by decide +kernel
theorem dX10_take_50 : decode cX10_take 50 = .ok (.invokevirtual 187, 3) := by decide +kernel
theorem dX10_take_53 : decode cX10_take 53 = .ok (.iinc 4 1, 3) := by decide +kernel
theorem dX10_take_56 : decode cX10_take 56 = .ok (.goto (-28), 3) := by decide +kernel
theorem dX10_take_59 : decode cX10_take 59 = .ok (.iload_n 1, 1) := by decide +kernel
theorem dX10_take_60 : decode cX10_take 60 = .ok (.iload_n 3, 1) := by decide +kernel
theorem dX10_take_61 : decode cX10_take 61 = .ok (.iadd, 1) := by decide +kernel
theorem dX10_take_62 : decode cX10_take 62 = .ok (.istore_n 1, 1) := by decide +kernel
theorem dX10_take_63 : decode cX10_take 63 = .ok (.iinc 2 1, 3) := by decide +kernel
theorem dX10_take_66 : decode cX10_take 66 = .ok (.goto (-62), 3) := by decide +kernel
theorem dX10_take_69 : decode cX10_take 69 = .ok (.iload_n 1, 1) := by decide +kernel
theorem dX10_take_70 : decode cX10_take 70 = .ok (.ireturn, 1) := by decide +kernel
theorem dX10_takeClues_0 : decode cX10_takeClues 0 = .ok (.aload_n 0, 1) := by decide +kernel
theorem dX10_takeClues_1 : decode cX10_takeClues 1 = .ok (.iconst 0, 1) := by decide +kernel
theorem dX10_takeClues_2 : decode cX10_takeClues 2 = .ok (.invokevirtual 211, 3) := by decide +kernel
theorem dX10_takeClues_5 : decode cX10_takeClues 5 = .ok (.aload_n 0, 1) := by decide +kernel
theorem dX10_takeClues_6 : decode cX10_takeClues 6 = .ok (.getfield 7, 3) := by decide +kernel
theorem dX10_takeClues_9 : decode cX10_takeClues 9 = .ok (.aload_n 0, 1) := by decide +kernel
theorem dX10_takeClues_10 : decode cX10_takeClues 10 = .ok (.getfield 13, 3) := by decide +kernel
theorem dX10_takeClues_13 : decode cX10_takeClues 13 = .ok (.imul, 1) := by decide +kernel
theorem dX10_takeClues_14 : decode cX10_takeClues 14 = .ok (.if_icmp .ge 6, 3) := by decide +kernel
theorem dX10_takeClues_17 : decode cX10_takeClues 17 = .ok (.bipush (-6), 2) := by decide +kernel
theorem dX10_takeClues_19 : decode cX10_takeClues 19 = .ok (.ireturn, 1) := by decide +kernel
theorem dX10_takeClues_20 : decode cX10_takeClues 20 = .ok (.aload_n 0, 1) := by decide +kernel
theorem dX10_takeClues_21 : decode cX10_takeClues 21 = .ok (.invokevirtual 184, 3) := by decide +kernel
theorem dX10_takeClues_24 : decode cX10_takeClues 24 = .ok (.aload_n 0, 1) := by decide +kernel
theorem dX10_takeClues_25 : decode cX10_takeClues 25 = .ok (.invokevirtual 265, 3) := by decide +kernel
theorem dX10_takeClues_28 : decode cX10_takeClues 28 = .ok (.ireturn, 1) := by decide +kernel
theorem dX10_drawPicture_0 : decode cX10_drawPicture 0 = .ok (.iload_n 1, 1) := by decide +kernel
theorem dX10_drawPicture_1 : decode cX10_drawPicture 1 = .ok (.istore_n 2, 1) := by decide +kernel
theorem dX10_drawPicture_2 : decode cX10_drawPicture 2 = .ok (.iconst 0, 1) := by decide +kernel
theorem dX10_drawPicture_3 : decode cX10_drawPicture 3 = .ok (.istore_n 3, 1) := by decide +kernel
theorem dX10_drawPicture_4 : decode cX10_drawPicture 4 = .ok (.iconst 0, 1) := by decide +kernel
theorem dX10_drawPicture_5 : decode cX10_drawPicture 5 = .ok (.istore 4, 2) := by decide +kernel
theorem dX10_drawPicture_7 : decode cX10_drawPicture 7 = .ok (.iload 4, 2) := by decide +kernel
theorem dX10_drawPicture_9 : decode cX10_drawPicture 9 = .ok (.aload_n 0, 1) := by decide +kernel
theorem dX10_drawPicture_10 : decode cX10_drawPicture 10 = .ok (.getfield 7, 3) := by decide +kernel
theorem dX10_drawPicture_13 : decode cX10_drawPicture 13 = .ok (.if_icmp .ge 80, 3) := by decide +kernel
theorem dX10_drawPicture_16 : decode cX10_drawPicture 16 = .ok (.iconst 0, 1) := by decide +kernel
theorem dX10_drawPicture_17 : decode cX10_drawPicture 17 = .ok (.istore 5, 2) := by decide +kernel
theorem dX10_drawPicture_19 : decode cX10_drawPicture 19 = .ok (.iload 5, 2) := by decide +kernel
theorem dX10_drawPicture_21 : decode cX10_drawPicture 21 = .ok (.aload_n 0, 1) := by decide +kernel
theorem dX10_drawPicture_22 : decode cX10_drawPicture 22 = .ok (.getfield 13, 3) := by decide +kernel
theorem dX10_drawPicture_25 : decode cX10_drawPicture 25 = .ok (.if_icmp .ge 62, 3) := by decide +kernel
theorem dX10_drawPicture_28 : decode cX10_drawPicture 28 = .ok (.iload_n 2, 1) := by decide +kernel
theorem dX10_drawPicture_29 : decode cX10_drawPicture 29 = .ok (.ldc_w 268, 3) := by decide +kernel
theorem dX10_drawPicture_32 : decode cX10_drawPicture 32 = .ok (.imul, 1) := by decide +kernel
theorem dX10_drawPicture_33 : decode cX10_drawPicture 33 = .ok (.sipush 12345, 3) := by decide +kernel
theorem dX10_drawPicture_36 : decode cX10_drawPicture 36 = .ok (.iadd, 1) := by decide +kernel
theorem dX10_drawPicture_37 : decode cX10_drawPicture 37 = .ok (.istore_n 2, 1) := by decide +kernel
theorem dX10_drawPicture_38 : decode cX10_drawPicture 38 = .ok (.iload_n 2, 1) := by decide +kernel
theorem dX10_drawPicture_39 : decode cX10_drawPicture 39 = .ok (.bipush 16, 2) := by decide +kernel
theorem dX10_drawPicture_41 : decode cX10_drawPicture 41 = .ok (.iushr, 1) := by decide +kernel
theorem dX10_drawPicture_42 : decode cX10_drawPicture 42 = .ok (.aload_n 0, 1) := by decide +kernel
theorem dX10_drawPicture_43 : decode cX10_drawPicture 43 = .ok (.getfield 16, 3) := by decide +kernel
theorem dX10_drawPicture_46 : decode cX10_drawPicture 46 = .ok (.iconst 1, 1) := by decide +kernel
theorem dX10_drawPicture_47 : decode cX10_drawPicture 47 = .ok (.iadd, 1) := by decide +kernel
theorem dX10_drawPicture_48 : decode cX10_drawPicture 48 = .ok (.irem, 1) := by decide +kernel
theorem dX10_drawPicture_49 : decode cX10_drawPicture 49 = .ok (.istore 6, 2) := by decide +kernel
theorem dX10_drawPicture_51 : decode cX10_drawPicture 51 = .ok (.aload_n 0, 1) := by decide +kernel
theorem dX10_drawPicture_52 : decode cX10_drawPicture 52 = .ok (.getfield 22, 3) := by decide +kernel
theorem dX10_drawPicture_55 : decode cX10_drawPicture 55 = .ok (.bipush 8, 2) := by decide +kernel
theorem dX10_drawPicture_57 : decode cX10_drawPicture 57 = .ok (.iload 4, 2) := by decide +kernel
theorem dX10_drawPicture_59 : decode cX10_drawPicture 59 = .ok (.imul, 1) := by decide +kernel
theorem dX10_drawPicture_60 : decode cX10_drawPicture 60 = .ok (.iload 5, 2) := by decide +kernel
theorem dX10_drawPicture_62 : decode cX10_drawPicture 62 = .ok (.iadd, 1) := by decide +kernel
theorem dX10_drawPicture_63 : decode cX10_drawPicture 63 = .ok (.iconst 1, 1) := by decide +kernel
theorem dX10_drawPicture_64 : decode cX10_drawPicture 64 = .ok (.iload 6, 2) := by decide +kernel
theorem dX10_drawPicture_66 : decode cX10_drawPicture 66 = .ok (.ishl, 1) := by decide +kernel
theorem dX10_drawPicture_67 : decode cX10_drawPicture 67 = .ok (.iastore, 1) := by decide +kernel
theorem dX10_drawPicture_68 : decode cX10_drawPicture 68 = .ok (.iload_n 3, 1) := by decide +kernel
theorem dX10_drawPicture_69 : decode cX10_drawPicture 69 = .ok (.iload 6, 2) := by decide +kernel
theorem dX10_drawPicture_71 : decode cX10_drawPicture 71 = .ok (.ifCond .le 7, 3) := by decide +kernel
theorem dX10_drawPicture_74 : decode cX10_drawPicture 74 = .ok (.iconst 1, 1) := by decide +kernel
theorem dX10_drawPicture_75 : decode cX10_drawPicture 75 = .ok (.goto 4, 3) := by decide +kernel
theorem dX10_drawPicture_78 : decode cX10_drawPicture 78 = .ok (.iconst 0, 1) := by decide +kernel
theorem dX10_drawPicture_79 : decode cX10_drawPicture 79 = .ok (.iadd, 1) := by decide +kernel
theorem dX10_drawPicture_80 : decode cX10_drawPicture 80 = .ok (.istore_n 3, 1) := by decide +kernel
theorem dX10_drawPicture_81 : decode cX10_drawPicture 81 = .ok (.iinc 5 1, 3) := by decide +kernel
theorem dX10_drawPicture_84 : decode cX10_drawPicture 84 = .ok (.goto (-65), 3) := by decide +kernel
theorem dX10_drawPicture_87 : decode cX10_drawPicture 87 = .ok (.iinc 4 1, 3) := by decide +kernel
theorem dX10_drawPicture_90 : decode cX10_drawPicture 90 = .ok (.goto (-83), 3) := by decide +kernel
theorem dX10_drawPicture_93 : decode cX10_drawPicture 93 = .ok (.aload_n 0, 1) := by decide +kernel
theorem dX10_drawPicture_94 : decode cX10_drawPicture 94 = .ok (.iconst 0, 1) := by decide +kernel
theorem dX10_drawPicture_95 : decode cX10_drawPicture 95 = .ok (.putfield 35, 3) := by decide +kernel
theorem dX10_drawPicture_98 : decode cX10_drawPicture 98 = .ok (.aload_n 0, 1) := by decide +kernel
theorem dX10_drawPicture_99 : decode cX10_drawPicture 99 = .ok (.invokevirtual 265, 3) := by decide +kernel
theorem dX10_drawPicture_102 : decode cX10_drawPicture 102 = .ok (.istore 4, 2) := by decide +kernel
theorem dX10_drawPicture_104 : decode cX10_drawPicture 104 = .ok (.iload_n 3, 1) := by decide +kernel
theorem dX10_drawPicture_105 : decode cX10_drawPicture 105 = .ok (.ireturn, 1) := by decide +kernel
theorem dX10_clearCells_0 : decode cX10_clearCells 0 = .ok (.aload_n 0, 1) := by decide +kernel
theorem dX10_clearCells_1 : decode cX10_clearCells 1 = .ok (.iconst 0, 1) := by decide +kernel
theorem dX10_clearCells_2 : decode cX10_clearCells 2 = .ok (.invokevirtual 211, 3) := by decide +kernel
theorem dX10_clearCells_5 : decode cX10_clearCells 5 = .ok (.istore_n 1, 1) := by decide +kernel
theorem dX10_clearCells_6 : decode cX10_clearCells 6 = .ok (.aload_n 0, 1) := by decide +kernel
theorem dX10_clearCells_7 : decode cX10_clearCells 7 = .ok (.invokevirtual 165, 3) := by decide +kernel
theorem dX10_clearCells_10 : decode cX10_clearCells 10 = .ok (.aload_n 0, 1) := by decide +kernel
theorem dX10_clearCells_11 : decode cX10_clearCells 11 = .ok (.iconst 0, 1) := by decide +kernel
theorem dX10_clearCells_12 : decode cX10_clearCells 12 = .ok (.putfield 35, 3) := by decide +kernel
theorem dX10_clearCells_15 : decode cX10_clearCells 15 = .ok (.iload_n 1, 1) := by decide +kernel
theorem dX10_clearCells_16 : decode cX10_clearCells 16 = .ok (.ireturn, 1) := by decide +kernel
theorem dX10_appendText_0 : decode cX10_appendText 0 = .ok (.aload_n 0, 1) := by decide +kernel
theorem dX10_appendText_1 : decode cX10_appendText 1 = .ok (.iload_n 1, 1) := by decide +kernel
theorem dX10_appendText_2 : decode cX10_appendText 2 = .ok (.bipush 32, 2) := by decide +kernel
theorem dX10_appendText_4 : decode cX10_appendText 4 = .ok (.bipush 126, 2) := by decide +kernel
theorem dX10_appendText_6 : decode cX10_appendText 6 = .ok (.invokevirtual 172, 3) := by decide +kernel
theorem dX10_appendText_9 : decode cX10_appendText 9 = .ok (.ifCond .ne 6, 3) := by decide +kernel
theorem dX10_appendText_12 : decode cX10_appendText 12 = .ok (.bipush (-2), 2) := by decide +kernel
theorem dX10_appendText_14 : decode cX10_appendText 14 = .ok (.ireturn, 1) := by decide +kernel
theorem dX10_appendText_15 : decode cX10_appendText 15 = .ok (.aload_n 0, 1) := by decide +kernel
theorem dX10_appendText_16 : decode cX10_appendText 16 = .ok (.getfield 117, 3) := by decide +kernel
theorem dX10_appendText_19 : decode cX10_appendText 19 = .ok (.bipush 120, 2) := by decide +kernel
theorem dX10_appendText_21 : decode cX10_appendText 21 = .ok (.if_icmp .ne 6, 3) := by decide +kernel
theorem dX10_appendText_24 : decode cX10_appendText 24 = .ok (.bipush (-3), 2) := by decide +kernel
theorem dX10_appendText_26 : decode cX10_appendText 26 = .ok (.ireturn, 1) := by decide +kernel
theorem dX10_appendText_27 : decode cX10_appendText 27 = .ok (.aload_n 0, 1) := by decide +kernel
theorem dX10_appendText_28 : decode cX10_appendText 28 = .ok (.getfield 111, 3) := by decide +kernel
theorem dX10_appendText_31 : decode cX10_appendText 31 = .ok (.aload_n 0, 1) := by decide +kernel
theorem dX10_appendText_32 : decode cX10_appendText 32 = .ok (.getfield 117, 3) := by decide +kernel
theorem dX10_appendText_35 : decode cX10_appendText 35 = .ok (.iload_n 1, 1) := by decide +kernel
theorem dX10_appendText_36 : decode cX10_appendText 36 = .ok (.iastore, 1) := by decide +kernel
theorem dX10_appendText_37 : decode cX10_appendText 37 = .ok (.aload_n 0, 1) := by decide +kernel
theorem dX10_appendText_38 : decode cX10_appendText 38 = .ok (.dup, 1) := by decide +kernel
theorem dX10_appendText_39 : decode cX10_appendText 39 = .ok (.getfield 117, 3) := by decide +kernel
theorem dX10_appendText_42 : decode cX10_appendText 42 = .ok (.iconst 1, 1) := by decide +kernel
theorem dX10_appendText_43 : decode cX10_appendText 43 = .ok (.iadd, 1) := by decide +kernel
theorem dX10_appendText_44 : decode cX10_appendText 44 = .ok (.putfield 117, 3) := by decide +kernel
theorem dX10_appendText_47 : decode cX10_appendText 47 = .ok (.aload_n 0, 1) := by decide +kernel
theorem dX10_appendText_48 : decode cX10_appendText 48 = .ok (.getfield 117, 3) := by decide +kernel
theorem dX10_appendText_51 : decode cX10_appendText 51 = .ok (.ireturn, 1) := by decide +kernel
theorem dX10_read_0 : decode cX10_read 0 = .ok (.iconst 0, 1) := by decide +kernel
theorem dX10_read_1 : decode cX10_read 1 = .ok (.istore_n 2, 1) := by decide +kernel
theorem dX10_read_2 : decode cX10_read 2 = .ok (.iconst 0, 1) := by decide +kernel
theorem dX10_read_3 : decode cX10_read 3 = .ok (.istore_n 3, 1) := by decide +kernel
theorem dX10_read_4 : decode cX10_read 4 = .ok (.aload_n 0, 1) := by decide +kernel
theorem dX10_read_5 : decode cX10_read 5 = .ok (.getfield 123, 3) := by decide +kernel
theorem dX10_read_8 : decode cX10_read 8 = .ok (.iconst 0, 1) := by decide +kernel
theorem dX10_read_9 : decode cX10_read 9 = .ok (.iconst 0, 1) := by decide +kernel
theorem dX10_read_10 : decode cX10_read 10 = .ok (.iastore, 1) := by decide +kernel
theorem dX10_read_11 : decode cX10_read 11 = .ok (.iconst 0, 1) := by decide +kernel
theorem dX10_read_12 : decode cX10_read 12 = .ok (.istore 4, 2) := by decide +kernel
theorem dX10_read_14 : decode cX10_read 14 = .ok (.iload 4, 2) := by decide +kernel
theorem dX10_read_16 : decode cX10_read 16 = .ok (.iload_n 1, 1) := by decide +kernel
theorem dX10_read_17 : decode cX10_read 17 = .ok (.if_icmp .ge 166, 3) := by decide +kernel
theorem dX10_read_20 : decode cX10_read 20 = .ok (.aload_n 0, 1) := by decide +kernel
theorem dX10_read_21 : decode cX10_read 21 = .ok (.getfield 111, 3) := by decide +kernel
theorem dX10_read_24 : decode cX10_read 24 = .ok (.iload 4, 2) := by decide +kernel
theorem dX10_read_26 : decode cX10_read 26 = .ok (.iaload, 1) := by decide +kernel
theorem dX10_read_27 : decode cX10_read 27 = .ok (.istore 5, 2) := by decide +kernel
theorem dX10_read_29 : decode cX10_read 29 = .ok (.iload_n 3, 1) := by decide +kernel
theorem dX10_read_30 : decode cX10_read 30 = .ok (.ifCond .le 81, 3) := by decide +kernel
theorem dX10_read_33 : decode cX10_read 33 = .ok (.aload_n 0, 1) := by decide +kernel
theorem dX10_read_34 : decode cX10_read 34 = .ok (.iload 5, 2) := by decide +kernel
theorem dX10_read_36 : decode cX10_read 36 = .ok (.bipush 97, 2) := by decide +kernel
theorem dX10_read_38 : decode cX10_read 38 = .ok (.bipush 97, 2) := by decide +kernel
theorem dX10_read_40 : decode cX10_read 40 = .ok (.aload_n 0, 1) := by decide +kernel
theorem dX10_read_41 : decode cX10_read 41 = .ok (.getfield 16, 3) := by decide +kernel
theorem dX10_read_44 : decode cX10_read 44 = .ok (.iadd, 1) := by decide +kernel
theorem dX10_read_45 : decode cX10_read 45 = .ok (.iconst 1, 1) := by decide +kernel
theorem dX10_read_46 : decode cX10_read 46 = .ok (.isub, 1) := by decide +kernel
theorem dX10_read_47 : decode cX10_read 47 = .ok (.invokevirtual 172, 3) := by decide +kernel
theorem dX10_read_50 : decode cX10_read 50 = .ok (.ifCond .ne 6, 3) := by decide +kernel
theorem dX10_read_53 : decode cX10_read 53 = .ok (.iload 4, 2) := by decide +kernel
theorem dX10_read_55 : decode cX10_read 55 = .ok (.ireturn, 1) := by decide +kernel
theorem dX10_read_56 : decode cX10_read 56 = .ok (.aload_n 0, 1) := by decide +kernel
theorem dX10_read_57 : decode cX10_read 57 = .ok (.getfield 126, 3) := by decide +kernel
theorem dX10_read_60 : decode cX10_read 60 = .ok (.bipush 8, 2) := by decide +kernel
theorem dX10_read_62 : decode cX10_read 62 = .ok (.iload_n 2, 1) := by decide +kernel
theorem dX10_read_63 : decode cX10_read 63 = .ok (.imul, 1) := by decide +kernel
theorem dX10_read_64 : decode cX10_read 64 = .ok (.aload_n 0, 1) := by decide +kernel
theorem dX10_read_65 : decode cX10_read 65 = .ok (.getfield 123, 3) := by decide +kernel
theorem dX10_read_68 : decode cX10_read 68 = .ok (.iload_n 2, 1) := by decide +kernel
theorem dX10_read_69 : decode cX10_read 69 = .ok (.iaload, 1) := by decide +kernel
theorem dX10_read_70 : decode cX10_read 70 = .ok (.iadd, 1) := by decide +kernel
theorem dX10_read_71 : decode cX10_read 71 = .ok (.iload_n 3, 1) := by decide +kernel
theorem dX10_read_72 : decode cX10_read 72 = .ok (.iastore, 1) := by decide +kernel
theorem dX10_read_73 : decode cX10_read 73 = .ok (.aload_n 0, 1) := by decide +kernel
theorem dX10_read_74 : decode cX10_read 74 = .ok (.getfield 129, 3) := by decide +kernel
theorem dX10_read_77 : decode cX10_read 77 = .ok (.bipush 8, 2) := by decide +kernel
theorem dX10_read_79 : decode cX10_read 79 = .ok (.iload_n 2, 1) := by decide +kernel
theorem dX10_read_80 : decode cX10_read 80 = .ok (.imul, 1) := by decide +kernel
theorem dX10_read_81 : decode cX10_read 81 = .ok (.aload_n 0, 1) := by decide +kernel
theorem dX10_read_82 : decode cX10_read 82 = .ok (.getfield 123, 3) := by decide +kernel
theorem dX10_read_85 : decode cX10_read 85 = .ok (.iload_n 2, 1) := by decide +kernel
theorem dX10_read_86 : decode cX10_read 86 = .ok (.iaload, 1) := by decide +kernel
theorem dX10_read_87 : decode cX10_read 87 = .ok (.iadd, 1) := by decide +kernel
theorem dX10_read_88 : decode cX10_read 88 = .ok (.iload 5, 2) := by decide +kernel
theorem dX10_read_90 : decode cX10_read 90 = .ok (.bipush 97, 2) := by decide +kernel
theorem dX10_read_92 : decode cX10_read 92 = .ok (.isub, 1) := by decide +kernel
theorem dX10_read_93 : decode cX10_read 93 = .ok (.iconst 1, 1) := by decide +kernel
theorem dX10_read_94 : decode cX10_read 94 = .ok (.iadd, 1) := by decide +kernel
theorem dX10_read_95 : decode cX10_read 95 = .ok (.iastore, 1) := by decide +kernel
theorem dX10_read_96 : decode cX10_read 96 = .ok (.aload_n 0, 1) := by decide +kernel
theorem dX10_read_97 : decode cX10_read 97 = .ok (.getfield 123, 3) := by decide +kernel
theorem dX10_read_100 : decode cX10_read 100 = .ok (.iload_n 2, 1) := by decide +kernel
theorem dX10_read_101 : decode cX10_read 101 = .ok (.dup2, 1) := by decide +kernel
theorem dX10_read_102 : decode cX10_read 102 = .ok (.iaload, 1) := by decide +kernel
theorem dX10_read_103 : decode cX10_read 103 = .ok (.iconst 1, 1) := by decide +kernel
theorem dX10_read_104 : decode cX10_read 104 = .ok (.iadd, 1) := by decide +kernel
theorem dX10_read_105 : decode cX10_read 105 = .ok (.iastore, 1) := by decide +kernel
theorem dX10_read_106 : decode cX10_read 106 = .ok (.iconst 0, 1) := by decide +kernel
theorem dX10_read_107 : decode cX10_read 107 = .ok (.istore_n 3, 1) := by decide +kernel
theorem dX10_read_108 : decode cX10_read 108 = .ok (.goto 69, 3) := by decide +kernel
theorem dX10_read_111 : decode cX10_read 111 = .ok (.iload 5, 2) := by decide +kernel
theorem dX10_read_113 : decode cX10_read 113 = .ok (.bipush 47, 2) := by decide +kernel
theorem dX10_read_115 : decode cX10_read 115 = .ok (.if_icmp .ne 29, 3) := by decide +kernel
theorem dX10_read_118 : decode cX10_read 118 = .ok (.iload_n 2, 1) := by decide +kernel
theorem dX10_read_119 : decode cX10_read 119 = .ok (.aload_n 0, 1) := by decide +kernel
theorem dX10_read_120 : decode cX10_read 120 = .ok (.invokevirtual 168, 3) := by decide +kernel
theorem dX10_read_123 : decode cX10_read 123 = .ok (.iconst 1, 1) := by decide +kernel
theorem dX10_read_124 : decode cX10_read 124 = .ok (.isub, 1) := by decide +kernel
theorem dX10_read_125 : decode cX10_read 125 = .ok (.if_icmp .ne 6, 3) := by decide +kernel
theorem dX10_read_128 : decode cX10_read 128 = .ok (.iload 4, 2) := by decide +kernel
theorem dX10_read_130 : decode cX10_read 130 = .ok (.ireturn, 1) := by decide +kernel
theorem dX10_read_131 : decode cX10_read 131 = .ok (.iinc 2 1, 3) := by decide +kernel
theorem dX10_read_134 : decode cX10_read 134 = .ok (.aload_n 0, 1) := by decide +kernel
theorem dX10_read_135 : decode cX10_read 135 = .ok (.getfield 123, 3) := by decide +kernel
theorem dX10_read_138 : decode cX10_read 138 = .ok (.iload_n 2, 1) := by decide +kernel
theorem dX10_read_139 : decode cX10_read 139 = .ok (.iconst 0, 1) := by decide +kernel
theorem dX10_read_140 : decode cX10_read 140 = .ok (.iastore, 1) := by decide +kernel
theorem dX10_read_141 : decode cX10_read 141 = .ok (.goto 36, 3) := by decide +kernel
theorem dX10_read_144 : decode cX10_read 144 = .ok (.aload_n 0, 1) := by decide +kernel
theorem dX10_read_145 : decode cX10_read 145 = .ok (.iload 5, 2) := by decide +kernel
theorem dX10_read_147 : decode cX10_read 147 = .ok (.bipush 49, 2) := by decide +kernel
theorem dX10_read_149 : decode cX10_read 149 = .ok (.bipush 56, 2) := by decide +kernel
theorem dX10_read_151 : decode cX10_read 151 = .ok (.invokevirtual 172, 3) := by decide +kernel
theorem dX10_read_154 : decode cX10_read 154 = .ok (.ifCond .eq 14, 3) := by decide +kernel
theorem dX10_read_157 : decode cX10_read 157 = .ok (.aload_n 0, 1) := by decide +kernel
theorem dX10_read_158 : decode cX10_read 158 = .ok (.getfield 123, 3) := by decide +kernel
theorem dX10_read_161 : decode cX10_read 161 = .ok (.iload_n 2, 1) := by decide +kernel
theorem dX10_read_162 : decode cX10_read 162 = .ok (.iaload, 1) := by decide +kernel
theorem dX10_read_163 : decode cX10_read 163 = .ok (.bipush 8, 2) := by decide +kernel
theorem dX10_read_165 : decode cX10_read 165 = .ok (.if_icmp .ne 6, 3) := by decide +kernel
theorem dX10_read_168 : decode cX10_read 168 = .ok (.iload 4, 2) := by decide +kernel
theorem dX10_read_170 : decode cX10_read 170 = .ok (.ireturn, 1) := by decide +kernel
theorem dX10_read_171 : decode cX10_read 171 = .ok (.iload 5, 2) := by decide +kernel
theorem dX10_read_173 : decode cX10_read 173 = .ok (.bipush 48, 2) := by decide +kernel
theorem dX10_read_175 : decode cX10_read 175 = .ok (.isub, 1) := by decide +kernel
theorem dX10_read_176 : decode cX10_read 176 = .ok (.istore_n 3, 1) := by decide +kernel
theorem dX10_read_177 : decode cX10_read 177 = .ok (.iinc 4 1, 3) := by decide +kernel
theorem dX10_read_180 : decode cX10_read 180 = .ok (.goto (-166), 3) := by decide +kernel
theorem dX10_read_183 : decode cX10_read 183 = .ok (.iload_n 3, 1) := by decide +kernel
theorem dX10_read_184 : decode cX10_read 184 = .ok (.ifCond .gt 13, 3) := by decide +kernel
theorem dX10_read_187 : decode cX10_read 187 = .ok (.iload_n 2, 1) := by decide +kernel
theorem dX10_read_188 : decode cX10_read 188 = .ok (.aload_n 0, 1) := by decide +kernel
theorem dX10_read_189 : decode cX10_read 189 = .ok (.invokevirtual 168, 3) := by decide +kernel
theorem dX10_read_192 : decode cX10_read 192 = .ok (.iconst 1, 1) := by decide +kernel
theorem dX10_read_193 : decode cX10_read 193 = .ok (.isub, 1) := by decide +kernel
theorem dX10_read_194 : decode cX10_read 194 = .ok (.if_icmp .ge 7, 3) := by decide +kernel
theorem dX10_read_197 : decode cX10_read 197 = .ok (.iload_n 1, 1) := by decide +kernel
theorem dX10_read_198 : decode cX10_read 198 = .ok (.goto 4, 3) := by decide +kernel
theorem dX10_read_201 : decode cX10_read 201 = .ok (.iconst (-1), 1) := by decide +kernel
theorem dX10_read_202 : decode cX10_read 202 = .ok (.ireturn, 1) := by decide +kernel
theorem dX10_parseClues_0 : decode cX10_parseClues 0 = .ok (.aload_n 0, 1) := by decide +kernel
theorem dX10_parseClues_1 : decode cX10_parseClues 1 = .ok (.aload_n 0, 1) := by decide +kernel
theorem dX10_parseClues_2 : decode cX10_parseClues 2 = .ok (.getfield 117, 3) := by decide +kernel
theorem dX10_parseClues_5 : decode cX10_parseClues 5 = .ok (.invokevirtual 269, 3) := by decide +kernel
theorem dX10_parseClues_8 : decode cX10_parseClues 8 = .ok (.istore_n 1, 1) := by decide +kernel
theorem dX10_parseClues_9 : decode cX10_parseClues 9 = .ok (.aload_n 0, 1) := by decide +kernel
theorem dX10_parseClues_10 : decode cX10_parseClues 10 = .ok (.iconst 0, 1) := by decide +kernel
theorem dX10_parseClues_11 : decode cX10_parseClues 11 = .ok (.putfield 117, 3) := by decide +kernel
theorem dX10_parseClues_14 : decode cX10_parseClues 14 = .ok (.iload_n 1, 1) := by decide +kernel
theorem dX10_parseClues_15 : decode cX10_parseClues 15 = .ok (.ifCond .lt 8, 3) := by decide +kernel
theorem dX10_parseClues_18 : decode cX10_parseClues 18 = .ok (.bipush (-100), 2) := by decide +kernel
theorem dX10_parseClues_20 : decode cX10_parseClues 20 = .ok (.iload_n 1, 1) := by decide +kernel
theorem dX10_parseClues_21 : decode cX10_parseClues 21 = .ok (.isub, 1) := by decide +kernel
theorem dX10_parseClues_22 : decode cX10_parseClues 22 = .ok (.ireturn, 1) := by decide +kernel
theorem dX10_parseClues_23 : decode cX10_parseClues 23 = .ok (.aload_n 0, 1) := by decide +kernel
theorem dX10_parseClues_24 : decode cX10_parseClues 24 = .ok (.invokevirtual 184, 3) := by decide +kernel
theorem dX10_parseClues_27 : decode cX10_parseClues 27 = .ok (.iconst 0, 1) := by decide +kernel
theorem dX10_parseClues_28 : decode cX10_parseClues 28 = .ok (.istore_n 2, 1) := by decide +kernel
theorem dX10_parseClues_29 : decode cX10_parseClues 29 = .ok (.iconst 0, 1) := by decide +kernel
theorem dX10_parseClues_30 : decode cX10_parseClues 30 = .ok (.istore_n 3, 1) := by decide +kernel
theorem dX10_parseClues_31 : decode cX10_parseClues 31 = .ok (.iload_n 3, 1) := by decide +kernel
theorem dX10_parseClues_32 : decode cX10_parseClues 32 = .ok (.aload_n 0, 1) := by decide +kernel
theorem dX10_parseClues_33 : decode cX10_parseClues 33 = .ok (.invokevirtual 168, 3) := by decide +kernel
theorem dX10_parseClues_36 : decode cX10_parseClues 36 = .ok (.if_icmp .ge 74, 3) := by decide +kernel
theorem dX10_parseClues_39 : decode cX10_parseClues 39 = .ok (.aload_n 0, 1) := by decide +kernel
theorem dX10_parseClues_40 : decode cX10_parseClues 40 = .ok (.getfield 26, 3) := by decide +kernel
theorem dX10_parseClues_43 : decode cX10_parseClues 43 = .ok (.iload_n 3, 1) := by decide +kernel
theorem dX10_parseClues_44 : decode cX10_parseClues 44 = .ok (.iconst 0, 1) := by decide +kernel
theorem dX10_parseClues_45 : decode cX10_parseClues 45 = .ok (.iastore, 1) := by decide +kernel
theorem dX10_parseClues_46 : decode cX10_parseClues 46 = .ok (.iconst 0, 1) := by decide +kernel
theorem dX10_parseClues_47 : decode cX10_parseClues 47 = .ok (.istore 4, 2) := by decide +kernel
theorem dX10_parseClues_49 : decode cX10_parseClues 49 = .ok (.iload 4, 2) := by decide +kernel
theorem dX10_parseClues_51 : decode cX10_parseClues 51 = .ok (.aload_n 0, 1) := by decide +kernel
theorem dX10_parseClues_52 : decode cX10_parseClues 52 = .ok (.getfield 123, 3) := by decide +kernel
theorem dX10_parseClues_55 : decode cX10_parseClues 55 = .ok (.iload_n 3, 1) := by decide +kernel
theorem dX10_parseClues_56 : decode cX10_parseClues 56 = .ok (.iaload, 1) := by decide +kernel
theorem dX10_parseClues_57 : decode cX10_parseClues 57 = .ok (.if_icmp .ge 38, 3) := by decide +kernel
theorem dX10_parseClues_60 : decode cX10_parseClues 60 = .ok (.aload_n 0, 1) := by decide +kernel
theorem dX10_parseClues_61 : decode cX10_parseClues 61 = .ok (.iload_n 3, 1) := by decide +kernel
theorem dX10_parseClues_62 : decode cX10_parseClues 62 = .ok (.aload_n 0, 1) := by decide +kernel
theorem dX10_parseClues_63 : decode cX10_parseClues 63 = .ok (.getfield 126, 3) := by decide +kernel
theorem dX10_parseClues_66 : decode cX10_parseClues 66 = .ok (.bipush 8, 2) := by decide +kernel
theorem dX10_parseClues_68 : decode cX10_parseClues 68 = .ok (.iload_n 3, 1) := by decide +kernel
theorem dX10_parseClues_69 : decode cX10_parseClues 69 = .ok (.imul, 1) := by decide +kernel
theorem dX10_parseClues_70 : decode cX10_parseClues 70 = .ok (.iload 4, 2) := by decide +kernel
theorem dX10_parseClues_72 : decode cX10_parseClues 72 = .ok (.iadd, 1) := by decide +kernel
theorem dX10_parseClues_73 : decode cX10_parseClues 73 = .ok (.iaload, 1) := by decide +kernel
theorem dX10_parseClues_74 : decode cX10_parseClues 74 = .ok (.aload_n 0, 1) := by decide +kernel
theorem dX10_parseClues_75 : decode cX10_parseClues 75 = .ok (.getfield 129, 3) := by decide +kernel
theorem dX10_parseClues_78 : decode cX10_parseClues 78 = .ok (.bipush 8, 2) := by decide +kernel
theorem dX10_parseClues_80 : decode cX10_parseClues 80 = .ok (.iload_n 3, 1) := by decide +kernel
theorem dX10_parseClues_81 : decode cX10_parseClues 81 = .ok (.imul, 1) := by decide +kernel
theorem dX10_parseClues_82 : decode cX10_parseClues 82 = .ok (.iload 4, 2) := by decide +kernel
theorem dX10_parseClues_84 : decode cX10_parseClues 84 = .ok (.iadd, 1) := by decide +kernel
theorem dX10_parseClues_85 : decode cX10_parseClues 85 = .ok (.iaload, 1) := by decide +kernel
theorem dX10_parseClues_86 : decode cX10_parseClues 86 = .ok (.invokevirtual 187, 3) := by decide +kernel
theorem dX10_parseClues_89 : decode cX10_parseClues 89 = .ok (.iinc 4 1, 3) := by decide +kernel
theorem dX10_parseClues_92 : decode cX10_parseClues 92 = .ok (.goto (-43), 3) := by decide +kernel
theorem dX10_parseClues_95 : decode cX10_parseClues 95 = .ok (.iload_n 2, 1) := by decide +kernel
theorem dX10_parseClues_96 : decode cX10_parseClues 96 = .ok (.aload_n 0, 1) := by decide +kernel
theorem dX10_parseClues_97 : decode cX10_parseClues 97 = .ok (.getfield 26, 3) := by decide +kernel
theorem dX10_parseClues_100 : decode cX10_parseClues 100 = .ok (.iload_n 3, 1) := by decide +kernel
theorem dX10_parseClues_101 : decode cX10_parseClues 101 = .ok (.iaload, 1) := by decide +kernel
theorem dX10_parseClues_102 : decode cX10_parseClues 102 = .ok (.iadd, 1) := by decide +kernel
theorem dX10_parseClues_103 : decode cX10_parseClues 103 = .ok (.istore_n 2, 1) := by decide +kernel
theorem dX10_parseClues_104 : decode cX10_parseClues 104 = .ok (.iinc 3 1, 3) := by decide +kernel
theorem dX10_parseClues_107 : decode cX10_parseClues 107 = .ok (.goto (-76), 3) := by decide +kernel
theorem dX10_parseClues_110 : decode cX10_parseClues 110 = .ok (.iload_n 2, 1) := by decide +kernel
theorem dX10_parseClues_111 : decode cX10_parseClues 111 = .ok (.ireturn, 1) := by decide +kernel
theorem dX10_say_0 : decode cX10_say 0 = .ok (.aload_n 0, 1) := by decide +kernel
theorem dX10_say_1 : decode cX10_say 1 = .ok (.getfield 114, 3) := by decide +kernel
theorem dX10_say_4 : decode cX10_say 4 = .ok (.aload_n 0, 1) := by decide +kernel
theorem dX10_say_5 : decode cX10_say 5 = .ok (.getfield 120, 3) := by decide +kernel
theorem dX10_say_8 : decode cX10_say 8 = .ok (.iload_n 1, 1) := by decide +kernel
theorem dX10_say_9 : decode cX10_say 9 = .ok (.iastore, 1) := by decide +kernel
theorem dX10_say_10 : decode cX10_say 10 = .ok (.aload_n 0, 1) := by decide +kernel
theorem dX10_say_11 : decode cX10_say 11 = .ok (.dup, 1) := by decide +kernel
theorem dX10_say_12 : decode cX10_say 12 = .ok (.getfield 120, 3) := by decide +kernel
theorem dX10_say_15 : decode cX10_say 15 = .ok (.iconst 1, 1) := by decide +kernel
theorem dX10_say_16 : decode cX10_say 16 = .ok (.iadd, 1) := by decide +kernel
theorem dX10_say_17 : decode cX10_say 17 = .ok (.putfield 120, 3) := by decide +kernel
theorem dX10_say_20 : decode cX10_say 20 = .ok (.return_, 1) := by decide +kernel
theorem dX10_formatClues_0 : decode cX10_formatClues 0 = .ok (.aload_n 0, 1) := by decide +kernel
theorem dX10_formatClues_1 : decode cX10_formatClues 1 = .ok (.iconst 0, 1) := by decide +kernel
theorem dX10_formatClues_2 : decode cX10_formatClues 2 = .ok (.putfield 120, 3) := by decide +kernel
theorem dX10_formatClues_5 : decode cX10_formatClues 5 = .ok (.iconst 0, 1) := by decide +kernel
theorem dX10_formatClues_6 : decode cX10_formatClues 6 = .ok (.istore_n 1, 1) := by decide +kernel
theorem dX10_formatClues_7 : decode cX10_formatClues 7 = .ok (.iload_n 1, 1) := by decide +kernel
theorem dX10_formatClues_8 : decode cX10_formatClues 8 = .ok (.aload_n 0, 1) := by decide +kernel
theorem dX10_formatClues_9 : decode cX10_formatClues 9 = .ok (.invokevirtual 168, 3) := by decide +kernel
theorem dX10_formatClues_12 : decode cX10_formatClues 12 = .ok (.if_icmp .ge 75, 3) := by decide +kernel
theorem dX10_formatClues_15 : decode cX10_formatClues 15 = .ok (.iload_n 1, 1) := by decide +kernel
theorem dX10_formatClues_16 : decode cX10_formatClues 16 = .ok (.ifCond .le 9, 3) := by decide +kernel
theorem dX10_formatClues_19 : decode cX10_formatClues 19 = .ok (.aload_n 0, 1) := by decide +kernel
theorem dX10_formatClues_20 : decode cX10_formatClues 20 = .ok (.bipush 47, 2) := by decide +kernel
theorem dX10_formatClues_22 : decode cX10_formatClues 22 = .ok (.invokevirtual 272, 3) := by decide +kernel
theorem dX10_formatClues_25 : decode cX10_formatClues 25 = .ok (.iconst 0, 1) := by decide +kernel
theorem dX10_formatClues_26 : decode cX10_formatClues 26 = .ok (.istore_n 2, 1) := by decide +kernel
theorem dX10_formatClues_27 : decode cX10_formatClues 27 = .ok (.iload_n 2, 1) := by decide +kernel
theorem dX10_formatClues_28 : decode cX10_formatClues 28 = .ok (.aload_n 0, 1) := by decide +kernel
theorem dX10_formatClues_29 : decode cX10_formatClues 29 = .ok (.getfield 26, 3) := by decide +kernel
theorem dX10_formatClues_32 : decode cX10_formatClues 32 = .ok (.iload_n 1, 1) := by decide +kernel
theorem dX10_formatClues_33 : decode cX10_formatClues 33 = .ok (.iaload, 1) := by decide +kernel
theorem dX10_formatClues_34 : decode cX10_formatClues 34 = .ok (.if_icmp .ge 47, 3) := by decide +kernel
theorem dX10_formatClues_37 : decode cX10_formatClues 37 = .ok (.aload_n 0, 1) := by decide +kernel
theorem dX10_formatClues_38 : decode cX10_formatClues 38 = .ok (.bipush 48, 2) := by decide +kernel
theorem dX10_formatClues_40 : decode cX10_formatClues 40 = .ok (.aload_n 0, 1) := by decide +kernel
theorem dX10_formatClues_41 : decode cX10_formatClues 41 = .ok (.getfield 29, 3) := by decide +kernel
theorem dX10_formatClues_44 : decode cX10_formatClues 44 = .ok (.bipush 8, 2) := by decide +kernel
theorem dX10_formatClues_46 : decode cX10_formatClues 46 = .ok (.iload_n 1, 1) := by decide +kernel
theorem dX10_formatClues_47 : decode cX10_formatClues 47 = .ok (.imul, 1) := by decide +kernel
theorem dX10_formatClues_48 : decode cX10_formatClues 48 = .ok (.iload_n 2, 1) := by decide +kernel
theorem dX10_formatClues_49 : decode cX10_formatClues 49 = .ok (.iadd, 1) := by decide +kernel
theorem dX10_formatClues_50 : decode cX10_formatClues 50 = .ok (.iaload, 1) := by decide +kernel
theorem dX10_formatClues_51 : decode cX10_formatClues 51 = .ok (.iadd, 1) := by decide +kernel
theorem dX10_formatClues_52 : decode cX10_formatClues 52 = .ok (.invokevirtual 272, 3) := by decide +kernel
theorem dX10_formatClues_55 : decode cX10_formatClues 55 = .ok (.aload_n 0, 1) := by decide +kernel
theorem dX10_formatClues_56 : decode cX10_formatClues 56 = .ok (.bipush 97, 2) := by decide +kernel
theorem dX10_formatClues_58 : decode cX10_formatClues 58 = .ok (.aload_n 0, 1) := by decide +kernel
theorem dX10_formatClues_59 : decode cX10_formatClues 59 = .ok (.getfield 32, 3) := by decide +kernel
theorem dX10_formatClues_62 : decode cX10_formatClues 62 = .ok (.bipush 8, 2) := by decide +kernel
theorem dX10_formatClues_64 : decode cX10_formatClues 64 = .ok (.iload_n 1, 1) := by decide +kernel
theorem dX10_formatClues_65 : decode cX10_formatClues 65 = .ok (.imul, 1) := by decide +kernel
theorem dX10_formatClues_66 : decode cX10_formatClues 66 = .ok (.iload_n 2, 1) := by decide +kernel
theorem dX10_formatClues_67 : decode cX10_formatClues 67 = .ok (.iadd, 1) := by decide +kernel
theorem dX10_formatClues_68 : decode cX10_formatClues 68 = .ok (.iaload, 1) := by decide +kernel
theorem dX10_formatClues_69 : decode cX10_formatClues 69 = .ok (.iadd, 1) := by decide +kernel
theorem dX10_formatClues_70 : decode cX10_formatClues 70 = .ok (.iconst 1, 1) := by decide +kernel
theorem dX10_formatClues_71 : decode cX10_formatClues 71 = .ok (.isub, 1) := by decide +kernel
theorem dX10_formatClues_72 : decode cX10_formatClues 72 = .ok (.invokevirtual 272, 3) := by decide +kernel
theorem dX10_formatClues_75 : decode cX10_formatClues 75 = .ok (.iinc 2 1, 3) := by decide +kernel
theorem dX10_formatClues_78 : decode cX10_formatClues 78 = .ok (.goto (-51), 3) := by decide +kernel
theorem dX10_formatClues_81 : decode cX10_formatClues 81 = .ok (.iinc 1 1, 3) := by decide +kernel
theorem dX10_formatClues_84 : decode cX10_formatClues 84 = .ok (.goto (-77), 3) := by decide +kernel
theorem dX10_formatClues_87 : decode cX10_formatClues 87 = .ok (.aload_n 0, 1) := by decide +kernel
theorem dX10_formatClues_88 : decode cX10_formatClues 88 = .ok (.getfield 120, 3) := by decide +kernel
theorem dX10_formatClues_91 : decode cX10_formatClues 91 = .ok (.ireturn, 1) := by decide +kernel
theorem dX10_formattedCharacter_0 : decode cX10_formattedCharacter 0 = .ok (.aload_n 0, 1) := by decide +kernel
theorem dX10_formattedCharacter_1 : decode cX10_formattedCharacter 1 = .ok (.iload_n 1, 1) := by decide +kernel
theorem dX10_formattedCharacter_2 : decode cX10_formattedCharacter 2 = .ok (.iconst 0, 1) := by decide +kernel
theorem dX10_formattedCharacter_3 : decode cX10_formattedCharacter 3 = .ok (.aload_n 0, 1) := by decide +kernel
theorem dX10_formattedCharacter_4 : decode cX10_formattedCharacter 4 = .ok (.getfield 120, 3) := by decide +kernel
theorem dX10_formattedCharacter_7 : decode cX10_formattedCharacter 7 = .ok (.iconst 1, 1) := by decide +kernel
theorem dX10_formattedCharacter_8 : decode cX10_formattedCharacter 8 = .ok (.isub, 1) := by decide +kernel
theorem dX10_formattedCharacter_9 : decode cX10_formattedCharacter 9 = .ok (.invokevirtual 172, 3) := by decide +kernel
theorem dX10_formattedCharacter_12 : decode cX10_formattedCharacter 12 = .ok (.ifCond .eq 12, 3) := by decide +kernel
theorem dX10_formattedCharacter_15 : decode cX10_formattedCharacter 15 = .ok (.aload_n 0, 1) := by decide +kernel
theorem dX10_formattedCharacter_16 : decode cX10_formattedCharacter 16 = .ok (.getfield 114, 3) := by decide +kernel
theorem dX10_formattedCharacter_19 : decode cX10_formattedCharacter 19 = .ok (.iload_n 1, 1) := by decide +kernel
theorem dX10_formattedCharacter_20 : decode cX10_formattedCharacter 20 = .ok (.iaload, 1) := by decide +kernel
theorem dX10_formattedCharacter_21 : decode cX10_formattedCharacter 21 = .ok (.goto 4, 3) := by decide +kernel
theorem dX10_formattedCharacter_24 : decode cX10_formattedCharacter 24 = .ok (.iconst (-1), 1) := by decide +kernel
theorem dX10_formattedCharacter_25 : decode cX10_formattedCharacter 25 = .ok (.ireturn, 1) := by decide +kernel
theorem dX10_save_0 : decode cX10_save 0 = .ok (.aload_n 0, 1) := by decide +kernel
theorem dX10_save_1 : decode cX10_save 1 = .ok (.iconst 1, 1) := by decide +kernel
theorem dX10_save_2 : decode cX10_save 2 = .ok (.putfield 132, 3) := by decide +kernel
theorem dX10_save_5 : decode cX10_save 5 = .ok (.aload_n 0, 1) := by decide +kernel
theorem dX10_save_6 : decode cX10_save 6 = .ok (.aload_n 0, 1) := by decide +kernel
theorem dX10_save_7 : decode cX10_save 7 = .ok (.getfield 7, 3) := by decide +kernel
theorem dX10_save_10 : decode cX10_save 10 = .ok (.putfield 135, 3) := by decide +kernel
theorem dX10_save_13 : decode cX10_save 13 = .ok (.aload_n 0, 1) := by decide +kernel
theorem dX10_save_14 : decode cX10_save 14 = .ok (.aload_n 0, 1) := by decide +kernel
theorem dX10_save_15 : decode cX10_save 15 = .ok (.getfield 13, 3) := by decide +kernel
theorem dX10_save_18 : decode cX10_save 18 = .ok (.putfield 138, 3) := by decide +kernel
theorem dX10_save_21 : decode cX10_save 21 = .ok (.aload_n 0, 1) := by decide +kernel
theorem dX10_save_22 : decode cX10_save 22 = .ok (.aload_n 0, 1) := by decide +kernel
theorem dX10_save_23 : decode cX10_save 23 = .ok (.getfield 16, 3) := by decide +kernel
theorem dX10_save_26 : decode cX10_save 26 = .ok (.putfield 141, 3) := by decide +kernel
theorem dX10_save_29 : decode cX10_save 29 = .ok (.iconst 0, 1) := by decide +kernel
theorem dX10_save_30 : decode cX10_save 30 = .ok (.istore_n 1, 1) := by decide +kernel
theorem dX10_save_31 : decode cX10_save 31 = .ok (.iload_n 1, 1) := by decide +kernel
theorem dX10_save_32 : decode cX10_save 32 = .ok (.bipush 64, 2) := by decide +kernel
theorem dX10_save_34 : decode cX10_save 34 = .ok (.if_icmp .ge 21, 3) := by decide +kernel
theorem dX10_save_37 : decode cX10_save 37 = .ok (.aload_n 0, 1) := by decide +kernel
theorem dX10_save_38 : decode cX10_save 38 = .ok (.getfield 144, 3) := by decide +kernel
theorem dX10_save_41 : decode cX10_save 41 = .ok (.iload_n 1, 1) := by decide +kernel
theorem dX10_save_42 : decode cX10_save 42 = .ok (.aload_n 0, 1) := by decide +kernel
theorem dX10_save_43 : decode cX10_save 43 = .ok (.getfield 22, 3) := by decide +kernel
theorem dX10_save_46 : decode cX10_save 46 = .ok (.iload_n 1, 1) := by decide +kernel
theorem dX10_save_47 : decode cX10_save 47 = .ok (.iaload, 1) := by decide +kernel
theorem dX10_save_48 : decode cX10_save 48 = .ok (.iastore, 1) := by decide +kernel
theorem dX10_save_49 : decode cX10_save 49 = .ok (.iinc 1 1, 3) := by decide +kernel
theorem dX10_save_52 : decode cX10_save 52 = .ok (.goto (-21), 3) := by decide +kernel
theorem dX10_save_55 : decode cX10_save 55 = .ok (.iconst 0, 1) := by decide +kernel
theorem dX10_save_56 : decode cX10_save 56 = .ok (.istore_n 1, 1) := by decide +kernel
theorem dX10_save_57 : decode cX10_save 57 = .ok (.iload_n 1, 1) := by decide +kernel
theorem dX10_save_58 : decode cX10_save 58 = .ok (.bipush 16, 2) := by decide +kernel
theorem dX10_save_60 : decode cX10_save 60 = .ok (.if_icmp .ge 21, 3) := by decide +kernel
theorem dX10_save_63 : decode cX10_save 63 = .ok (.aload_n 0, 1) := by decide +kernel
theorem dX10_save_64 : decode cX10_save 64 = .ok (.getfield 147, 3) := by decide +kernel
theorem dX10_save_67 : decode cX10_save 67 = .ok (.iload_n 1, 1) := by decide +kernel
theorem dX10_save_68 : decode cX10_save 68 = .ok (.aload_n 0, 1) := by decide +kernel
theorem dX10_save_69 : decode cX10_save 69 = .ok (.getfield 26, 3) := by decide +kernel
theorem dX10_save_72 : decode cX10_save 72 = .ok (.iload_n 1, 1) := by decide +kernel
theorem dX10_save_73 : decode cX10_save 73 = .ok (.iaload, 1) := by decide +kernel
theorem dX10_save_74 : decode cX10_save 74 = .ok (.iastore, 1) := by decide +kernel
theorem dX10_save_75 : decode cX10_save 75 = .ok (.iinc 1 1, 3) := by decide +kernel
theorem dX10_save_78 : decode cX10_save 78 = .ok (.goto (-21), 3) := by decide +kernel
theorem dX10_save_81 : decode cX10_save 81 = .ok (.iconst 0, 1) := by decide +kernel
theorem dX10_save_82 : decode cX10_save 82 = .ok (.istore_n 1, 1) := by decide +kernel
theorem dX10_save_83 : decode cX10_save 83 = .ok (.iload_n 1, 1) := by decide +kernel
theorem dX10_save_84 : decode cX10_save 84 = .ok (.sipush 128, 3) := by decide +kernel
theorem dX10_save_87 : decode cX10_save 87 = .ok (.if_icmp .ge 33, 3) := by decide +kernel
theorem dX10_save_90 : decode cX10_save 90 = .ok (.aload_n 0, 1) := by decide +kernel
theorem dX10_save_91 : decode cX10_save 91 = .ok (.getfield 150, 3) := by decide +kernel
theorem dX10_save_94 : decode cX10_save 94 = .ok (.iload_n 1, 1) := by decide +kernel
theorem dX10_save_95 : decode cX10_save 95 = .ok (.aload_n 0, 1) := by decide +kernel
theorem dX10_save_96 : decode cX10_save 96 = .ok (.getfield 29, 3) := by decide +kernel
theorem dX10_save_99 : decode cX10_save 99 = .ok (.iload_n 1, 1) := by decide +kernel
theorem dX10_save_100 : decode cX10_save 100 = .ok (.iaload, 1) := by decide +kernel
theorem dX10_save_101 : decode cX10_save 101 = .ok (.iastore, 1) := by decide +kernel
theorem dX10_save_102 : decode cX10_save 102 = .ok (.aload_n 0, 1) := by decide +kernel
theorem dX10_save_103 : decode cX10_save 103 = .ok (.getfield 153, 3) := by decide +kernel
theorem dX10_save_106 : decode cX10_save 106 = .ok (.iload_n 1, 1) := by decide +kernel
theorem dX10_save_107 : decode cX10_save 107 = .ok (.aload_n 0, 1) := by decide +kernel
theorem dX10_save_108 : decode cX10_save 108 = .ok (.getfield 32, 3) := by decide +kernel
theorem dX10_save_111 : decode cX10_save 111 = .ok (.iload_n 1, 1) := by decide +kernel
theorem dX10_save_112 : decode cX10_save 112 = .ok (.iaload, 1) := by decide +kernel
theorem dX10_save_113 : decode cX10_save 113 = .ok (.iastore, 1) := by decide +kernel
theorem dX10_save_114 : decode cX10_save 114 = .ok (.iinc 1 1, 3) := by decide +kernel
theorem dX10_save_117 : decode cX10_save 117 = .ok (.goto (-34), 3) := by decide +kernel
theorem dX10_save_120 : decode cX10_save 120 = .ok (.aload_n 0, 1) := by decide +kernel
theorem dX10_save_121 : decode cX10_save 121 = .ok (.iconst 0, 1) := by decide +kernel
theorem dX10_save_122 : decode cX10_save 122 = .ok (.invokevirtual 211, 3) := by decide +kernel
theorem dX10_save_125 : decode cX10_save 125 = .ok (.ireturn, 1) := by decide +kernel
theorem dX10_restore_0 : decode cX10_restore 0 = .ok (.aload_n 0, 1) := by decide +kernel
theorem dX10_restore_1 : decode cX10_restore 1 = .ok (.getfield 132, 3) := by decide +kernel
theorem dX10_restore_4 : decode cX10_restore 4 = .ok (.ifCond .ne 6, 3) := by decide +kernel
theorem dX10_restore_7 : decode cX10_restore 7 = .ok (.bipush (-8), 2) := by decide +kernel
theorem dX10_restore_9 : decode cX10_restore 9 = .ok (.ireturn, 1) := by decide +kernel
theorem dX10_restore_10 : decode cX10_restore 10 = .ok (.aload_n 0, 1) := by decide +kernel
theorem dX10_restore_11 : decode cX10_restore 11 = .ok (.aload_n 0, 1) := by decide +kernel
theorem dX10_restore_12 : decode cX10_restore 12 = .ok (.getfield 135, 3) := by decide +kernel
theorem dX10_restore_15 : decode cX10_restore 15 = .ok (.putfield 7, 3) := by decide +kernel
theorem dX10_restore_18 : decode cX10_restore 18 = .ok (.aload_n 0, 1) := by decide +kernel
theorem dX10_restore_19 : decode cX10_restore 19 = .ok (.aload_n 0, 1) := by decide +kernel
theorem dX10_restore_20 : decode cX10_restore 20 = .ok (.getfield 138, 3) := by decide +kernel
theorem dX10_restore_23 : decode cX10_restore 23 = .ok (.putfield 13, 3) := by decide +kernel
theorem dX10_restore_26 : decode cX10_restore 26 = .ok (.aload_n 0, 1) := by decide +kernel
theorem dX10_restore_27 : decode cX10_restore 27 = .ok (.aload_n 0, 1) := by decide +kernel
theorem dX10_restore_28 : decode cX10_restore 28 = .ok (.getfield 141, 3) := by decide +kernel
theorem dX10_restore_31 : decode cX10_restore 31 = .ok (.putfield 16, 3) := by decide +kernel
theorem dX10_restore_34 : decode cX10_restore 34 = .ok (.iconst 0, 1) := by decide +kernel
theorem dX10_restore_35 : decode cX10_restore 35 = .ok (.istore_n 1, 1) := by decide +kernel
theorem dX10_restore_36 : decode cX10_restore 36 = .ok (.iload_n 1, 1) := by decide +kernel
theorem dX10_restore_37 : decode cX10_restore 37 = .ok (.bipush 64, 2) := by decide +kernel
theorem dX10_restore_39 : decode cX10_restore 39 = .ok (.if_icmp .ge 21, 3) := by decide +kernel
theorem dX10_restore_42 : decode cX10_restore 42 = .ok (.aload_n 0, 1) := by decide +kernel
theorem dX10_restore_43 : decode cX10_restore 43 = .ok (.getfield 22, 3) := by decide +kernel
theorem dX10_restore_46 : decode cX10_restore 46 = .ok (.iload_n 1, 1) := by decide +kernel
theorem dX10_restore_47 : decode cX10_restore 47 = .ok (.aload_n 0, 1) := by decide +kernel
theorem dX10_restore_48 : decode cX10_restore 48 = .ok (.getfield 144, 3) := by decide +kernel
theorem dX10_restore_51 : decode cX10_restore 51 = .ok (.iload_n 1, 1) := by decide +kernel
theorem dX10_restore_52 : decode cX10_restore 52 = .ok (.iaload, 1) := by decide +kernel
theorem dX10_restore_53 : decode cX10_restore 53 = .ok (.iastore, 1) := by decide +kernel
theorem dX10_restore_54 : decode cX10_restore 54 = .ok (.iinc 1 1, 3) := by decide +kernel
theorem dX10_restore_57 : decode cX10_restore 57 = .ok (.goto (-21), 3) := by decide +kernel
theorem dX10_restore_60 : decode cX10_restore 60 = .ok (.iconst 0, 1) := by decide +kernel
theorem dX10_restore_61 : decode cX10_restore 61 = .ok (.istore_n 1, 1) := by decide +kernel
theorem dX10_restore_62 : decode cX10_restore 62 = .ok (.iload_n 1, 1) := by decide +kernel
theorem dX10_restore_63 : decode cX10_restore 63 = .ok (.bipush 16, 2) := by decide +kernel
theorem dX10_restore_65 : decode cX10_restore 65 = .ok (.if_icmp .ge 21, 3) := by decide +kernel
theorem dX10_restore_68 : decode cX10_restore 68 = .ok (.aload_n 0, 1) := by decide +kernel
theorem dX10_restore_69 : decode cX10_restore 69 = .ok (.getfield 26, 3) := by decide +kernel
theorem dX10_restore_72 : decode cX10_restore 72 = .ok (.iload_n 1, 1) := by decide +kernel
theorem dX10_restore_73 : decode cX10_restore 73 = .ok (.aload_n 0, 1) := by decide +kernel
theorem dX10_restore_74 : decode cX10_restore 74 = .ok (.getfield 147, 3) := by decide +kernel
theorem dX10_restore_77 : decode cX10_restore 77 = .ok (.iload_n 1, 1) := by decide +kernel
theorem dX10_restore_78 : decode cX10_restore 78 = .ok (.iaload, 1) := by decide +kernel
theorem dX10_restore_79 : decode cX10_restore 79 = .ok (.iastore, 1) := by decide +kernel
theorem dX10_restore_80 : decode cX10_restore 80 = .ok (.iinc 1 1, 3) := by decide +kernel
theorem dX10_restore_83 : decode cX10_restore 83 = .ok (.goto (-21), 3) := by decide +kernel
theorem dX10_restore_86 : decode cX10_restore 86 = .ok (.iconst 0, 1) := by decide +kernel
theorem dX10_restore_87 : decode cX10_restore 87 = .ok (.istore_n 1, 1) := by decide +kernel
theorem dX10_restore_88 : decode cX10_restore 88 = .ok (.iload_n 1, 1) := by decide +kernel
theorem dX10_restore_89 : decode cX10_restore 89 = .ok (.sipush 128, 3) := by decide +kernel
theorem dX10_restore_92 : decode cX10_restore 92 = .ok (.if_icmp .ge 33, 3) := by decide +kernel
theorem dX10_restore_95 : decode cX10_restore 95 = .ok (.aload_n 0, 1) := by decide +kernel
theorem dX10_restore_96 : decode cX10_restore 96 = .ok (.getfield 29, 3) := by decide +kernel
theorem dX10_restore_99 : decode cX10_restore 99 = .ok (.iload_n 1, 1) := by decide +kernel
theorem dX10_restore_100 : decode cX10_restore 100 = .ok (.aload_n 0, 1) := by decide +kernel
theorem dX10_restore_101 : decode cX10_restore 101 = .ok (.getfield 150, 3) := by decide +kernel
theorem dX10_restore_104 : decode cX10_restore 104 = .ok (.iload_n 1, 1) := by decide +kernel
theorem dX10_restore_105 : decode cX10_restore 105 = .ok (.iaload, 1) := by decide +kernel
theorem dX10_restore_106 : decode cX10_restore 106 = .ok (.iastore, 1) := by decide +kernel
theorem dX10_restore_107 : decode cX10_restore 107 = .ok (.aload_n 0, 1) := by decide +kernel
theorem dX10_restore_108 : decode cX10_restore 108 = .ok (.getfield 32, 3) := by decide +kernel
theorem dX10_restore_111 : decode cX10_restore 111 = .ok (.iload_n 1, 1) := by decide +kernel
theorem dX10_restore_112 : decode cX10_restore 112 = .ok (.aload_n 0, 1) := by decide +kernel
theorem dX10_restore_113 : decode cX10_restore 113 = .ok (.getfield 153, 3) := by decide +kernel
theorem dX10_restore_116 : decode cX10_restore 116 = .ok (.iload_n 1, 1) := by decide +kernel
theorem dX10_restore_117 : decode cX10_restore 117 = .ok (.iaload, 1) := by decide +kernel
theorem dX10_restore_118 : decode cX10_restore 118 = .ok (.iastore, 1) := by decide +kernel
theorem dX10_restore_119 : decode cX10_restore 119 = .ok (.iinc 1 1, 3) := by decide +kernel
theorem dX10_restore_122 : decode cX10_restore 122 = .ok (.goto (-34), 3) := by decide +kernel
theorem dX10_restore_125 : decode cX10_restore 125 = .ok (.aload_n 0, 1) := by decide +kernel
theorem dX10_restore_126 : decode cX10_restore 126 = .ok (.iconst 0, 1) := by decide +kernel
theorem dX10_restore_127 : decode cX10_restore 127 = .ok (.putfield 35, 3) := by decide +kernel
theorem dX10_restore_130 : decode cX10_restore 130 = .ok (.aload_n 0, 1) := by decide +kernel
theorem dX10_restore_131 : decode cX10_restore 131 = .ok (.iconst (-1), 1) := by decide +kernel
theorem dX10_restore_132 : decode cX10_restore 132 = .ok (.putfield 50, 3) := by decide +kernel
theorem dX10_restore_135 : decode cX10_restore 135 = .ok (.aload_n 0, 1) := by decide +kernel
theorem dX10_restore_136 : decode cX10_restore 136 = .ok (.iconst 0, 1) := by decide +kernel
theorem dX10_restore_137 : decode cX10_restore 137 = .ok (.invokevirtual 211, 3) := by decide +kernel
theorem dX10_restore_140 : decode cX10_restore 140 = .ok (.ireturn, 1) := by decide +kernel
theorem dX10_isTable_0 : decode cX10_isTable 0 = .ok (.aload_n 0, 1) := by decide +kernel
theorem dX10_isTable_1 : decode cX10_isTable 1 = .ok (.iload_n 1, 1) := by decide +kernel
theorem dX10_isTable_2 : decode cX10_isTable 2 = .ok (.iconst 0, 1) := by decide +kernel
theorem dX10_isTable_3 : decode cX10_isTable 3 = .ok (.iconst 2, 1) := by decide +kernel
theorem dX10_isTable_4 : decode cX10_isTable 4 = .ok (.invokevirtual 172, 3) := by decide +kernel
theorem dX10_isTable_7 : decode cX10_isTable 7 = .ok (.ireturn, 1) := by decide +kernel
theorem dX10_createTable_0 : decode cX10_createTable 0 = .ok (.aload_n 0, 1) := by decide +kernel
theorem dX10_createTable_1 : decode cX10_createTable 1 = .ok (.iload_n 1, 1) := by decide +kernel
theorem dX10_createTable_2 : decode cX10_createTable 2 = .ok (.invokevirtual 275, 3) := by decide +kernel
theorem dX10_createTable_5 : decode cX10_createTable 5 = .ok (.ifCond .eq 19, 3) := by decide +kernel
theorem dX10_createTable_8 : decode cX10_createTable 8 = .ok (.aload_n 0, 1) := by decide +kernel
theorem dX10_createTable_9 : decode cX10_createTable 9 = .ok (.iload_n 2, 1) := by decide +kernel
theorem dX10_createTable_10 : decode cX10_createTable 10 = .ok (.iconst 0, 1) := by decide +kernel
theorem dX10_createTable_11 : decode cX10_createTable 11 = .ok (.iconst 2, 1) := by decide +kernel
theorem dX10_createTable_12 : decode cX10_createTable 12 = .ok (.invokevirtual 172, 3) := by decide +kernel
theorem dX10_createTable_15 : decode cX10_createTable 15 = .ok (.ifCond .eq 9, 3) := by decide +kernel
theorem dX10_createTable_18 : decode cX10_createTable 18 = .ok (.iload_n 3, 1) := by decide +kernel
theorem dX10_createTable_19 : decode cX10_createTable 19 = .ok (.bipush 64, 2) := by decide +kernel
theorem dX10_createTable_21 : decode cX10_createTable 21 = .ok (.if_icmp .le 6, 3) := by decide +kernel
theorem dX10_createTable_24 : decode cX10_createTable 24 = .ok (.bipush (-2), 2) := by decide +kernel
theorem dX10_createTable_26 : decode cX10_createTable 26 = .ok (.ireturn, 1) := by decide +kernel
theorem dX10_createTable_27 : decode cX10_createTable 27 = .ok (.iload_n 3, 1) := by decide +kernel
theorem dX10_createTable_28 : decode cX10_createTable 28 = .ok (.ifCond .ge 6, 3) := by decide +kernel
theorem dX10_createTable_31 : decode cX10_createTable 31 = .ok (.bipush (-14), 2) := by decide +kernel
theorem dX10_createTable_33 : decode cX10_createTable 33 = .ok (.ireturn, 1) := by decide +kernel
theorem dX10_createTable_34 : decode cX10_createTable 34 = .ok (.aload_n 0, 1) := by decide +kernel
theorem dX10_createTable_35 : decode cX10_createTable 35 = .ok (.getfield 156, 3) := by decide +kernel
theorem dX10_createTable_38 : decode cX10_createTable 38 = .ok (.iload_n 1, 1) := by decide +kernel
theorem dX10_createTable_39 : decode cX10_createTable 39 = .ok (.iload_n 2, 1) := by decide +kernel
theorem dX10_createTable_40 : decode cX10_createTable 40 = .ok (.iastore, 1) := by decide +kernel
theorem dX10_createTable_41 : decode cX10_createTable 41 = .ok (.aload_n 0, 1) := by decide +kernel
theorem dX10_createTable_42 : decode cX10_createTable 42 = .ok (.getfield 159, 3) := by decide +kernel
theorem dX10_createTable_45 : decode cX10_createTable 45 = .ok (.iload_n 1, 1) := by decide +kernel
theorem dX10_createTable_46 : decode cX10_createTable 46 = .ok (.iload_n 3, 1) := by decide +kernel
theorem dX10_createTable_47 : decode cX10_createTable 47 = .ok (.iastore, 1) := by decide +kernel
theorem dX10_createTable_48 : decode cX10_createTable 48 = .ok (.iconst 0, 1) := by decide +kernel
theorem dX10_createTable_49 : decode cX10_createTable 49 = .ok (.istore 4, 2) := by decide +kernel
theorem dX10_createTable_51 : decode cX10_createTable 51 = .ok (.iload 4, 2) := by decide +kernel
theorem dX10_createTable_53 : decode cX10_createTable 53 = .ok (.bipush 64, 2) := by decide +kernel
theorem dX10_createTable_55 : decode cX10_createTable 55 = .ok (.if_icmp .ge 22, 3) := by decide +kernel
theorem dX10_createTable_58 : decode cX10_createTable 58 = .ok (.aload_n 0, 1) := by decide +kernel
theorem dX10_createTable_59 : decode cX10_createTable 59 = .ok (.getfield 162, 3) := by decide +kernel
theorem dX10_createTable_62 : decode cX10_createTable 62 = .ok (.bipush 64, 2) := by decide +kernel
theorem dX10_createTable_64 : decode cX10_createTable 64 = .ok (.iload_n 1, 1) := by decide +kernel
theorem dX10_createTable_65 : decode cX10_createTable 65 = .ok (.imul, 1) := by decide +kernel
theorem dX10_createTable_66 : decode cX10_createTable 66 = .ok (.iload 4, 2) := by decide +kernel
theorem dX10_createTable_68 : decode cX10_createTable 68 = .ok (.iadd, 1) := by decide +kernel
theorem dX10_createTable_69 : decode cX10_createTable 69 = .ok (.iconst 0, 1) := by decide +kernel
theorem dX10_createTable_70 : decode cX10_createTable 70 = .ok (.iastore, 1) := by decide +kernel
theorem dX10_createTable_71 : decode cX10_createTable 71 = .ok (.iinc 4 1, 3) := by decide +kernel
theorem dX10_createTable_74 : decode cX10_createTable 74 = .ok (.goto (-23), 3) := by decide +kernel
theorem dX10_createTable_77 : decode cX10_createTable 77 = .ok (.iconst 1, 1) := by decide +kernel
theorem dX10_createTable_78 : decode cX10_createTable 78 = .ok (.ireturn, 1) := by decide +kernel
theorem dX10_lay_0 : decode cX10_lay 0 = .ok (.aload_n 0, 1) := by decide +kernel
theorem dX10_lay_1 : decode cX10_lay 1 = .ok (.getfield 162, 3) := by decide +kernel
theorem dX10_lay_4 : decode cX10_lay 4 = .ok (.bipush 64, 2) := by decide +kernel
theorem dX10_lay_6 : decode cX10_lay 6 = .ok (.iload_n 1, 1) := by decide +kernel
theorem dX10_lay_7 : decode cX10_lay 7 = .ok (.imul, 1) := by decide +kernel
theorem dX10_lay_8 : decode cX10_lay 8 = .ok (.iload_n 2, 1) := by decide +kernel
theorem dX10_lay_9 : decode cX10_lay 9 = .ok (.iadd, 1) := by decide +kernel
theorem dX10_lay_10 : decode cX10_lay 10 = .ok (.aload_n 0, 1) := by decide +kernel
theorem dX10_lay_11 : decode cX10_lay 11 = .ok (.getfield 156, 3) := by decide +kernel
theorem dX10_lay_14 : decode cX10_lay 14 = .ok (.iload_n 1, 1) := by decide +kernel
theorem dX10_lay_15 : decode cX10_lay 15 = .ok (.iaload, 1) := by decide +kernel
theorem dX10_lay_16 : decode cX10_lay 16 = .ok (.ifCond .ne 8, 3) := by decide +kernel
theorem dX10_lay_19 : decode cX10_lay 19 = .ok (.iload_n 3, 1) := by decide +kernel
theorem dX10_lay_20 : decode cX10_lay 20 = .ok (.i2b, 1) := by decide +kernel
theorem dX10_lay_21 : decode cX10_lay 21 = .ok (.goto 26, 3) := by decide +kernel
theorem dX10_lay_24 : decode cX10_lay 24 = .ok (.aload_n 0, 1) := by decide +kernel
theorem dX10_lay_25 : decode cX10_lay 25 = .ok (.getfield 156, 3) := by decide +kernel
theorem dX10_lay_28 : decode cX10_lay 28 = .ok (.iload_n 1, 1) := by decide +kernel
theorem dX10_lay_29 : decode cX10_lay 29 = .ok (.iaload, 1) := by decide +kernel
theorem dX10_lay_30 : decode cX10_lay 30 = .ok (.iconst 1, 1) := by decide +kernel
theorem dX10_lay_31 : decode cX10_lay 31 = .ok (.if_icmp .ne 7, 3) := by decide +kernel
theorem dX10_lay_34 : decode cX10_lay 34 = .ok (.iload_n 3, 1) := by decide +kernel
theorem dX10_lay_35 : decode cX10_lay 35 = .ok (.goto 12, 3) := by decide +kernel
theorem dX10_lay_38 : decode cX10_lay 38 = .ok (.iload_n 3, 1) := by decide +kernel
theorem dX10_lay_39 : decode cX10_lay 39 = .ok (.ifCond .eq 7, 3) := by decide +kernel
theorem dX10_lay_42 : decode cX10_lay 42 = .ok (.iconst 1, 1) := by decide +kernel
theorem dX10_lay_43 : decode cX10_lay 43 = .ok (.goto 4, 3) := by decide +kernel
theorem dX10_lay_46 : decode cX10_lay 46 = .ok (.iconst 0, 1) := by decide +kernel
theorem dX10_lay_47 : decode cX10_lay 47 = .ok (.iastore, 1) := by decide +kernel
theorem dX10_lay_48 : decode cX10_lay 48 = .ok (.return_, 1) := by decide +kernel
theorem dX10_writeTable_0 : decode cX10_writeTable 0 = .ok (.aload_n 0, 1) := by decide +kernel
theorem dX10_writeTable_1 : decode cX10_writeTable 1 = .ok (.iload_n 1, 1) := by decide +kernel
theorem dX10_writeTable_2 : decode cX10_writeTable 2 = .ok (.invokevirtual 275, 3) := by decide +kernel
theorem dX10_writeTable_5 : decode cX10_writeTable 5 = .ok (.ifCond .ne 6, 3) := by decide +kernel
theorem dX10_writeTable_8 : decode cX10_writeTable 8 = .ok (.bipush (-2), 2) := by decide +kernel
theorem dX10_writeTable_10 : decode cX10_writeTable 10 = .ok (.ireturn, 1) := by decide +kernel
theorem dX10_writeTable_11 : decode cX10_writeTable 11 = .ok (.aload_n 0, 1) := by decide +kernel
theorem dX10_writeTable_12 : decode cX10_writeTable 12 = .ok (.getfield 156, 3) := by decide +kernel
theorem dX10_writeTable_15 : decode cX10_writeTable 15 = .ok (.iload_n 1, 1) := by decide +kernel
theorem dX10_writeTable_16 : decode cX10_writeTable 16 = .ok (.iaload, 1) := by decide +kernel
theorem dX10_writeTable_17 : decode cX10_writeTable 17 = .ok (.ifCond .ge 6, 3) := by decide +kernel
theorem dX10_writeTable_20 : decode cX10_writeTable 20 = .ok (.bipush (-11), 2) := by decide +kernel
theorem dX10_writeTable_22 : decode cX10_writeTable 22 = .ok (.ireturn, 1) := by decide +kernel
theorem dX10_writeTable_23 : decode cX10_writeTable 23 = .ok (.aload_n 0, 1) := by decide +kernel
theorem dX10_writeTable_24 : decode cX10_writeTable 24 = .ok (.iload_n 2, 1) := by decide +kernel
theorem dX10_writeTable_25 : decode cX10_writeTable 25 = .ok (.iconst 0, 1) := by decide +kernel
theorem dX10_writeTable_26 : decode cX10_writeTable 26 = .ok (.aload_n 0, 1) := by decide +kernel
theorem dX10_writeTable_27 : decode cX10_writeTable 27 = .ok (.getfield 159, 3) := by decide +kernel
theorem dX10_writeTable_30 : decode cX10_writeTable 30 = .ok (.iload_n 1, 1) := by decide +kernel
theorem dX10_writeTable_31 : decode cX10_writeTable 31 = .ok (.iaload, 1) := by decide +kernel
theorem dX10_writeTable_32 : decode cX10_writeTable 32 = .ok (.iconst 1, 1) := by decide +kernel
theorem dX10_writeTable_33 : decode cX10_writeTable 33 = .ok (.isub, 1) := by decide +kernel
theorem dX10_writeTable_34 : decode cX10_writeTable 34 = .ok (.invokevirtual 172, 3) := by decide +kernel
theorem dX10_writeTable_37 : decode cX10_writeTable 37 = .ok (.ifCond .ne 6, 3) := by decide +kernel
theorem dX10_writeTable_40 : decode cX10_writeTable 40 = .ok (.bipush (-13), 2) := by decide +kernel
theorem dX10_writeTable_42 : decode cX10_writeTable 42 = .ok (.ireturn, 1) := by decide +kernel
theorem dX10_writeTable_43 : decode cX10_writeTable 43 = .ok (.aload_n 0, 1) := by decide +kernel
theorem dX10_writeTable_44 : decode cX10_writeTable 44 = .ok (.iload_n 1, 1) := by decide +kernel
theorem dX10_writeTable_45 : decode cX10_writeTable 45 = .ok (.iload_n 2, 1) := by decide +kernel
theorem dX10_writeTable_46 : decode cX10_writeTable 46 = .ok (.iload_n 3, 1) := by decide +kernel
theorem dX10_writeTable_47 : decode cX10_writeTable 47 = .ok (.invokevirtual 278, 3) := by decide +kernel
theorem dX10_writeTable_50 : decode cX10_writeTable 50 = .ok (.iconst 1, 1) := by decide +kernel
theorem dX10_writeTable_51 : decode cX10_writeTable 51 = .ok (.ireturn, 1) := by decide +kernel
theorem dX10_readTable_0 : decode cX10_readTable 0 = .ok (.aload_n 0, 1) := by decide +kernel
theorem dX10_readTable_1 : decode cX10_readTable 1 = .ok (.iload_n 1, 1) := by decide +kernel
theorem dX10_readTable_2 : decode cX10_readTable 2 = .ok (.invokevirtual 275, 3) := by decide +kernel
theorem dX10_readTable_5 : decode cX10_readTable 5 = .ok (.ifCond .ne 6, 3) := by decide +kernel
theorem dX10_readTable_8 : decode cX10_readTable 8 = .ok (.bipush (-2), 2) := by decide +kernel
theorem dX10_readTable_10 : decode cX10_readTable 10 = .ok (.ireturn, 1) := by decide +kernel
theorem dX10_readTable_11 : decode cX10_readTable 11 = .ok (.aload_n 0, 1) := by decide +kernel
theorem dX10_readTable_12 : decode cX10_readTable 12 = .ok (.getfield 156, 3) := by decide +kernel
theorem dX10_readTable_15 : decode cX10_readTable 15 = .ok (.iload_n 1, 1) := by decide +kernel
theorem dX10_readTable_16 : decode cX10_readTable 16 = .ok (.iaload, 1) := by decide +kernel
theorem dX10_readTable_17 : decode cX10_readTable 17 = .ok (.ifCond .ge 6, 3) := by decide +kernel
theorem dX10_readTable_20 : decode cX10_readTable 20 = .ok (.bipush (-11), 2) := by decide +kernel
theorem dX10_readTable_22 : decode cX10_readTable 22 = .ok (.ireturn, 1) := by decide +kernel
theorem dX10_readTable_23 : decode cX10_readTable 23 = .ok (.aload_n 0, 1) := by decide +kernel
theorem dX10_readTable_24 : decode cX10_readTable 24 = .ok (.iload_n 2, 1) := by decide +kernel
theorem dX10_readTable_25 : decode cX10_readTable 25 = .ok (.iconst 0, 1) := by decide +kernel
theorem dX10_readTable_26 : decode cX10_readTable 26 = .ok (.aload_n 0, 1) := by decide +kernel
theorem dX10_readTable_27 : decode cX10_readTable 27 = .ok (.getfield 159, 3) := by decide +kernel
theorem dX10_readTable_30 : decode cX10_readTable 30 = .ok (.iload_n 1, 1) := by decide +kernel
theorem dX10_readTable_31 : decode cX10_readTable 31 = .ok (.iaload, 1) := by decide +kernel
theorem dX10_readTable_32 : decode cX10_readTable 32 = .ok (.iconst 1, 1) := by decide +kernel
theorem dX10_readTable_33 : decode cX10_readTable 33 = .ok (.isub, 1) := by decide +kernel
theorem dX10_readTable_34 : decode cX10_readTable 34 = .ok (.invokevirtual 172, 3) := by decide +kernel
theorem dX10_readTable_37 : decode cX10_readTable 37 = .ok (.ifCond .eq 17, 3) := by decide +kernel
theorem dX10_readTable_40 : decode cX10_readTable 40 = .ok (.aload_n 0, 1) := by decide +kernel
theorem dX10_readTable_41 : decode cX10_readTable 41 = .ok (.getfield 162, 3) := by decide +kernel
theorem dX10_readTable_44 : decode cX10_readTable 44 = .ok (.bipush 64, 2) := by decide +kernel
theorem dX10_readTable_46 : decode cX10_readTable 46 = .ok (.iload_n 1, 1) := by decide +kernel
theorem dX10_readTable_47 : decode cX10_readTable 47 = .ok (.imul, 1) := by decide +kernel
theorem dX10_readTable_48 : decode cX10_readTable 48 = .ok (.iload_n 2, 1) := by decide +kernel
theorem dX10_readTable_49 : decode cX10_readTable 49 = .ok (.iadd, 1) := by decide +kernel
theorem dX10_readTable_50 : decode cX10_readTable 50 = .ok (.iaload, 1) := by decide +kernel
theorem dX10_readTable_51 : decode cX10_readTable 51 = .ok (.goto 5, 3) := by decide +kernel
theorem dX10_readTable_54 : decode cX10_readTable 54 = .ok (.bipush (-13), 2) := by decide +kernel
theorem dX10_readTable_56 : decode cX10_readTable 56 = .ok (.ireturn, 1) := by decide +kernel
theorem dX10_cellAt_0 : decode cX10_cellAt 0 = .ok (.iload_n 1, 1) := by decide +kernel
theorem dX10_cellAt_1 : decode cX10_cellAt 1 = .ok (.aload_n 0, 1) := by decide +kernel
theorem dX10_cellAt_2 : decode cX10_cellAt 2 = .ok (.getfield 13, 3) := by decide +kernel
theorem dX10_cellAt_5 : decode cX10_cellAt 5 = .ok (.idiv, 1) := by decide +kernel
theorem dX10_cellAt_6 : decode cX10_cellAt 6 = .ok (.bipush 8, 2) := by decide +kernel
theorem dX10_cellAt_8 : decode cX10_cellAt 8 = .ok (.imul, 1) := by decide +kernel
theorem dX10_cellAt_9 : decode cX10_cellAt 9 = .ok (.iload_n 1, 1) := by decide +kernel
theorem dX10_cellAt_10 : decode cX10_cellAt 10 = .ok (.aload_n 0, 1) := by decide +kernel
theorem dX10_cellAt_11 : decode cX10_cellAt 11 = .ok (.getfield 13, 3) := by decide +kernel
theorem dX10_cellAt_14 : decode cX10_cellAt 14 = .ok (.irem, 1) := by decide +kernel
theorem dX10_cellAt_15 : decode cX10_cellAt 15 = .ok (.iadd, 1) := by decide +kernel
theorem dX10_cellAt_16 : decode cX10_cellAt 16 = .ok (.ireturn, 1) := by decide +kernel
theorem dX10_exportCandidates_0 : decode cX10_exportCandidates 0 = .ok (.aload_n 0, 1) := by decide +kernel
theorem dX10_exportCandidates_1 : decode cX10_exportCandidates 1 = .ok (.iload_n 1, 1) := by decide +kernel
theorem dX10_exportCandidates_2 : decode cX10_exportCandidates 2 = .ok (.invokevirtual 275, 3) := by decide +kernel
theorem dX10_exportCandidates_5 : decode cX10_exportCandidates 5 = .ok (.ifCond .ne 6, 3) := by decide +kernel
theorem dX10_exportCandidates_8 : decode cX10_exportCandidates 8 = .ok (.bipush (-2), 2) := by decide +kernel
theorem dX10_exportCandidates_10 : decode cX10_exportCandidates 10 = .ok (.ireturn, 1) := by decide +kernel
theorem dX10_exportCandidates_11 : decode cX10_exportCandidates 11 = .ok (.aload_n 0, 1) := by decide +kernel
theorem dX10_exportCandidates_12 : decode cX10_exportCandidates 12 = .ok (.getfield 156, 3) := by decide +kernel
theorem dX10_exportCandidates_15 : decode cX10_exportCandidates 15 = .ok (.iload_n 1, 1) := by decide +kernel
theorem dX10_exportCandidates_16 : decode cX10_exportCandidates 16 = .ok (.iaload, 1) := by decide +kernel
theorem dX10_exportCandidates_17 : decode cX10_exportCandidates 17 = .ok (.ifCond .ge 6, 3) := by decide +kernel
theorem dX10_exportCandidates_20 : decode cX10_exportCandidates 20 = .ok (.bipush (-11), 2) := by decide +kernel
theorem dX10_exportCandidates_22 : decode cX10_exportCandidates 22 = .ok (.ireturn, 1) := by decide +kernel
theorem dX10_exportCandidates_23 : decode cX10_exportCandidates 23 = .ok (.aload_n 0, 1) := by decide +kernel
theorem dX10_exportCandidates_24 : decode cX10_exportCandidates 24 = .ok (.getfield 156, 3) := by decide +kernel
theorem dX10_exportCandidates_27 : decode cX10_exportCandidates 27 = .ok (.iload_n 1, 1) := by decide +kernel
theorem dX10_exportCandidates_28 : decode cX10_exportCandidates 28 = .ok (.iaload, 1) := by decide +kernel
theorem dX10_exportCandidates_29 : decode cX10_exportCandidates 29 = .ok (.iconst 2, 1) := by decide +kernel
theorem dX10_exportCandidates_30 : decode cX10_exportCandidates 30 = .ok (.if_icmp .ne 6, 3) := by decide +kernel
theorem dX10_exportCandidates_33 : decode cX10_exportCandidates 33 = .ok (.bipush (-12), 2) := by decide +kernel
theorem dX10_exportCandidates_35 : decode cX10_exportCandidates 35 = .ok (.ireturn, 1) := by decide +kernel
theorem dX10_exportCandidates_36 : decode cX10_exportCandidates 36 = .ok (.aload_n 0, 1) := by decide +kernel
theorem dX10_exportCandidates_37 : decode cX10_exportCandidates 37 = .ok (.getfield 7, 3) := by decide +kernel
theorem dX10_exportCandidates_40 : decode cX10_exportCandidates 40 = .ok (.aload_n 0, 1) := by decide +kernel
theorem dX10_exportCandidates_41 : decode cX10_exportCandidates 41 = .ok (.getfield 13, 3) := by decide +kernel
theorem dX10_exportCandidates_44 : decode cX10_exportCandidates 44 = .ok (.imul, 1) := by decide +kernel
theorem dX10_exportCandidates_45 : decode cX10_exportCandidates 45 = .ok (.istore_n 2, 1) := by decide +kernel
theorem dX10_exportCandidates_46 : decode cX10_exportCandidates 46 = .ok (.iconst 0, 1) := by decide +kernel
theorem dX10_exportCandidates_47 : decode cX10_exportCandidates 47 = .ok (.istore_n 3, 1) := by decide +kernel
theorem dX10_exportCandidates_48 : decode cX10_exportCandidates 48 = .ok (.iload_n 3, 1) := by decide +kernel
theorem dX10_exportCandidates_49 : decode cX10_exportCandidates 49 = .ok (.iload_n 2, 1) := by decide +kernel
theorem dX10_exportCandidates_50 : decode cX10_exportCandidates 50 = .ok (.if_icmp .ge 35, 3) := by decide +kernel
theorem dX10_exportCandidates_53 : decode cX10_exportCandidates 53 = .ok (.iload_n 3, 1) := by decide +kernel
theorem dX10_exportCandidates_54 : decode cX10_exportCandidates 54 = .ok (.aload_n 0, 1) := by decide +kernel
theorem dX10_exportCandidates_55 : decode cX10_exportCandidates 55 = .ok (.getfield 159, 3) := by decide +kernel
theorem dX10_exportCandidates_58 : decode cX10_exportCandidates 58 = .ok (.iload_n 1, 1) := by decide +kernel
theorem dX10_exportCandidates_59 : decode cX10_exportCandidates 59 = .ok (.iaload, 1) := by decide +kernel
theorem dX10_exportCandidates_60 : decode cX10_exportCandidates 60 = .ok (.if_icmp .ge 25, 3) := by decide +kernel
theorem dX10_exportCandidates_63 : decode cX10_exportCandidates 63 = .ok (.aload_n 0, 1) := by decide +kernel
theorem dX10_exportCandidates_64 : decode cX10_exportCandidates 64 = .ok (.iload_n 1, 1) := by decide +kernel
theorem dX10_exportCandidates_65 : decode cX10_exportCandidates 65 = .ok (.iload_n 3, 1) := by decide +kernel
theorem dX10_exportCandidates_66 : decode cX10_exportCandidates 66 = .ok (.aload_n 0, 1) := by decide +kernel
theorem dX10_exportCandidates_67 : decode cX10_exportCandidates 67 = .ok (.getfield 22, 3) := by decide +kernel
theorem dX10_exportCandidates_70 : decode cX10_exportCandidates 70 = .ok (.aload_n 0, 1) := by decide +kernel
theorem dX10_exportCandidates_71 : decode cX10_exportCandidates 71 = .ok (.iload_n 3, 1) := by decide +kernel
theorem dX10_exportCandidates_72 : decode cX10_exportCandidates 72 = .ok (.invokevirtual 281, 3) := by decide +kernel
theorem dX10_exportCandidates_75 : decode cX10_exportCandidates 75 = .ok (.iaload, 1) := by decide +kernel
theorem dX10_exportCandidates_76 : decode cX10_exportCandidates 76 = .ok (.invokevirtual 278, 3) := by decide +kernel
theorem dX10_exportCandidates_79 : decode cX10_exportCandidates 79 = .ok (.iinc 3 1, 3) := by decide +kernel
theorem dX10_exportCandidates_82 : decode cX10_exportCandidates 82 = .ok (.goto (-34), 3) := by decide +kernel
theorem dX10_exportCandidates_85 : decode cX10_exportCandidates 85 = .ok (.aload_n 0, 1) := by decide +kernel
theorem dX10_exportCandidates_86 : decode cX10_exportCandidates 86 = .ok (.getfield 159, 3) := by decide +kernel
theorem dX10_exportCandidates_89 : decode cX10_exportCandidates 89 = .ok (.iload_n 1, 1) := by decide +kernel
theorem dX10_exportCandidates_90 : decode cX10_exportCandidates 90 = .ok (.iaload, 1) := by decide +kernel
theorem dX10_exportCandidates_91 : decode cX10_exportCandidates 91 = .ok (.iload_n 2, 1) := by decide +kernel
theorem dX10_exportCandidates_92 : decode cX10_exportCandidates 92 = .ok (.if_icmp .ge 8, 3) := by decide +kernel
theorem dX10_exportCandidates_95 : decode cX10_exportCandidates 95 = .ok (.bipush (-13), 2) := by decide +kernel
theorem dX10_exportCandidates_97 : decode cX10_exportCandidates 97 = .ok (.goto 4, 3) := by decide +kernel
theorem dX10_exportCandidates_100 : decode cX10_exportCandidates 100 = .ok (.iload_n 2, 1) := by decide +kernel
theorem dX10_exportCandidates_101 : decode cX10_exportCandidates 101 = .ok (.ireturn, 1) := by decide +kernel
theorem dX10_compareTable_0 : decode cX10_compareTable 0 = .ok (.aload_n 0, 1) := by decide +kernel
theorem dX10_compareTable_1 : decode cX10_compareTable 1 = .ok (.iload_n 1, 1) := by decide +kernel
theorem dX10_compareTable_2 : decode cX10_compareTable 2 = .ok (.invokevirtual 275, 3) := by decide +kernel
theorem dX10_compareTable_5 : decode cX10_compareTable 5 = .ok (.ifCond .ne 6, 3) := by decide +kernel
theorem dX10_compareTable_8 : decode cX10_compareTable 8 = .ok (.bipush (-2), 2) := by decide +kernel
theorem dX10_compareTable_10 : decode cX10_compareTable 10 = .ok (.ireturn, 1) := by decide +kernel
theorem dX10_compareTable_11 : decode cX10_compareTable 11 = .ok (.aload_n 0, 1) := by decide +kernel
theorem dX10_compareTable_12 : decode cX10_compareTable 12 = .ok (.getfield 156, 3) := by decide +kernel
theorem dX10_compareTable_15 : decode cX10_compareTable 15 = .ok (.iload_n 1, 1) := by decide +kernel
theorem dX10_compareTable_16 : decode cX10_compareTable 16 = .ok (.iaload, 1) := by decide +kernel
theorem dX10_compareTable_17 : decode cX10_compareTable 17 = .ok (.ifCond .ge 6, 3) := by decide +kernel
theorem dX10_compareTable_20 : decode cX10_compareTable 20 = .ok (.bipush (-11), 2) := by decide +kernel
theorem dX10_compareTable_22 : decode cX10_compareTable 22 = .ok (.ireturn, 1) := by decide +kernel
theorem dX10_compareTable_23 : decode cX10_compareTable 23 = .ok (.aload_n 0, 1) := by decide +kernel
theorem dX10_compareTable_24 : decode cX10_compareTable 24 = .ok (.getfield 156, 3) := by decide +kernel
theorem dX10_compareTable_27 : decode cX10_compareTable 27 = .ok (.iload_n 1, 1) := by decide +kernel
theorem dX10_compareTable_28 : decode cX10_compareTable 28 = .ok (.iaload, 1) := by decide +kernel
theorem dX10_compareTable_29 : decode cX10_compareTable 29 = .ok (.iconst 2, 1) := by decide +kernel
theorem dX10_compareTable_30 : decode cX10_compareTable 30 = .ok (.if_icmp .eq 6, 3) := by decide +kernel
theorem dX10_compareTable_33 : decode cX10_compareTable 33 = .ok (.bipush (-12), 2) := by decide +kernel
theorem dX10_compareTable_35 : decode cX10_compareTable 35 = .ok (.ireturn, 1) := by decide +kernel
theorem dX10_compareTable_36 : decode cX10_compareTable 36 = .ok (.iconst 0, 1) := by decide +kernel
theorem dX10_compareTable_37 : decode cX10_compareTable 37 = .ok (.istore_n 2, 1) := by decide +kernel
theorem dX10_compareTable_38 : decode cX10_compareTable 38 = .ok (.iload_n 2, 1) := by decide +kernel
theorem dX10_compareTable_39 : decode cX10_compareTable 39 = .ok (.aload_n 0, 1) := by decide +kernel
theorem dX10_compareTable_40 : decode cX10_compareTable 40 = .ok (.getfield 7, 3) := by decide +kernel
theorem dX10_compareTable_43 : decode cX10_compareTable 43 = .ok (.aload_n 0, 1) := by decide +kernel
theorem dX10_compareTable_44 : decode cX10_compareTable 44 = .ok (.getfield 13, 3) := by decide +kernel
theorem dX10_compareTable_47 : decode cX10_compareTable 47 = .ok (.imul, 1) := by decide +kernel
theorem dX10_compareTable_48 : decode cX10_compareTable 48 = .ok (.if_icmp .ge 50, 3) := by decide +kernel
theorem dX10_compareTable_51 : decode cX10_compareTable 51 = .ok (.iload_n 2, 1) := by decide +kernel
theorem dX10_compareTable_52 : decode cX10_compareTable 52 = .ok (.aload_n 0, 1) := by decide +kernel
theorem dX10_compareTable_53 : decode cX10_compareTable 53 = .ok (.getfield 159, 3) := by decide +kernel
theorem dX10_compareTable_56 : decode cX10_compareTable 56 = .ok (.iload_n 1, 1) := by decide +kernel
theorem dX10_compareTable_57 : decode cX10_compareTable 57 = .ok (.iaload, 1) := by decide +kernel
theorem dX10_compareTable_58 : decode cX10_compareTable 58 = .ok (.if_icmp .lt 6, 3) := by decide +kernel
theorem dX10_compareTable_61 : decode cX10_compareTable 61 = .ok (.bipush (-13), 2) := by decide +kernel
theorem dX10_compareTable_63 : decode cX10_compareTable 63 = .ok (.ireturn, 1) := by decide +kernel
theorem dX10_compareTable_64 : decode cX10_compareTable 64 = .ok (.aload_n 0, 1) := by decide +kernel
theorem dX10_compareTable_65 : decode cX10_compareTable 65 = .ok (.getfield 162, 3) := by decide +kernel
theorem dX10_compareTable_68 : decode cX10_compareTable 68 = .ok (.bipush 64, 2) := by decide +kernel
theorem dX10_compareTable_70 : decode cX10_compareTable 70 = .ok (.iload_n 1, 1) := by decide +kernel
theorem dX10_compareTable_71 : decode cX10_compareTable 71 = .ok (.imul, 1) := by decide +kernel
theorem dX10_compareTable_72 : decode cX10_compareTable 72 = .ok (.iload_n 2, 1) := by decide +kernel
theorem dX10_compareTable_73 : decode cX10_compareTable 73 = .ok (.iadd, 1) := by decide +kernel
theorem dX10_compareTable_74 : decode cX10_compareTable 74 = .ok (.iaload, 1) := by decide +kernel
theorem dX10_compareTable_75 : decode cX10_compareTable 75 = .ok (.aload_n 0, 1) := by decide +kernel
theorem dX10_compareTable_76 : decode cX10_compareTable 76 = .ok (.getfield 22, 3) := by decide +kernel
theorem dX10_compareTable_79 : decode cX10_compareTable 79 = .ok (.aload_n 0, 1) := by decide +kernel
theorem dX10_compareTable_80 : decode cX10_compareTable 80 = .ok (.iload_n 2, 1) := by decide +kernel
theorem dX10_compareTable_81 : decode cX10_compareTable 81 = .ok (.invokevirtual 281, 3) := by decide +kernel
theorem dX10_compareTable_84 : decode cX10_compareTable 84 = .ok (.iaload, 1) := by decide +kernel
theorem dX10_compareTable_85 : decode cX10_compareTable 85 = .ok (.iconst 1, 1) := by decide +kernel
theorem dX10_compareTable_86 : decode cX10_compareTable 86 = .ok (.iand, 1) := by decide +kernel
theorem dX10_compareTable_87 : decode cX10_compareTable 87 = .ok (.if_icmp .ne 5, 3) := by decide +kernel
theorem dX10_compareTable_90 : decode cX10_compareTable 90 = .ok (.iload_n 2, 1) := by decide +kernel
theorem dX10_compareTable_91 : decode cX10_compareTable 91 = .ok (.ireturn, 1) := by decide +kernel
theorem dX10_compareTable_92 : decode cX10_compareTable 92 = .ok (.iinc 2 1, 3) := by decide +kernel
theorem dX10_compareTable_95 : decode cX10_compareTable 95 = .ok (.goto (-57), 3) := by decide +kernel
theorem dX10_compareTable_98 : decode cX10_compareTable 98 = .ok (.bipush (-8), 2) := by decide +kernel
theorem dX10_compareTable_100 : decode cX10_compareTable 100 = .ok (.ireturn, 1) := by decide +kernel
