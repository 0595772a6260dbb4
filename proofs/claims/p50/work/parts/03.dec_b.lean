theorem dX4_init_0 : decode cX4_init 0 = .ok (.aload_n 0, 1) := by decide +kernel
theorem dX4_init_1 : decode cX4_init 1 = .ok (.invokespecial 1, 3) := by decide +kernel
theorem dX4_init_4 : decode cX4_init 4 = .ok (.aload_n 0, 1) := by decide +kernel
theorem dX4_init_5 : decode cX4_init 5 = .ok (.new 7, 3) := by decide +kernel
theorem dX4_init_8 : decode cX4_init 8 = .ok (.dup, 1) := by decide +kernel
theorem dX4_init_9 : decode cX4_init 9 = .ok (.invokespecial 9, 3) := by decide +kernel
theorem dX4_init_12 : decode cX4_init 12 = .ok (.putfield 10, 3) := by decide +kernel
theorem dX4_init_15 : decode cX4_init 15 = .ok (.aload_n 0, 1) := by decide +kernel
theorem dX4_init_16 : decode cX4_init 16 = .ok (.new 16, 3) := by decide +kernel
theorem dX4_init_19 : decode cX4_init 19 = .ok (.dup, 1) := by decide +kernel
theorem dX4_init_20 : decode cX4_init 20 = .ok (.invokespecial 18, 3) := by decide +kernel
theorem dX4_init_23 : decode cX4_init 23 = .ok (.putfield 19, 3) := by decide +kernel
theorem dX4_init_26 : decode cX4_init 26 = .ok (.aload_n 0, 1) := by decide +kernel
theorem dX4_init_27 : decode cX4_init 27 = .ok (.iconst 0, 1) := by decide +kernel
theorem dX4_init_28 : decode cX4_init 28 = .ok (.putfield 23, 3) := by decide +kernel
theorem dX4_init_31 : decode cX4_init 31 = .ok (.aload_n 0, 1) := by decide +kernel
theorem dX4_init_32 : decode cX4_init 32 = .ok (.iconst 0, 1) := by decide +kernel
theorem dX4_init_33 : decode cX4_init 33 = .ok (.putfield 27, 3) := by decide +kernel
theorem dX4_init_36 : decode cX4_init 36 = .ok (.return_, 1) := by decide +kernel
theorem dX4_begin_0 : decode cX4_begin 0 = .ok (.aload_n 0, 1) := by decide +kernel
theorem dX4_begin_1 : decode cX4_begin 1 = .ok (.iconst 0, 1) := by decide +kernel
theorem dX4_begin_2 : decode cX4_begin 2 = .ok (.putfield 23, 3) := by decide +kernel
theorem dX4_begin_5 : decode cX4_begin 5 = .ok (.aload_n 0, 1) := by decide +kernel
theorem dX4_begin_6 : decode cX4_begin 6 = .ok (.aload_n 1, 1) := by decide +kernel
theorem dX4_begin_7 : decode cX4_begin 7 = .ok (.aload_n 1, 1) := by decide +kernel
theorem dX4_begin_8 : decode cX4_begin 8 = .ok (.invokevirtual 30, 3) := by decide +kernel
theorem dX4_begin_11 : decode cX4_begin 11 = .ok (.invokevirtual 34, 3) := by decide +kernel
theorem dX4_begin_14 : decode cX4_begin 14 = .ok (.ireturn, 1) := by decide +kernel
theorem dX4_probeRound_0 : decode cX4_probeRound 0 = .ok (.iconst 0, 1) := by decide +kernel
theorem dX4_probeRound_1 : decode cX4_probeRound 1 = .ok (.istore_n 2, 1) := by decide +kernel
theorem dX4_probeRound_2 : decode cX4_probeRound 2 = .ok (.iload_n 2, 1) := by decide +kernel
theorem dX4_probeRound_3 : decode cX4_probeRound 3 = .ok (.aload_n 1, 1) := by decide +kernel
theorem dX4_probeRound_4 : decode cX4_probeRound 4 = .ok (.invokevirtual 38, 3) := by decide +kernel
theorem dX4_probeRound_7 : decode cX4_probeRound 7 = .ok (.if_icmp .ge 103, 3) := by decide +kernel
theorem dX4_probeRound_10 : decode cX4_probeRound 10 = .ok (.iconst 0, 1) := by decide +kernel
theorem dX4_probeRound_11 : decode cX4_probeRound 11 = .ok (.istore_n 3, 1) := by decide +kernel
theorem dX4_probeRound_12 : decode cX4_probeRound 12 = .ok (.iload_n 3, 1) := by decide +kernel
theorem dX4_probeRound_13 : decode cX4_probeRound 13 = .ok (.aload_n 1, 1) := by decide +kernel
theorem dX4_probeRound_14 : decode cX4_probeRound 14 = .ok (.getfield 41, 3) := by decide +kernel
theorem dX4_probeRound_17 : decode cX4_probeRound 17 = .ok (.if_icmp .gt 87, 3) := by decide +kernel
theorem dX4_probeRound_20 : decode cX4_probeRound 20 = .ok (.aload_n 1, 1) := by decide +kernel
theorem dX4_probeRound_21 : decode cX4_probeRound 21 = .ok (.iload_n 2, 1) := by decide +kernel
theorem dX4_probeRound_22 : decode cX4_probeRound 22 = .ok (.iload_n 3, 1) := by decide +kernel
theorem dX4_probeRound_23 : decode cX4_probeRound 23 = .ok (.invokevirtual 44, 3) := by decide +kernel
theorem dX4_probeRound_26 : decode cX4_probeRound 26 = .ok (.ifCond .eq 15, 3) := by decide +kernel
theorem dX4_probeRound_29 : decode cX4_probeRound 29 = .ok (.aload_n 1, 1) := by decide +kernel
theorem dX4_probeRound_30 : decode cX4_probeRound 30 = .ok (.iload_n 2, 1) := by decide +kernel
theorem dX4_probeRound_31 : decode cX4_probeRound 31 = .ok (.invokevirtual 48, 3) := by decide +kernel
theorem dX4_probeRound_34 : decode cX4_probeRound 34 = .ok (.ifCond .ne 7, 3) := by decide +kernel
theorem dX4_probeRound_37 : decode cX4_probeRound 37 = .ok (.iconst 1, 1) := by decide +kernel
theorem dX4_probeRound_38 : decode cX4_probeRound 38 = .ok (.goto 4, 3) := by decide +kernel
theorem dX4_probeRound_41 : decode cX4_probeRound 41 = .ok (.iconst 0, 1) := by decide +kernel
theorem dX4_probeRound_42 : decode cX4_probeRound 42 = .ok (.istore 4, 2) := by decide +kernel
theorem dX4_probeRound_44 : decode cX4_probeRound 44 = .ok (.iload 4, 2) := by decide +kernel
theorem dX4_probeRound_46 : decode cX4_probeRound 46 = .ok (.ifCond .eq 52, 3) := by decide +kernel
theorem dX4_probeRound_49 : decode cX4_probeRound 49 = .ok (.aload_n 0, 1) := by decide +kernel
theorem dX4_probeRound_50 : decode cX4_probeRound 50 = .ok (.aload_n 1, 1) := by decide +kernel
theorem dX4_probeRound_51 : decode cX4_probeRound 51 = .ok (.iload_n 2, 1) := by decide +kernel
theorem dX4_probeRound_52 : decode cX4_probeRound 52 = .ok (.iload_n 3, 1) := by decide +kernel
theorem dX4_probeRound_53 : decode cX4_probeRound 53 = .ok (.invokevirtual 52, 3) := by decide +kernel
theorem dX4_probeRound_56 : decode cX4_probeRound 56 = .ok (.ifCond .eq 42, 3) := by decide +kernel
theorem dX4_probeRound_59 : decode cX4_probeRound 59 = .ok (.aload_n 0, 1) := by decide +kernel
theorem dX4_probeRound_60 : decode cX4_probeRound 60 = .ok (.dup, 1) := by decide +kernel
theorem dX4_probeRound_61 : decode cX4_probeRound 61 = .ok (.getfield 23, 3) := by decide +kernel
theorem dX4_probeRound_64 : decode cX4_probeRound 64 = .ok (.iconst 1, 1) := by decide +kernel
theorem dX4_probeRound_65 : decode cX4_probeRound 65 = .ok (.iadd, 1) := by decide +kernel
theorem dX4_probeRound_66 : decode cX4_probeRound 66 = .ok (.putfield 23, 3) := by decide +kernel
theorem dX4_probeRound_69 : decode cX4_probeRound 69 = .ok (.aload_n 1, 1) := by decide +kernel
theorem dX4_probeRound_70 : decode cX4_probeRound 70 = .ok (.getfield 56, 3) := by decide +kernel
theorem dX4_probeRound_73 : decode cX4_probeRound 73 = .ok (.iload_n 2, 1) := by decide +kernel
theorem dX4_probeRound_74 : decode cX4_probeRound 74 = .ok (.dup2, 1) := by decide +kernel
theorem dX4_probeRound_75 : decode cX4_probeRound 75 = .ok (.iaload, 1) := by decide +kernel
theorem dX4_probeRound_76 : decode cX4_probeRound 76 = .ok (.iconst 1, 1) := by decide +kernel
theorem dX4_probeRound_77 : decode cX4_probeRound 77 = .ok (.iload_n 3, 1) := by decide +kernel
theorem dX4_probeRound_78 : decode cX4_probeRound 78 = .ok (.ishl, 1) := by decide +kernel
theorem dX4_probeRound_79 : decode cX4_probeRound 79 = .ok (.iconst (-1), 1) := by decide +kernel
theorem dX4_probeRound_80 : decode cX4_probeRound 80 = .ok (.ixor, 1) := by decide +kernel
theorem dX4_probeRound_81 : decode cX4_probeRound 81 = .ok (.iand, 1) := by decide +kernel
theorem dX4_probeRound_82 : decode cX4_probeRound 82 = .ok (.iastore, 1) := by decide +kernel
theorem dX4_probeRound_83 : decode cX4_probeRound 83 = .ok (.aload_n 0, 1) := by decide +kernel
theorem dX4_probeRound_84 : decode cX4_probeRound 84 = .ok (.aload_n 1, 1) := by decide +kernel
theorem dX4_probeRound_85 : decode cX4_probeRound 85 = .ok (.aload_n 1, 1) := by decide +kernel
theorem dX4_probeRound_86 : decode cX4_probeRound 86 = .ok (.iload_n 2, 1) := by decide +kernel
theorem dX4_probeRound_87 : decode cX4_probeRound 87 = .ok (.invokevirtual 60, 3) := by decide +kernel
theorem dX4_probeRound_90 : decode cX4_probeRound 90 = .ok (.invokevirtual 34, 3) := by decide +kernel
theorem dX4_probeRound_93 : decode cX4_probeRound 93 = .ok (.ifCond .ne 5, 3) := by decide +kernel
theorem dX4_probeRound_96 : decode cX4_probeRound 96 = .ok (.iconst 0, 1) := by decide +kernel
theorem dX4_probeRound_97 : decode cX4_probeRound 97 = .ok (.ireturn, 1) := by decide +kernel
theorem dX4_probeRound_98 : decode cX4_probeRound 98 = .ok (.iinc 3 1, 3) := by decide +kernel
theorem dX4_probeRound_101 : decode cX4_probeRound 101 = .ok (.goto (-89), 3) := by decide +kernel
theorem dX4_probeRound_104 : decode cX4_probeRound 104 = .ok (.iinc 2 1, 3) := by decide +kernel
theorem dX4_probeRound_107 : decode cX4_probeRound 107 = .ok (.goto (-105), 3) := by decide +kernel
theorem dX4_probeRound_110 : decode cX4_probeRound 110 = .ok (.iconst 1, 1) := by decide +kernel
theorem dX4_probeRound_111 : decode cX4_probeRound 111 = .ok (.ireturn, 1) := by decide +kernel
theorem dX4_failsWith_0 : decode cX4_failsWith 0 = .ok (.aload_n 0, 1) := by decide +kernel
theorem dX4_failsWith_1 : decode cX4_failsWith 1 = .ok (.getfield 10, 3) := by decide +kernel
theorem dX4_failsWith_4 : decode cX4_failsWith 4 = .ok (.aload_n 1, 1) := by decide +kernel
theorem dX4_failsWith_5 : decode cX4_failsWith 5 = .ok (.invokevirtual 64, 3) := by decide +kernel
theorem dX4_failsWith_8 : decode cX4_failsWith 8 = .ok (.aload_n 0, 1) := by decide +kernel
theorem dX4_failsWith_9 : decode cX4_failsWith 9 = .ok (.getfield 10, 3) := by decide +kernel
theorem dX4_failsWith_12 : decode cX4_failsWith 12 = .ok (.getfield 56, 3) := by decide +kernel
theorem dX4_failsWith_15 : decode cX4_failsWith 15 = .ok (.iload_n 2, 1) := by decide +kernel
theorem dX4_failsWith_16 : decode cX4_failsWith 16 = .ok (.iconst 1, 1) := by decide +kernel
theorem dX4_failsWith_17 : decode cX4_failsWith 17 = .ok (.iload_n 3, 1) := by decide +kernel
theorem dX4_failsWith_18 : decode cX4_failsWith 18 = .ok (.ishl, 1) := by decide +kernel
theorem dX4_failsWith_19 : decode cX4_failsWith 19 = .ok (.iastore, 1) := by decide +kernel
theorem dX4_failsWith_20 : decode cX4_failsWith 20 = .ok (.aload_n 0, 1) := by decide +kernel
theorem dX4_failsWith_21 : decode cX4_failsWith 21 = .ok (.getfield 19, 3) := by decide +kernel
theorem dX4_failsWith_24 : decode cX4_failsWith 24 = .ok (.aload_n 0, 1) := by decide +kernel
theorem dX4_failsWith_25 : decode cX4_failsWith 25 = .ok (.getfield 10, 3) := by decide +kernel
theorem dX4_failsWith_28 : decode cX4_failsWith 28 = .ok (.aload_n 0, 1) := by decide +kernel
theorem dX4_failsWith_29 : decode cX4_failsWith 29 = .ok (.getfield 10, 3) := by decide +kernel
theorem dX4_failsWith_32 : decode cX4_failsWith 32 = .ok (.iload_n 2, 1) := by decide +kernel
theorem dX4_failsWith_33 : decode cX4_failsWith 33 = .ok (.invokevirtual 60, 3) := by decide +kernel
theorem dX4_failsWith_36 : decode cX4_failsWith 36 = .ok (.invokevirtual 68, 3) := by decide +kernel
theorem dX4_failsWith_39 : decode cX4_failsWith 39 = .ok (.ifCond .ne 7, 3) := by decide +kernel
theorem dX4_failsWith_42 : decode cX4_failsWith 42 = .ok (.iconst 1, 1) := by decide +kernel
theorem dX4_failsWith_43 : decode cX4_failsWith 43 = .ok (.goto 4, 3) := by decide +kernel
theorem dX4_failsWith_46 : decode cX4_failsWith 46 = .ok (.iconst 0, 1) := by decide +kernel
theorem dX4_failsWith_47 : decode cX4_failsWith 47 = .ok (.ireturn, 1) := by decide +kernel
theorem dX4_settle_0 : decode cX4_settle 0 = .ok (.aload_n 0, 1) := by decide +kernel
theorem dX4_settle_1 : decode cX4_settle 1 = .ok (.getfield 19, 3) := by decide +kernel
theorem dX4_settle_4 : decode cX4_settle 4 = .ok (.aload_n 1, 1) := by decide +kernel
theorem dX4_settle_5 : decode cX4_settle 5 = .ok (.iload_n 2, 1) := by decide +kernel
theorem dX4_settle_6 : decode cX4_settle 6 = .ok (.invokevirtual 68, 3) := by decide +kernel
theorem dX4_settle_9 : decode cX4_settle 9 = .ok (.istore_n 3, 1) := by decide +kernel
theorem dX4_settle_10 : decode cX4_settle 10 = .ok (.aload_n 0, 1) := by decide +kernel
theorem dX4_settle_11 : decode cX4_settle 11 = .ok (.aload_n 0, 1) := by decide +kernel
theorem dX4_settle_12 : decode cX4_settle 12 = .ok (.getfield 19, 3) := by decide +kernel
theorem dX4_settle_15 : decode cX4_settle 15 = .ok (.getfield 69, 3) := by decide +kernel
theorem dX4_settle_18 : decode cX4_settle 18 = .ok (.putfield 27, 3) := by decide +kernel
theorem dX4_settle_21 : decode cX4_settle 21 = .ok (.iload_n 3, 1) := by decide +kernel
theorem dX4_settle_22 : decode cX4_settle 22 = .ok (.ireturn, 1) := by decide +kernel
theorem dX5_init_0 : decode cX5_init 0 = .ok (.aload_n 0, 1) := by decide +kernel
theorem dX5_init_1 : decode cX5_init 1 = .ok (.invokespecial 3, 3) := by decide +kernel
theorem dX5_init_4 : decode cX5_init 4 = .ok (.aload_n 0, 1) := by decide +kernel
theorem dX5_init_5 : decode cX5_init 5 = .ok (.new 9, 3) := by decide +kernel
theorem dX5_init_8 : decode cX5_init 8 = .ok (.dup, 1) := by decide +kernel
theorem dX5_init_9 : decode cX5_init 9 = .ok (.invokespecial 11, 3) := by decide +kernel
theorem dX5_init_12 : decode cX5_init 12 = .ok (.putfield 12, 3) := by decide +kernel
theorem dX5_init_15 : decode cX5_init 15 = .ok (.aload_n 0, 1) := by decide +kernel
theorem dX5_init_16 : decode cX5_init 16 = .ok (.iconst 0, 1) := by decide +kernel
theorem dX5_init_17 : decode cX5_init 17 = .ok (.putfield 18, 3) := by decide +kernel
theorem dX5_init_20 : decode cX5_init 20 = .ok (.aload_n 0, 1) := by decide +kernel
theorem dX5_init_21 : decode cX5_init 21 = .ok (.iconst 0, 1) := by decide +kernel
theorem dX5_init_22 : decode cX5_init 22 = .ok (.putfield 22, 3) := by decide +kernel
theorem dX5_init_25 : decode cX5_init 25 = .ok (.aload_n 0, 1) := by decide +kernel
theorem dX5_init_26 : decode cX5_init 26 = .ok (.iconst 0, 1) := by decide +kernel
theorem dX5_init_27 : decode cX5_init 27 = .ok (.putfield 25, 3) := by decide +kernel
theorem dX5_init_30 : decode cX5_init 30 = .ok (.return_, 1) := by decide +kernel
theorem dX5_settle_0 : decode cX5_settle 0 = .ok (.iload_n 2, 1) := by decide +kernel
theorem dX5_settle_1 : decode cX5_settle 1 = .ok (.istore_n 3, 1) := by decide +kernel
theorem dX5_settle_2 : decode cX5_settle 2 = .ok (.aload_n 0, 1) := by decide +kernel
theorem dX5_settle_3 : decode cX5_settle 3 = .ok (.iconst 0, 1) := by decide +kernel
theorem dX5_settle_4 : decode cX5_settle 4 = .ok (.putfield 18, 3) := by decide +kernel
theorem dX5_settle_7 : decode cX5_settle 7 = .ok (.aload_n 0, 1) := by decide +kernel
theorem dX5_settle_8 : decode cX5_settle 8 = .ok (.iconst 0, 1) := by decide +kernel
theorem dX5_settle_9 : decode cX5_settle 9 = .ok (.putfield 22, 3) := by decide +kernel
theorem dX5_settle_12 : decode cX5_settle 12 = .ok (.iconst 0, 1) := by decide +kernel
theorem dX5_settle_13 : decode cX5_settle 13 = .ok (.istore 4, 2) := by decide +kernel
theorem dX5_settle_15 : decode cX5_settle 15 = .ok (.iload 4, 2) := by decide +kernel
theorem dX5_settle_17 : decode cX5_settle 17 = .ok (.sipush 192, 3) := by decide +kernel
theorem dX5_settle_20 : decode cX5_settle 20 = .ok (.if_icmp .gt 122, 3) := by decide +kernel
theorem dX5_settle_23 : decode cX5_settle 23 = .ok (.aload_n 0, 1) := by decide +kernel
theorem dX5_settle_24 : decode cX5_settle 24 = .ok (.getfield 22, 3) := by decide +kernel
theorem dX5_settle_27 : decode cX5_settle 27 = .ok (.istore 5, 2) := by decide +kernel
theorem dX5_settle_29 : decode cX5_settle 29 = .ok (.aload_n 0, 1) := by decide +kernel
theorem dX5_settle_30 : decode cX5_settle 30 = .ok (.dup, 1) := by decide +kernel
theorem dX5_settle_31 : decode cX5_settle 31 = .ok (.getfield 18, 3) := by decide +kernel
theorem dX5_settle_34 : decode cX5_settle 34 = .ok (.iconst 1, 1) := by decide +kernel
theorem dX5_settle_35 : decode cX5_settle 35 = .ok (.iadd, 1) := by decide +kernel
theorem dX5_settle_36 : decode cX5_settle 36 = .ok (.putfield 18, 3) := by decide +kernel
theorem dX5_settle_39 : decode cX5_settle 39 = .ok (.iconst 0, 1) := by decide +kernel
theorem dX5_settle_40 : decode cX5_settle 40 = .ok (.istore 6, 2) := by decide +kernel
theorem dX5_settle_42 : decode cX5_settle 42 = .ok (.iload 6, 2) := by decide +kernel
theorem dX5_settle_44 : decode cX5_settle 44 = .ok (.aload_n 1, 1) := by decide +kernel
theorem dX5_settle_45 : decode cX5_settle 45 = .ok (.invokevirtual 28, 3) := by decide +kernel
theorem dX5_settle_48 : decode cX5_settle 48 = .ok (.if_icmp .ge 77, 3) := by decide +kernel
theorem dX5_settle_51 : decode cX5_settle 51 = .ok (.iload_n 3, 1) := by decide +kernel
theorem dX5_settle_52 : decode cX5_settle 52 = .ok (.iload 6, 2) := by decide +kernel
theorem dX5_settle_54 : decode cX5_settle 54 = .ok (.ishr, 1) := by decide +kernel
theorem dX5_settle_55 : decode cX5_settle 55 = .ok (.iconst 1, 1) := by decide +kernel
theorem dX5_settle_56 : decode cX5_settle 56 = .ok (.iand, 1) := by decide +kernel
theorem dX5_settle_57 : decode cX5_settle 57 = .ok (.ifCond .ne 6, 3) := by decide +kernel
theorem dX5_settle_60 : decode cX5_settle 60 = .ok (.goto 59, 3) := by decide +kernel
theorem dX5_settle_63 : decode cX5_settle 63 = .ok (.aload_n 0, 1) := by decide +kernel
theorem dX5_settle_64 : decode cX5_settle 64 = .ok (.getfield 12, 3) := by decide +kernel
theorem dX5_settle_67 : decode cX5_settle 67 = .ok (.aload_n 1, 1) := by decide +kernel
theorem dX5_settle_68 : decode cX5_settle 68 = .ok (.iload 6, 2) := by decide +kernel
theorem dX5_settle_70 : decode cX5_settle 70 = .ok (.invokevirtual 34, 3) := by decide +kernel
theorem dX5_settle_73 : decode cX5_settle 73 = .ok (.ifCond .ne 11, 3) := by decide +kernel
theorem dX5_settle_76 : decode cX5_settle 76 = .ok (.aload_n 0, 1) := by decide +kernel
theorem dX5_settle_77 : decode cX5_settle 77 = .ok (.iload 6, 2) := by decide +kernel
theorem dX5_settle_79 : decode cX5_settle 79 = .ok (.putfield 25, 3) := by decide +kernel
theorem dX5_settle_82 : decode cX5_settle 82 = .ok (.iconst 0, 1) := by decide +kernel
theorem dX5_settle_83 : decode cX5_settle 83 = .ok (.ireturn, 1) := by decide +kernel
theorem dX5_settle_84 : decode cX5_settle 84 = .ok (.aload_n 0, 1) := by decide +kernel
theorem dX5_settle_85 : decode cX5_settle 85 = .ok (.dup, 1) := by decide +kernel
theorem dX5_settle_86 : decode cX5_settle 86 = .ok (.getfield 22, 3) := by decide +kernel
theorem dX5_settle_89 : decode cX5_settle 89 = .ok (.aload_n 0, 1) := by decide +kernel
theorem dX5_settle_90 : decode cX5_settle 90 = .ok (.getfield 12, 3) := by decide +kernel
theorem dX5_settle_93 : decode cX5_settle 93 = .ok (.getfield 38, 3) := by decide +kernel
theorem dX5_settle_96 : decode cX5_settle 96 = .ok (.iadd, 1) := by decide +kernel
theorem dX5_settle_97 : decode cX5_settle 97 = .ok (.putfield 22, 3) := by decide +kernel
theorem dX5_settle_100 : decode cX5_settle 100 = .ok (.iload_n 3, 1) := by decide +kernel
theorem dX5_settle_101 : decode cX5_settle 101 = .ok (.iconst 1, 1) := by decide +kernel
theorem dX5_settle_102 : decode cX5_settle 102 = .ok (.iload 6, 2) := by decide +kernel
theorem dX5_settle_104 : decode cX5_settle 104 = .ok (.ishl, 1) := by decide +kernel
theorem dX5_settle_105 : decode cX5_settle 105 = .ok (.iconst (-1), 1) := by decide +kernel
theorem dX5_settle_106 : decode cX5_settle 106 = .ok (.ixor, 1) := by decide +kernel
theorem dX5_settle_107 : decode cX5_settle 107 = .ok (.iand, 1) := by decide +kernel
theorem dX5_settle_108 : decode cX5_settle 108 = .ok (.istore_n 3, 1) := by decide +kernel
theorem dX5_settle_109 : decode cX5_settle 109 = .ok (.iload_n 3, 1) := by decide +kernel
theorem dX5_settle_110 : decode cX5_settle 110 = .ok (.aload_n 0, 1) := by decide +kernel
theorem dX5_settle_111 : decode cX5_settle 111 = .ok (.getfield 12, 3) := by decide +kernel
theorem dX5_settle_114 : decode cX5_settle 114 = .ok (.getfield 39, 3) := by decide +kernel
theorem dX5_settle_117 : decode cX5_settle 117 = .ok (.ior, 1) := by decide +kernel
theorem dX5_settle_118 : decode cX5_settle 118 = .ok (.istore_n 3, 1) := by decide +kernel
theorem dX5_settle_119 : decode cX5_settle 119 = .ok (.iinc 6 1, 3) := by decide +kernel
theorem dX5_settle_122 : decode cX5_settle 122 = .ok (.goto (-80), 3) := by decide +kernel
theorem dX5_settle_125 : decode cX5_settle 125 = .ok (.aload_n 0, 1) := by decide +kernel
theorem dX5_settle_126 : decode cX5_settle 126 = .ok (.getfield 22, 3) := by decide +kernel
theorem dX5_settle_129 : decode cX5_settle 129 = .ok (.iload 5, 2) := by decide +kernel
theorem dX5_settle_131 : decode cX5_settle 131 = .ok (.if_icmp .ne 5, 3) := by decide +kernel
theorem dX5_settle_134 : decode cX5_settle 134 = .ok (.iconst 1, 1) := by decide +kernel
theorem dX5_settle_135 : decode cX5_settle 135 = .ok (.ireturn, 1) := by decide +kernel
theorem dX5_settle_136 : decode cX5_settle 136 = .ok (.iinc 4 1, 3) := by decide +kernel
theorem dX5_settle_139 : decode cX5_settle 139 = .ok (.goto (-124), 3) := by decide +kernel
theorem dX5_settle_142 : decode cX5_settle 142 = .ok (.iconst 1, 1) := by decide +kernel
theorem dX5_settle_143 : decode cX5_settle 143 = .ok (.ireturn, 1) := by decide +kernel
theorem dX6_init_0 : decode cX6_init 0 = .ok (.aload_n 0, 1) := by decide +kernel
theorem dX6_init_1 : decode cX6_init 1 = .ok (.invokespecial 3, 3) := by decide +kernel
theorem dX6_init_4 : decode cX6_init 4 = .ok (.aload_n 0, 1) := by decide +kernel
theorem dX6_init_5 : decode cX6_init 5 = .ok (.new 9, 3) := by decide +kernel
theorem dX6_init_8 : decode cX6_init 8 = .ok (.dup, 1) := by decide +kernel
theorem dX6_init_9 : decode cX6_init 9 = .ok (.invokespecial 11, 3) := by decide +kernel
theorem dX6_init_12 : decode cX6_init 12 = .ok (.putfield 12, 3) := by decide +kernel
theorem dX6_init_15 : decode cX6_init 15 = .ok (.aload_n 0, 1) := by decide +kernel
theorem dX6_init_16 : decode cX6_init 16 = .ok (.new 18, 3) := by decide +kernel
theorem dX6_init_19 : decode cX6_init 19 = .ok (.dup, 1) := by decide +kernel
theorem dX6_init_20 : decode cX6_init 20 = .ok (.invokespecial 20, 3) := by decide +kernel
theorem dX6_init_23 : decode cX6_init 23 = .ok (.putfield 21, 3) := by decide +kernel
theorem dX6_init_26 : decode cX6_init 26 = .ok (.aload_n 0, 1) := by decide +kernel
theorem dX6_init_27 : decode cX6_init 27 = .ok (.sipush 3840, 3) := by decide +kernel
theorem dX6_init_30 : decode cX6_init 30 = .ok (.newarray .int, 2) := by decide +kernel
theorem dX6_init_32 : decode cX6_init 32 = .ok (.putfield 25, 3) := by decide +kernel
theorem dX6_init_35 : decode cX6_init 35 = .ok (.aload_n 0, 1) := by decide +kernel
theorem dX6_init_36 : decode cX6_init 36 = .ok (.bipush 60, 2) := by decide +kernel
theorem dX6_init_38 : decode cX6_init 38 = .ok (.newarray .int, 2) := by decide +kernel
theorem dX6_init_40 : decode cX6_init 40 = .ok (.putfield 29, 3) := by decide +kernel
theorem dX6_init_43 : decode cX6_init 43 = .ok (.aload_n 0, 1) := by decide +kernel
theorem dX6_init_44 : decode cX6_init 44 = .ok (.bipush 60, 2) := by decide +kernel
theorem dX6_init_46 : decode cX6_init 46 = .ok (.newarray .int, 2) := by decide +kernel
theorem dX6_init_48 : decode cX6_init 48 = .ok (.putfield 32, 3) := by decide +kernel
theorem dX6_init_51 : decode cX6_init 51 = .ok (.aload_n 0, 1) := by decide +kernel
theorem dX6_init_52 : decode cX6_init 52 = .ok (.iconst 0, 1) := by decide +kernel
theorem dX6_init_53 : decode cX6_init 53 = .ok (.putfield 35, 3) := by decide +kernel
theorem dX6_init_56 : decode cX6_init 56 = .ok (.aload_n 0, 1) := by decide +kernel
theorem dX6_init_57 : decode cX6_init 57 = .ok (.iconst 0, 1) := by decide +kernel
theorem dX6_init_58 : decode cX6_init 58 = .ok (.putfield 39, 3) := by decide +kernel
theorem dX6_init_61 : decode cX6_init 61 = .ok (.aload_n 0, 1) := by decide +kernel
theorem dX6_init_62 : decode cX6_init 62 = .ok (.iconst 0, 1) := by decide +kernel
theorem dX6_init_63 : decode cX6_init 63 = .ok (.putfield 42, 3) := by decide +kernel
theorem dX6_init_66 : decode cX6_init 66 = .ok (.aload_n 0, 1) := by decide +kernel
theorem dX6_init_67 : decode cX6_init 67 = .ok (.iconst 0, 1) := by decide +kernel
theorem dX6_init_68 : decode cX6_init 68 = .ok (.putfield 45, 3) := by decide +kernel
theorem dX6_init_71 : decode cX6_init 71 = .ok (.aload_n 0, 1) := by decide +kernel
theorem dX6_init_72 : decode cX6_init 72 = .ok (.iconst 0, 1) := by decide +kernel
theorem dX6_init_73 : decode cX6_init 73 = .ok (.putfield 48, 3) := by decide +kernel
theorem dX6_init_76 : decode cX6_init 76 = .ok (.return_, 1) := by decide +kernel
theorem dX6_find_0 : decode cX6_find 0 = .ok (.aload_n 0, 1) := by decide +kernel
theorem dX6_find_1 : decode cX6_find 1 = .ok (.getfield 12, 3) := by decide +kernel
theorem dX6_find_4 : decode cX6_find 4 = .ok (.aload_n 1, 1) := by decide +kernel
theorem dX6_find_5 : decode cX6_find 5 = .ok (.invokevirtual 52, 3) := by decide +kernel
theorem dX6_find_8 : decode cX6_find 8 = .ok (.aload_n 0, 1) := by decide +kernel
theorem dX6_find_9 : decode cX6_find 9 = .ok (.iload_n 2, 1) := by decide +kernel
theorem dX6_find_10 : decode cX6_find 10 = .ok (.putfield 39, 3) := by decide +kernel
theorem dX6_find_13 : decode cX6_find 13 = .ok (.aload_n 0, 1) := by decide +kernel
theorem dX6_find_14 : decode cX6_find 14 = .ok (.iconst 0, 1) := by decide +kernel
theorem dX6_find_15 : decode cX6_find 15 = .ok (.putfield 35, 3) := by decide +kernel
theorem dX6_find_18 : decode cX6_find 18 = .ok (.aload_n 0, 1) := by decide +kernel
theorem dX6_find_19 : decode cX6_find 19 = .ok (.iconst 0, 1) := by decide +kernel
theorem dX6_find_20 : decode cX6_find 20 = .ok (.putfield 42, 3) := by decide +kernel
theorem dX6_find_23 : decode cX6_find 23 = .ok (.aload_n 0, 1) := by decide +kernel
theorem dX6_find_24 : decode cX6_find 24 = .ok (.iconst 0, 1) := by decide +kernel
theorem dX6_find_25 : decode cX6_find 25 = .ok (.putfield 45, 3) := by decide +kernel
theorem dX6_find_28 : decode cX6_find 28 = .ok (.aload_n 0, 1) := by decide +kernel
theorem dX6_find_29 : decode cX6_find 29 = .ok (.iconst 0, 1) := by decide +kernel
theorem dX6_find_30 : decode cX6_find 30 = .ok (.putfield 48, 3) := by decide +kernel
theorem dX6_find_33 : decode cX6_find 33 = .ok (.aload_n 0, 1) := by decide +kernel
theorem dX6_find_34 : decode cX6_find 34 = .ok (.aload_n 0, 1) := by decide +kernel
theorem dX6_find_35 : decode cX6_find 35 = .ok (.getfield 12, 3) := by decide +kernel
theorem dX6_find_38 : decode cX6_find 38 = .ok (.invokevirtual 56, 3) := by decide +kernel
theorem dX6_find_41 : decode cX6_find 41 = .ok (.invokevirtual 60, 3) := by decide +kernel
theorem dX6_find_44 : decode cX6_find 44 = .ok (.iconst 0, 1) := by decide +kernel
theorem dX6_find_45 : decode cX6_find 45 = .ok (.istore 4, 2) := by decide +kernel
theorem dX6_find_47 : decode cX6_find 47 = .ok (.iload 4, 2) := by decide +kernel
theorem dX6_find_49 : decode cX6_find 49 = .ok (.bipush 121, 2) := by decide +kernel
theorem dX6_find_51 : decode cX6_find 51 = .ok (.if_icmp .ge 73, 3) := by decide +kernel
theorem dX6_find_54 : decode cX6_find 54 = .ok (.aload_n 0, 1) := by decide +kernel
theorem dX6_find_55 : decode cX6_find 55 = .ok (.getfield 35, 3) := by decide +kernel
theorem dX6_find_58 : decode cX6_find 58 = .ok (.ifCond .le 66, 3) := by decide +kernel
theorem dX6_find_61 : decode cX6_find 61 = .ok (.aload_n 0, 1) := by decide +kernel
theorem dX6_find_62 : decode cX6_find 62 = .ok (.getfield 45, 3) := by decide +kernel
theorem dX6_find_65 : decode cX6_find 65 = .ok (.iload_n 3, 1) := by decide +kernel
theorem dX6_find_66 : decode cX6_find 66 = .ok (.if_icmp .ge 58, 3) := by decide +kernel
theorem dX6_find_69 : decode cX6_find 69 = .ok (.aload_n 0, 1) := by decide +kernel
theorem dX6_find_70 : decode cX6_find 70 = .ok (.getfield 48, 3) := by decide +kernel
theorem dX6_find_73 : decode cX6_find 73 = .ok (.ifCond .ne 51, 3) := by decide +kernel
theorem dX6_find_76 : decode cX6_find 76 = .ok (.aload_n 0, 1) := by decide +kernel
theorem dX6_find_77 : decode cX6_find 77 = .ok (.invokevirtual 64, 3) := by decide +kernel
theorem dX6_find_80 : decode cX6_find 80 = .ok (.ifCond .eq 28, 3) := by decide +kernel
theorem dX6_find_83 : decode cX6_find 83 = .ok (.aload_n 0, 1) := by decide +kernel
theorem dX6_find_84 : decode cX6_find 84 = .ok (.aload_n 0, 1) := by decide +kernel
theorem dX6_find_85 : decode cX6_find 85 = .ok (.getfield 12, 3) := by decide +kernel
theorem dX6_find_88 : decode cX6_find 88 = .ok (.aload_n 0, 1) := by decide +kernel
theorem dX6_find_89 : decode cX6_find 89 = .ok (.getfield 29, 3) := by decide +kernel
theorem dX6_find_92 : decode cX6_find 92 = .ok (.aload_n 0, 1) := by decide +kernel
theorem dX6_find_93 : decode cX6_find 93 = .ok (.getfield 35, 3) := by decide +kernel
theorem dX6_find_96 : decode cX6_find 96 = .ok (.iconst 1, 1) := by decide +kernel
theorem dX6_find_97 : decode cX6_find 97 = .ok (.isub, 1) := by decide +kernel
theorem dX6_find_98 : decode cX6_find 98 = .ok (.iaload, 1) := by decide +kernel
theorem dX6_find_99 : decode cX6_find 99 = .ok (.invokevirtual 68, 3) := by decide +kernel
theorem dX6_find_102 : decode cX6_find 102 = .ok (.invokevirtual 60, 3) := by decide +kernel
theorem dX6_find_105 : decode cX6_find 105 = .ok (.goto 13, 3) := by decide +kernel
theorem dX6_find_108 : decode cX6_find 108 = .ok (.aload_n 0, 1) := by decide +kernel
theorem dX6_find_109 : decode cX6_find 109 = .ok (.dup, 1) := by decide +kernel
theorem dX6_find_110 : decode cX6_find 110 = .ok (.getfield 35, 3) := by decide +kernel
theorem dX6_find_113 : decode cX6_find 113 = .ok (.iconst 1, 1) := by decide +kernel
theorem dX6_find_114 : decode cX6_find 114 = .ok (.isub, 1) := by decide +kernel
theorem dX6_find_115 : decode cX6_find 115 = .ok (.putfield 35, 3) := by decide +kernel
theorem dX6_find_118 : decode cX6_find 118 = .ok (.iinc 4 1, 3) := by decide +kernel
theorem dX6_find_121 : decode cX6_find 121 = .ok (.goto (-74), 3) := by decide +kernel
theorem dX6_find_124 : decode cX6_find 124 = .ok (.return_, 1) := by decide +kernel
theorem dX6_lastSolutionColor_0 : decode cX6_lastSolutionColor 0 = .ok (.aload_n 0, 1) := by decide +kernel
theorem dX6_lastSolutionColor_1 : decode cX6_lastSolutionColor 1 = .ok (.getfield 12, 3) := by decide +kernel
theorem dX6_lastSolutionColor_4 : decode cX6_lastSolutionColor 4 = .ok (.iload_n 1, 1) := by decide +kernel
theorem dX6_lastSolutionColor_5 : decode cX6_lastSolutionColor 5 = .ok (.invokevirtual 72, 3) := by decide +kernel
theorem dX6_lastSolutionColor_8 : decode cX6_lastSolutionColor 8 = .ok (.ireturn, 1) := by decide +kernel
theorem dX6_makeNextChild_0 : decode cX6_makeNextChild 0 = .ok (.aload_n 0, 1) := by decide +kernel
theorem dX6_makeNextChild_1 : decode cX6_makeNextChild 1 = .ok (.getfield 35, 3) := by decide +kernel
theorem dX6_makeNextChild_4 : decode cX6_makeNextChild 4 = .ok (.iconst 1, 1) := by decide +kernel
theorem dX6_makeNextChild_5 : decode cX6_makeNextChild 5 = .ok (.isub, 1) := by decide +kernel
theorem dX6_makeNextChild_6 : decode cX6_makeNextChild 6 = .ok (.istore_n 1, 1) := by decide +kernel
theorem dX6_makeNextChild_7 : decode cX6_makeNextChild 7 = .ok (.aload_n 0, 1) := by decide +kernel
theorem dX6_makeNextChild_8 : decode cX6_makeNextChild 8 = .ok (.getfield 29, 3) := by decide +kernel
theorem dX6_makeNextChild_11 : decode cX6_makeNextChild 11 = .ok (.iload_n 1, 1) := by decide +kernel
theorem dX6_makeNextChild_12 : decode cX6_makeNextChild 12 = .ok (.iaload, 1) := by decide +kernel
theorem dX6_makeNextChild_13 : decode cX6_makeNextChild 13 = .ok (.istore_n 2, 1) := by decide +kernel
theorem dX6_makeNextChild_14 : decode cX6_makeNextChild 14 = .ok (.aload_n 0, 1) := by decide +kernel
theorem dX6_makeNextChild_15 : decode cX6_makeNextChild 15 = .ok (.getfield 25, 3) := by decide +kernel
theorem dX6_makeNextChild_18 : decode cX6_makeNextChild 18 = .ok (.iload_n 1, 1) := by decide +kernel
theorem dX6_makeNextChild_19 : decode cX6_makeNextChild 19 = .ok (.bipush 64, 2) := by decide +kernel
theorem dX6_makeNextChild_21 : decode cX6_makeNextChild 21 = .ok (.imul, 1) := by decide +kernel
theorem dX6_makeNextChild_22 : decode cX6_makeNextChild 22 = .ok (.aload_n 0, 1) := by decide +kernel
theorem dX6_makeNextChild_23 : decode cX6_makeNextChild 23 = .ok (.getfield 12, 3) := by decide +kernel
theorem dX6_makeNextChild_26 : decode cX6_makeNextChild 26 = .ok (.getfield 75, 3) := by decide +kernel
theorem dX6_makeNextChild_29 : decode cX6_makeNextChild 29 = .ok (.iconst 0, 1) := by decide +kernel
theorem dX6_makeNextChild_30 : decode cX6_makeNextChild 30 = .ok (.bipush 64, 2) := by decide +kernel
theorem dX6_makeNextChild_32 : decode cX6_makeNextChild 32 = .ok (.invokestatic 78, 3) := by decide +kernel
theorem dX6_makeNextChild_35 : decode cX6_makeNextChild 35 = .ok (.aload_n 0, 1) := by decide +kernel
theorem dX6_makeNextChild_36 : decode cX6_makeNextChild 36 = .ok (.getfield 32, 3) := by decide +kernel
theorem dX6_makeNextChild_39 : decode cX6_makeNextChild 39 = .ok (.iload_n 1, 1) := by decide +kernel
theorem dX6_makeNextChild_40 : decode cX6_makeNextChild 40 = .ok (.iaload, 1) := by decide +kernel
theorem dX6_makeNextChild_41 : decode cX6_makeNextChild 41 = .ok (.istore_n 3, 1) := by decide +kernel
theorem dX6_makeNextChild_42 : decode cX6_makeNextChild 42 = .ok (.iload_n 3, 1) := by decide +kernel
theorem dX6_makeNextChild_43 : decode cX6_makeNextChild 43 = .ok (.aload_n 0, 1) := by decide +kernel
theorem dX6_makeNextChild_44 : decode cX6_makeNextChild 44 = .ok (.getfield 12, 3) := by decide +kernel
theorem dX6_makeNextChild_47 : decode cX6_makeNextChild 47 = .ok (.getfield 84, 3) := by decide +kernel
theorem dX6_makeNextChild_50 : decode cX6_makeNextChild 50 = .ok (.if_icmp .gt 21, 3) := by decide +kernel
theorem dX6_makeNextChild_53 : decode cX6_makeNextChild 53 = .ok (.aload_n 0, 1) := by decide +kernel
theorem dX6_makeNextChild_54 : decode cX6_makeNextChild 54 = .ok (.getfield 12, 3) := by decide +kernel
theorem dX6_makeNextChild_57 : decode cX6_makeNextChild 57 = .ok (.iload_n 2, 1) := by decide +kernel
theorem dX6_makeNextChild_58 : decode cX6_makeNextChild 58 = .ok (.iload_n 3, 1) := by decide +kernel
theorem dX6_makeNextChild_59 : decode cX6_makeNextChild 59 = .ok (.invokevirtual 87, 3) := by decide +kernel
theorem dX6_makeNextChild_62 : decode cX6_makeNextChild 62 = .ok (.ifCond .ne 9, 3) := by decide +kernel
theorem dX6_makeNextChild_65 : decode cX6_makeNextChild 65 = .ok (.iinc 3 1, 3) := by decide +kernel
theorem dX6_makeNextChild_68 : decode cX6_makeNextChild 68 = .ok (.goto (-26), 3) := by decide +kernel
theorem dX6_makeNextChild_71 : decode cX6_makeNextChild 71 = .ok (.iload_n 3, 1) := by decide +kernel
theorem dX6_makeNextChild_72 : decode cX6_makeNextChild 72 = .ok (.aload_n 0, 1) := by decide +kernel
theorem dX6_makeNextChild_73 : decode cX6_makeNextChild 73 = .ok (.getfield 12, 3) := by decide +kernel
theorem dX6_makeNextChild_76 : decode cX6_makeNextChild 76 = .ok (.getfield 84, 3) := by decide +kernel
theorem dX6_makeNextChild_79 : decode cX6_makeNextChild 79 = .ok (.if_icmp .le 5, 3) := by decide +kernel
theorem dX6_makeNextChild_82 : decode cX6_makeNextChild 82 = .ok (.iconst 0, 1) := by decide +kernel
theorem dX6_makeNextChild_83 : decode cX6_makeNextChild 83 = .ok (.ireturn, 1) := by decide +kernel
theorem dX6_makeNextChild_84 : decode cX6_makeNextChild 84 = .ok (.aload_n 0, 1) := by decide +kernel
theorem dX6_makeNextChild_85 : decode cX6_makeNextChild 85 = .ok (.getfield 32, 3) := by decide +kernel
theorem dX6_makeNextChild_88 : decode cX6_makeNextChild 88 = .ok (.iload_n 1, 1) := by decide +kernel
theorem dX6_makeNextChild_89 : decode cX6_makeNextChild 89 = .ok (.iload_n 3, 1) := by decide +kernel
theorem dX6_makeNextChild_90 : decode cX6_makeNextChild 90 = .ok (.iconst 1, 1) := by decide +kernel
theorem dX6_makeNextChild_91 : decode cX6_makeNextChild 91 = .ok (.iadd, 1) := by decide +kernel
theorem dX6_makeNextChild_92 : decode cX6_makeNextChild 92 = .ok (.iastore, 1) := by decide +kernel
theorem dX6_makeNextChild_93 : decode cX6_makeNextChild 93 = .ok (.aload_n 0, 1) := by decide +kernel
theorem dX6_makeNextChild_94 : decode cX6_makeNextChild 94 = .ok (.getfield 12, 3) := by decide +kernel
theorem dX6_makeNextChild_97 : decode cX6_makeNextChild 97 = .ok (.getfield 75, 3) := by decide +kernel
theorem dX6_makeNextChild_100 : decode cX6_makeNextChild 100 = .ok (.iload_n 2, 1) := by decide +kernel
theorem dX6_makeNextChild_101 : decode cX6_makeNextChild 101 = .ok (.iconst 1, 1) := by decide +kernel
theorem dX6_makeNextChild_102 : decode cX6_makeNextChild 102 = .ok (.iload_n 3, 1) := by decide +kernel
theorem dX6_makeNextChild_103 : decode cX6_makeNextChild 103 = .ok (.ishl, 1) := by decide +kernel
theorem dX6_makeNextChild_104 : decode cX6_makeNextChild 104 = .ok (.iastore, 1) := by decide +kernel
theorem dX6_makeNextChild_105 : decode cX6_makeNextChild 105 = .ok (.iconst 1, 1) := by decide +kernel
theorem dX6_makeNextChild_106 : decode cX6_makeNextChild 106 = .ok (.ireturn, 1) := by decide +kernel
theorem dX6_visit_0 : decode cX6_visit 0 = .ok (.aload_n 0, 1) := by decide +kernel
theorem dX6_visit_1 : decode cX6_visit 1 = .ok (.getfield 42, 3) := by decide +kernel
theorem dX6_visit_4 : decode cX6_visit 4 = .ok (.bipush 60, 2) := by decide +kernel
theorem dX6_visit_6 : decode cX6_visit 6 = .ok (.if_icmp .lt 9, 3) := by decide +kernel
theorem dX6_visit_9 : decode cX6_visit 9 = .ok (.aload_n 0, 1) := by decide +kernel
theorem dX6_visit_10 : decode cX6_visit 10 = .ok (.iconst 1, 1) := by decide +kernel
theorem dX6_visit_11 : decode cX6_visit 11 = .ok (.putfield 48, 3) := by decide +kernel
theorem dX6_visit_14 : decode cX6_visit 14 = .ok (.return_, 1) := by decide +kernel
theorem dX6_visit_15 : decode cX6_visit 15 = .ok (.aload_n 0, 1) := by decide +kernel
theorem dX6_visit_16 : decode cX6_visit 16 = .ok (.dup, 1) := by decide +kernel
theorem dX6_visit_17 : decode cX6_visit 17 = .ok (.getfield 42, 3) := by decide +kernel
theorem dX6_visit_20 : decode cX6_visit 20 = .ok (.iconst 1, 1) := by decide +kernel
theorem dX6_visit_21 : decode cX6_visit 21 = .ok (.iadd, 1) := by decide +kernel
theorem dX6_visit_22 : decode cX6_visit 22 = .ok (.putfield 42, 3) := by decide +kernel
theorem dX6_visit_25 : decode cX6_visit 25 = .ok (.aload_n 0, 1) := by decide +kernel
theorem dX6_visit_26 : decode cX6_visit 26 = .ok (.getfield 21, 3) := by decide +kernel
theorem dX6_visit_29 : decode cX6_visit 29 = .ok (.aload_n 0, 1) := by decide +kernel
theorem dX6_visit_30 : decode cX6_visit 30 = .ok (.getfield 12, 3) := by decide +kernel
theorem dX6_visit_33 : decode cX6_visit 33 = .ok (.iload_n 1, 1) := by decide +kernel
theorem dX6_visit_34 : decode cX6_visit 34 = .ok (.invokevirtual 91, 3) := by decide +kernel
theorem dX6_visit_37 : decode cX6_visit 37 = .ok (.ifCond .ne 4, 3) := by decide +kernel
theorem dX6_visit_40 : decode cX6_visit 40 = .ok (.return_, 1) := by decide +kernel
theorem dX6_visit_41 : decode cX6_visit 41 = .ok (.aload_n 0, 1) := by decide +kernel
theorem dX6_visit_42 : decode cX6_visit 42 = .ok (.getfield 12, 3) := by decide +kernel
theorem dX6_visit_45 : decode cX6_visit 45 = .ok (.invokevirtual 95, 3) := by decide +kernel
theorem dX6_visit_48 : decode cX6_visit 48 = .ok (.ifCond .eq 14, 3) := by decide +kernel
theorem dX6_visit_51 : decode cX6_visit 51 = .ok (.aload_n 0, 1) := by decide +kernel
theorem dX6_visit_52 : decode cX6_visit 52 = .ok (.dup, 1) := by decide +kernel
theorem dX6_visit_53 : decode cX6_visit 53 = .ok (.getfield 45, 3) := by decide +kernel
theorem dX6_visit_56 : decode cX6_visit 56 = .ok (.iconst 1, 1) := by decide +kernel
theorem dX6_visit_57 : decode cX6_visit 57 = .ok (.iadd, 1) := by decide +kernel
theorem dX6_visit_58 : decode cX6_visit 58 = .ok (.putfield 45, 3) := by decide +kernel
theorem dX6_visit_61 : decode cX6_visit 61 = .ok (.return_, 1) := by decide +kernel
theorem dX6_visit_62 : decode cX6_visit 62 = .ok (.aload_n 0, 1) := by decide +kernel
theorem dX6_visit_63 : decode cX6_visit 63 = .ok (.getfield 12, 3) := by decide +kernel
theorem dX6_visit_66 : decode cX6_visit 66 = .ok (.getfield 75, 3) := by decide +kernel
theorem dX6_visit_69 : decode cX6_visit 69 = .ok (.iconst 0, 1) := by decide +kernel
theorem dX6_visit_70 : decode cX6_visit 70 = .ok (.aload_n 0, 1) := by decide +kernel
theorem dX6_visit_71 : decode cX6_visit 71 = .ok (.getfield 25, 3) := by decide +kernel
theorem dX6_visit_74 : decode cX6_visit 74 = .ok (.aload_n 0, 1) := by decide +kernel
theorem dX6_visit_75 : decode cX6_visit 75 = .ok (.getfield 35, 3) := by decide +kernel
theorem dX6_visit_78 : decode cX6_visit 78 = .ok (.bipush 64, 2) := by decide +kernel
theorem dX6_visit_80 : decode cX6_visit 80 = .ok (.imul, 1) := by decide +kernel
theorem dX6_visit_81 : decode cX6_visit 81 = .ok (.bipush 64, 2) := by decide +kernel
theorem dX6_visit_83 : decode cX6_visit 83 = .ok (.invokestatic 78, 3) := by decide +kernel
theorem dX6_visit_86 : decode cX6_visit 86 = .ok (.aload_n 0, 1) := by decide +kernel
theorem dX6_visit_87 : decode cX6_visit 87 = .ok (.getfield 29, 3) := by decide +kernel
theorem dX6_visit_90 : decode cX6_visit 90 = .ok (.aload_n 0, 1) := by decide +kernel
theorem dX6_visit_91 : decode cX6_visit 91 = .ok (.getfield 35, 3) := by decide +kernel
theorem dX6_visit_94 : decode cX6_visit 94 = .ok (.aload_n 0, 1) := by decide +kernel
theorem dX6_visit_95 : decode cX6_visit 95 = .ok (.invokevirtual 98, 3) := by decide +kernel
theorem dX6_visit_98 : decode cX6_visit 98 = .ok (.iastore, 1) := by decide +kernel
theorem dX6_visit_99 : decode cX6_visit 99 = .ok (.aload_n 0, 1) := by decide +kernel
theorem dX6_visit_100 : decode cX6_visit 100 = .ok (.getfield 32, 3) := by decide +kernel
theorem dX6_visit_103 : decode cX6_visit 103 = .ok (.aload_n 0, 1) := by decide +kernel
theorem dX6_visit_104 : decode cX6_visit 104 = .ok (.getfield 35, 3) := by decide +kernel
theorem dX6_visit_107 : decode cX6_visit 107 = .ok (.iconst 0, 1) := by decide +kernel
theorem dX6_visit_108 : decode cX6_visit 108 = .ok (.iastore, 1) := by decide +kernel
theorem dX6_visit_109 : decode cX6_visit 109 = .ok (.aload_n 0, 1) := by decide +kernel
theorem dX6_visit_110 : decode cX6_visit 110 = .ok (.dup, 1) := by decide +kernel
theorem dX6_visit_111 : decode cX6_visit 111 = .ok (.getfield 35, 3) := by decide +kernel
theorem dX6_visit_114 : decode cX6_visit 114 = .ok (.iconst 1, 1) := by decide +kernel
theorem dX6_visit_115 : decode cX6_visit 115 = .ok (.iadd, 1) := by decide +kernel
theorem dX6_visit_116 : decode cX6_visit 116 = .ok (.putfield 35, 3) := by decide +kernel
theorem dX6_visit_119 : decode cX6_visit 119 = .ok (.return_, 1) := by decide +kernel
theorem dX6_selectCell_0 : decode cX6_selectCell 0 = .ok (.iconst 0, 1) := by decide +kernel
theorem dX6_selectCell_1 : decode cX6_selectCell 1 = .ok (.istore_n 1, 1) := by decide +kernel
theorem dX6_selectCell_2 : decode cX6_selectCell 2 = .ok (.iconst (-1), 1) := by decide +kernel
theorem dX6_selectCell_3 : decode cX6_selectCell 3 = .ok (.istore_n 2, 1) := by decide +kernel
theorem dX6_selectCell_4 : decode cX6_selectCell 4 = .ok (.iconst 0, 1) := by decide +kernel
theorem dX6_selectCell_5 : decode cX6_selectCell 5 = .ok (.istore_n 3, 1) := by decide +kernel
theorem dX6_selectCell_6 : decode cX6_selectCell 6 = .ok (.iload_n 3, 1) := by decide +kernel
theorem dX6_selectCell_7 : decode cX6_selectCell 7 = .ok (.aload_n 0, 1) := by decide +kernel
theorem dX6_selectCell_8 : decode cX6_selectCell 8 = .ok (.getfield 12, 3) := by decide +kernel
theorem dX6_selectCell_11 : decode cX6_selectCell 11 = .ok (.invokevirtual 101, 3) := by decide +kernel
theorem dX6_selectCell_14 : decode cX6_selectCell 14 = .ok (.if_icmp .ge 37, 3) := by decide +kernel
theorem dX6_selectCell_17 : decode cX6_selectCell 17 = .ok (.aload_n 0, 1) := by decide +kernel
theorem dX6_selectCell_18 : decode cX6_selectCell 18 = .ok (.getfield 12, 3) := by decide +kernel
theorem dX6_selectCell_21 : decode cX6_selectCell 21 = .ok (.iload_n 3, 1) := by decide +kernel
theorem dX6_selectCell_22 : decode cX6_selectCell 22 = .ok (.invokevirtual 104, 3) := by decide +kernel
theorem dX6_selectCell_25 : decode cX6_selectCell 25 = .ok (.ifCond .ne 20, 3) := by decide +kernel
theorem dX6_selectCell_28 : decode cX6_selectCell 28 = .ok (.aload_n 0, 1) := by decide +kernel
theorem dX6_selectCell_29 : decode cX6_selectCell 29 = .ok (.iload_n 3, 1) := by decide +kernel
theorem dX6_selectCell_30 : decode cX6_selectCell 30 = .ok (.invokevirtual 108, 3) := by decide +kernel
theorem dX6_selectCell_33 : decode cX6_selectCell 33 = .ok (.iload_n 2, 1) := by decide +kernel
theorem dX6_selectCell_34 : decode cX6_selectCell 34 = .ok (.if_icmp .le 11, 3) := by decide +kernel
theorem dX6_selectCell_37 : decode cX6_selectCell 37 = .ok (.iload_n 3, 1) := by decide +kernel
theorem dX6_selectCell_38 : decode cX6_selectCell 38 = .ok (.istore_n 1, 1) := by decide +kernel
theorem dX6_selectCell_39 : decode cX6_selectCell 39 = .ok (.aload_n 0, 1) := by decide +kernel
theorem dX6_selectCell_40 : decode cX6_selectCell 40 = .ok (.iload_n 3, 1) := by decide +kernel
theorem dX6_selectCell_41 : decode cX6_selectCell 41 = .ok (.invokevirtual 108, 3) := by decide +kernel
theorem dX6_selectCell_44 : decode cX6_selectCell 44 = .ok (.istore_n 2, 1) := by decide +kernel
theorem dX6_selectCell_45 : decode cX6_selectCell 45 = .ok (.iinc 3 1, 3) := by decide +kernel
theorem dX6_selectCell_48 : decode cX6_selectCell 48 = .ok (.goto (-42), 3) := by decide +kernel
theorem dX6_selectCell_51 : decode cX6_selectCell 51 = .ok (.iload_n 1, 1) := by decide +kernel
theorem dX6_selectCell_52 : decode cX6_selectCell 52 = .ok (.ireturn, 1) := by decide +kernel
theorem dX6_score_0 : decode cX6_score 0 = .ok (.aload_n 0, 1) := by decide +kernel
theorem dX6_score_1 : decode cX6_score 1 = .ok (.getfield 39, 3) := by decide +kernel
theorem dX6_score_4 : decode cX6_score 4 = .ok (.lookupswitch 75 #[(1, 28), (2, 43)], 28) := by decide +kernel
theorem dX6_score_32 : decode cX6_score 32 = .ok (.iconst 4, 1) := by decide +kernel
theorem dX6_score_33 : decode cX6_score 33 = .ok (.aload_n 0, 1) := by decide +kernel
theorem dX6_score_34 : decode cX6_score 34 = .ok (.getfield 12, 3) := by decide +kernel
theorem dX6_score_37 : decode cX6_score 37 = .ok (.getfield 75, 3) := by decide +kernel
theorem dX6_score_40 : decode cX6_score 40 = .ok (.iload_n 1, 1) := by decide +kernel
theorem dX6_score_41 : decode cX6_score 41 = .ok (.iaload, 1) := by decide +kernel
theorem dX6_score_42 : decode cX6_score 42 = .ok (.invokestatic 111, 3) := by decide +kernel
theorem dX6_score_45 : decode cX6_score 45 = .ok (.isub, 1) := by decide +kernel
theorem dX6_score_46 : decode cX6_score 46 = .ok (.ireturn, 1) := by decide +kernel
theorem dX6_score_47 : decode cX6_score 47 = .ok (.aload_n 0, 1) := by decide +kernel
theorem dX6_score_48 : decode cX6_score 48 = .ok (.getfield 12, 3) := by decide +kernel
theorem dX6_score_51 : decode cX6_score 51 = .ok (.aload_n 0, 1) := by decide +kernel
theorem dX6_score_52 : decode cX6_score 52 = .ok (.getfield 12, 3) := by decide +kernel
theorem dX6_score_55 : decode cX6_score 55 = .ok (.iload_n 1, 1) := by decide +kernel
theorem dX6_score_56 : decode cX6_score 56 = .ok (.invokevirtual 116, 3) := by decide +kernel
theorem dX6_score_59 : decode cX6_score 59 = .ok (.invokevirtual 119, 3) := by decide +kernel
theorem dX6_score_62 : decode cX6_score 62 = .ok (.aload_n 0, 1) := by decide +kernel
theorem dX6_score_63 : decode cX6_score 63 = .ok (.getfield 12, 3) := by decide +kernel
theorem dX6_score_66 : decode cX6_score 66 = .ok (.aload_n 0, 1) := by decide +kernel
theorem dX6_score_67 : decode cX6_score 67 = .ok (.getfield 12, 3) := by decide +kernel
theorem dX6_score_70 : decode cX6_score 70 = .ok (.iload_n 1, 1) := by decide +kernel
theorem dX6_score_71 : decode cX6_score 71 = .ok (.invokevirtual 122, 3) := by decide +kernel
theorem dX6_score_74 : decode cX6_score 74 = .ok (.invokevirtual 119, 3) := by decide +kernel
theorem dX6_score_77 : decode cX6_score 77 = .ok (.iadd, 1) := by decide +kernel
theorem dX6_score_78 : decode cX6_score 78 = .ok (.ireturn, 1) := by decide +kernel
theorem dX6_score_79 : decode cX6_score 79 = .ok (.iconst 0, 1) := by decide +kernel
theorem dX6_score_80 : decode cX6_score 80 = .ok (.ireturn, 1) := by decide +kernel
theorem dX7_init_0 : decode cX7_init 0 = .ok (.aload_n 0, 1) := by decide +kernel
theorem dX7_init_1 : decode cX7_init 1 = .ok (.invokespecial 3, 3) := by decide +kernel
theorem dX7_init_4 : decode cX7_init 4 = .ok (.aload_n 0, 1) := by decide +kernel
theorem dX7_init_5 : decode cX7_init 5 = .ok (.bipush 64, 2) := by decide +kernel
theorem dX7_init_7 : decode cX7_init 7 = .ok (.newarray .int, 2) := by decide +kernel
theorem dX7_init_9 : decode cX7_init 9 = .ok (.putfield 9, 3) := by decide +kernel
theorem dX7_init_12 : decode cX7_init 12 = .ok (.aload_n 0, 1) := by decide +kernel
theorem dX7_init_13 : decode cX7_init 13 = .ok (.iconst (-1), 1) := by decide +kernel
theorem dX7_init_14 : decode cX7_init 14 = .ok (.putfield 15, 3) := by decide +kernel
theorem dX7_init_17 : decode cX7_init 17 = .ok (.aload_n 0, 1) := by decide +kernel
theorem dX7_init_18 : decode cX7_init 18 = .ok (.iconst 0, 1) := by decide +kernel
theorem dX7_init_19 : decode cX7_init 19 = .ok (.putfield 19, 3) := by decide +kernel
theorem dX7_init_22 : decode cX7_init 22 = .ok (.return_, 1) := by decide +kernel
theorem dX8_init_0 : decode cX8_init 0 = .ok (.aload_n 0, 1) := by decide +kernel
theorem dX8_init_1 : decode cX8_init 1 = .ok (.invokespecial 1, 3) := by decide +kernel
theorem dX8_init_4 : decode cX8_init 4 = .ok (.aload_n 0, 1) := by decide +kernel
theorem dX8_init_5 : decode cX8_init 5 = .ok (.iconst 0, 1) := by decide +kernel
theorem dX8_init_6 : decode cX8_init 6 = .ok (.putfield 7, 3) := by decide +kernel
theorem dX8_init_9 : decode cX8_init 9 = .ok (.aload_n 0, 1) := by decide +kernel
theorem dX8_init_10 : decode cX8_init 10 = .ok (.iload_n 1, 1) := by decide +kernel
theorem dX8_init_11 : decode cX8_init 11 = .ok (.iconst 0, 1) := by decide +kernel
theorem dX8_init_12 : decode cX8_init 12 = .ok (.invokestatic 13, 3) := by decide +kernel
theorem dX8_init_15 : decode cX8_init 15 = .ok (.newarray .int, 2) := by decide +kernel
theorem dX8_init_17 : decode cX8_init 17 = .ok (.putfield 19, 3) := by decide +kernel
theorem dX8_init_20 : decode cX8_init 20 = .ok (.return_, 1) := by decide +kernel
theorem dJ6_bitCount_0f7a4_0 : decode cJ6_bitCount_0f7a4 0 = .ok (.iload_n 0, 1) := by decide +kernel
theorem dJ6_bitCount_0f7a4_1 : decode cJ6_bitCount_0f7a4 1 = .ok (.iload_n 0, 1) := by decide +kernel
theorem dJ6_bitCount_0f7a4_2 : decode cJ6_bitCount_0f7a4 2 = .ok (.iconst 1, 1) := by decide +kernel
theorem dJ6_bitCount_0f7a4_3 : decode cJ6_bitCount_0f7a4 3 = .ok (.iushr, 1) := by decide +kernel
theorem dJ6_bitCount_0f7a4_4 : decode cJ6_bitCount_0f7a4 4 = .ok (.ldc_w 265, 3) := by decide +kernel
theorem dJ6_bitCount_0f7a4_7 : decode cJ6_bitCount_0f7a4 7 = .ok (.iand, 1) := by decide +kernel
theorem dJ6_bitCount_0f7a4_8 : decode cJ6_bitCount_0f7a4 8 = .ok (.isub, 1) := by decide +kernel
theorem dJ6_bitCount_0f7a4_9 : decode cJ6_bitCount_0f7a4 9 = .ok (.istore_n 0, 1) := by decide +kernel
theorem dJ6_bitCount_0f7a4_10 : decode cJ6_bitCount_0f7a4 10 = .ok (.iload_n 0, 1) := by decide +kernel
theorem dJ6_bitCount_0f7a4_11 : decode cJ6_bitCount_0f7a4 11 = .ok (.ldc_w 266, 3) := by decide +kernel
theorem dJ6_bitCount_0f7a4_14 : decode cJ6_bitCount_0f7a4 14 = .ok (.iand, 1) := by decide +kernel
theorem dJ6_bitCount_0f7a4_15 : decode cJ6_bitCount_0f7a4 15 = .ok (.iload_n 0, 1) := by decide +kernel
theorem dJ6_bitCount_0f7a4_16 : decode cJ6_bitCount_0f7a4 16 = .ok (.iconst 2, 1) := by decide +kernel
theorem dJ6_bitCount_0f7a4_17 : decode cJ6_bitCount_0f7a4 17 = .ok (.iushr, 1) := by decide +kernel
theorem dJ6_bitCount_0f7a4_18 : decode cJ6_bitCount_0f7a4 18 = .ok (.ldc_w 266, 3) := by decide +kernel
theorem dJ6_bitCount_0f7a4_21 : decode cJ6_bitCount_0f7a4 21 = .ok (.iand, 1) := by decide +kernel
theorem dJ6_bitCount_0f7a4_22 : decode cJ6_bitCount_0f7a4 22 = .ok (.iadd, 1) := by decide +kernel
theorem dJ6_bitCount_0f7a4_23 : decode cJ6_bitCount_0f7a4 23 = .ok (.istore_n 0, 1) := by decide +kernel
theorem dJ6_bitCount_0f7a4_24 : decode cJ6_bitCount_0f7a4 24 = .ok (.iload_n 0, 1) := by decide +kernel
theorem dJ6_bitCount_0f7a4_25 : decode cJ6_bitCount_0f7a4 25 = .ok (.iload_n 0, 1) := by decide +kernel
theorem dJ6_bitCount_0f7a4_26 : decode cJ6_bitCount_0f7a4 26 = .ok (.iconst 4, 1) := by decide +kernel
theorem dJ6_bitCount_0f7a4_27 : decode cJ6_bitCount_0f7a4 27 = .ok (.iushr, 1) := by decide +kernel
theorem dJ6_bitCount_0f7a4_28 : decode cJ6_bitCount_0f7a4 28 = .ok (.iadd, 1) := by decide +kernel
theorem dJ6_bitCount_0f7a4_29 : decode cJ6_bitCount_0f7a4 29 = .ok (.ldc_w 267, 3) := by decide +kernel
theorem dJ6_bitCount_0f7a4_32 : decode cJ6_bitCount_0f7a4 32 = .ok (.iand, 1) := by decide +kernel
theorem dJ6_bitCount_0f7a4_33 : decode cJ6_bitCount_0f7a4 33 = .ok (.istore_n 0, 1) := by decide +kernel
theorem dJ6_bitCount_0f7a4_34 : decode cJ6_bitCount_0f7a4 34 = .ok (.iload_n 0, 1) := by decide +kernel
theorem dJ6_bitCount_0f7a4_35 : decode cJ6_bitCount_0f7a4 35 = .ok (.iload_n 0, 1) := by decide +kernel
theorem dJ6_bitCount_0f7a4_36 : decode cJ6_bitCount_0f7a4 36 = .ok (.bipush 8, 2) := by decide +kernel
theorem dJ6_bitCount_0f7a4_38 : decode cJ6_bitCount_0f7a4 38 = .ok (.iushr, 1) := by decide +kernel
theorem dJ6_bitCount_0f7a4_39 : decode cJ6_bitCount_0f7a4 39 = .ok (.iadd, 1) := by decide +kernel
theorem dJ6_bitCount_0f7a4_40 : decode cJ6_bitCount_0f7a4 40 = .ok (.istore_n 0, 1) := by decide +kernel
theorem dJ6_bitCount_0f7a4_41 : decode cJ6_bitCount_0f7a4 41 = .ok (.iload_n 0, 1) := by decide +kernel
theorem dJ6_bitCount_0f7a4_42 : decode cJ6_bitCount_0f7a4 42 = .ok (.iload_n 0, 1) := by decide +kernel
theorem dJ6_bitCount_0f7a4_43 : decode cJ6_bitCount_0f7a4 43 = .ok (.bipush 16, 2) := by decide +kernel
theorem dJ6_bitCount_0f7a4_45 : decode cJ6_bitCount_0f7a4 45 = .ok (.iushr, 1) := by decide +kernel
theorem dJ6_bitCount_0f7a4_46 : decode cJ6_bitCount_0f7a4 46 = .ok (.iadd, 1) := by decide +kernel
theorem dJ6_bitCount_0f7a4_47 : decode cJ6_bitCount_0f7a4 47 = .ok (.istore_n 0, 1) := by decide +kernel
theorem dJ6_bitCount_0f7a4_48 : decode cJ6_bitCount_0f7a4 48 = .ok (.iload_n 0, 1) := by decide +kernel
theorem dJ6_bitCount_0f7a4_49 : decode cJ6_bitCount_0f7a4 49 = .ok (.bipush 63, 2) := by decide +kernel
theorem dJ6_bitCount_0f7a4_51 : decode cJ6_bitCount_0f7a4 51 = .ok (.iand, 1) := by decide +kernel
theorem dJ6_bitCount_0f7a4_52 : decode cJ6_bitCount_0f7a4 52 = .ok (.ireturn, 1) := by decide +kernel
theorem dJ7_fill_53178_0 : decode cJ7_fill_53178 0 = .ok (.iconst 0, 1) := by decide +kernel
theorem dJ7_fill_53178_1 : decode cJ7_fill_53178 1 = .ok (.istore_n 2, 1) := by decide +kernel
theorem dJ7_fill_53178_2 : decode cJ7_fill_53178 2 = .ok (.aload_n 0, 1) := by decide +kernel
theorem dJ7_fill_53178_3 : decode cJ7_fill_53178 3 = .ok (.arraylength, 1) := by decide +kernel
theorem dJ7_fill_53178_4 : decode cJ7_fill_53178 4 = .ok (.istore_n 3, 1) := by decide +kernel
theorem dJ7_fill_53178_5 : decode cJ7_fill_53178 5 = .ok (.iload_n 2, 1) := by decide +kernel
theorem dJ7_fill_53178_6 : decode cJ7_fill_53178 6 = .ok (.iload_n 3, 1) := by decide +kernel
theorem dJ7_fill_53178_7 : decode cJ7_fill_53178 7 = .ok (.if_icmp .ge 13, 3) := by decide +kernel
theorem dJ7_fill_53178_10 : decode cJ7_fill_53178 10 = .ok (.aload_n 0, 1) := by decide +kernel
theorem dJ7_fill_53178_11 : decode cJ7_fill_53178 11 = .ok (.iload_n 2, 1) := by decide +kernel
theorem dJ7_fill_53178_12 : decode cJ7_fill_53178 12 = .ok (.iload_n 1, 1) := by decide +kernel
theorem dJ7_fill_53178_13 : decode cJ7_fill_53178 13 = .ok (.iastore, 1) := by decide +kernel
theorem dJ7_fill_53178_14 : decode cJ7_fill_53178 14 = .ok (.iinc 2 1, 3) := by decide +kernel
theorem dJ7_fill_53178_17 : decode cJ7_fill_53178 17 = .ok (.goto (-12), 3) := by decide +kernel
theorem dJ7_fill_53178_20 : decode cJ7_fill_53178 20 = .ok (.return_, 1) := by decide +kernel
theorem dJ9_max_7cf53_0 : decode cJ9_max_7cf53 0 = .ok (.iload_n 0, 1) := by decide +kernel
theorem dJ9_max_7cf53_1 : decode cJ9_max_7cf53 1 = .ok (.iload_n 1, 1) := by decide +kernel
theorem dJ9_max_7cf53_2 : decode cJ9_max_7cf53 2 = .ok (.if_icmp .lt 7, 3) := by decide +kernel
theorem dJ9_max_7cf53_5 : decode cJ9_max_7cf53 5 = .ok (.iload_n 0, 1) := by decide +kernel
theorem dJ9_max_7cf53_6 : decode cJ9_max_7cf53 6 = .ok (.goto 4, 3) := by decide +kernel
theorem dJ9_max_7cf53_9 : decode cJ9_max_7cf53 9 = .ok (.iload_n 1, 1) := by decide +kernel
theorem dJ9_max_7cf53_10 : decode cJ9_max_7cf53 10 = .ok (.ireturn, 1) := by decide +kernel
theorem dJ9_min_7cf53_0 : decode cJ9_min_7cf53 0 = .ok (.iload_n 0, 1) := by decide +kernel
theorem dJ9_min_7cf53_1 : decode cJ9_min_7cf53 1 = .ok (.iload_n 1, 1) := by decide +kernel
theorem dJ9_min_7cf53_2 : decode cJ9_min_7cf53 2 = .ok (.if_icmp .gt 7, 3) := by decide +kernel
theorem dJ9_min_7cf53_5 : decode cJ9_min_7cf53 5 = .ok (.iload_n 0, 1) := by decide +kernel
theorem dJ9_min_7cf53_6 : decode cJ9_min_7cf53 6 = .ok (.goto 4, 3) := by decide +kernel
theorem dJ9_min_7cf53_9 : decode cJ9_min_7cf53 9 = .ok (.iload_n 1, 1) := by decide +kernel
theorem dJ9_min_7cf53_10 : decode cJ9_min_7cf53 10 = .ok (.ireturn, 1) := by decide +kernel
