theorem dX0_init_0 : decode cX0_init 0 = .ok (.aload_n 0, 1) := by decide +kernel
theorem dX0_init_1 : decode cX0_init 1 = .ok (.invokespecial 3, 3) := by decide +kernel
theorem dX0_init_4 : decode cX0_init 4 = .ok (.aload_n 0, 1) := by decide +kernel
theorem dX0_init_5 : decode cX0_init 5 = .ok (.bipush 16, 2) := by decide +kernel
theorem dX0_init_7 : decode cX0_init 7 = .ok (.newarray .int, 2) := by decide +kernel
theorem dX0_init_9 : decode cX0_init 9 = .ok (.putfield 9, 3) := by decide +kernel
theorem dX0_init_12 : decode cX0_init 12 = .ok (.aload_n 0, 1) := by decide +kernel
theorem dX0_init_13 : decode cX0_init 13 = .ok (.sipush 128, 3) := by decide +kernel
theorem dX0_init_16 : decode cX0_init 16 = .ok (.newarray .int, 2) := by decide +kernel
theorem dX0_init_18 : decode cX0_init 18 = .ok (.putfield 15, 3) := by decide +kernel
theorem dX0_init_21 : decode cX0_init 21 = .ok (.aload_n 0, 1) := by decide +kernel
theorem dX0_init_22 : decode cX0_init 22 = .ok (.sipush 128, 3) := by decide +kernel
theorem dX0_init_25 : decode cX0_init 25 = .ok (.newarray .int, 2) := by decide +kernel
theorem dX0_init_27 : decode cX0_init 27 = .ok (.putfield 18, 3) := by decide +kernel
theorem dX0_init_30 : decode cX0_init 30 = .ok (.return_, 1) := by decide +kernel
theorem dX0_runsOf_0 : decode cX0_runsOf 0 = .ok (.aload_n 0, 1) := by decide +kernel
theorem dX0_runsOf_1 : decode cX0_runsOf 1 = .ok (.getfield 9, 3) := by decide +kernel
theorem dX0_runsOf_4 : decode cX0_runsOf 4 = .ok (.iload_n 1, 1) := by decide +kernel
theorem dX0_runsOf_5 : decode cX0_runsOf 5 = .ok (.iaload, 1) := by decide +kernel
theorem dX0_runsOf_6 : decode cX0_runsOf 6 = .ok (.ireturn, 1) := by decide +kernel
theorem dX0_isFull_0 : decode cX0_isFull 0 = .ok (.aload_n 0, 1) := by decide +kernel
theorem dX0_isFull_1 : decode cX0_isFull 1 = .ok (.getfield 9, 3) := by decide +kernel
theorem dX0_isFull_4 : decode cX0_isFull 4 = .ok (.iload_n 1, 1) := by decide +kernel
theorem dX0_isFull_5 : decode cX0_isFull 5 = .ok (.iaload, 1) := by decide +kernel
theorem dX0_isFull_6 : decode cX0_isFull 6 = .ok (.bipush 8, 2) := by decide +kernel
theorem dX0_isFull_8 : decode cX0_isFull 8 = .ok (.if_icmp .lt 7, 3) := by decide +kernel
theorem dX0_isFull_11 : decode cX0_isFull 11 = .ok (.iconst 1, 1) := by decide +kernel
theorem dX0_isFull_12 : decode cX0_isFull 12 = .ok (.goto 4, 3) := by decide +kernel
theorem dX0_isFull_15 : decode cX0_isFull 15 = .ok (.iconst 0, 1) := by decide +kernel
theorem dX0_isFull_16 : decode cX0_isFull 16 = .ok (.ireturn, 1) := by decide +kernel
theorem dX0_lengthOf_0 : decode cX0_lengthOf 0 = .ok (.aload_n 0, 1) := by decide +kernel
theorem dX0_lengthOf_1 : decode cX0_lengthOf 1 = .ok (.getfield 15, 3) := by decide +kernel
theorem dX0_lengthOf_4 : decode cX0_lengthOf 4 = .ok (.iload_n 1, 1) := by decide +kernel
theorem dX0_lengthOf_5 : decode cX0_lengthOf 5 = .ok (.bipush 8, 2) := by decide +kernel
theorem dX0_lengthOf_7 : decode cX0_lengthOf 7 = .ok (.imul, 1) := by decide +kernel
theorem dX0_lengthOf_8 : decode cX0_lengthOf 8 = .ok (.iload_n 2, 1) := by decide +kernel
theorem dX0_lengthOf_9 : decode cX0_lengthOf 9 = .ok (.iadd, 1) := by decide +kernel
theorem dX0_lengthOf_10 : decode cX0_lengthOf 10 = .ok (.iaload, 1) := by decide +kernel
theorem dX0_lengthOf_11 : decode cX0_lengthOf 11 = .ok (.ireturn, 1) := by decide +kernel
theorem dX0_colorOf_0 : decode cX0_colorOf 0 = .ok (.aload_n 0, 1) := by decide +kernel
theorem dX0_colorOf_1 : decode cX0_colorOf 1 = .ok (.getfield 18, 3) := by decide +kernel
theorem dX0_colorOf_4 : decode cX0_colorOf 4 = .ok (.iload_n 1, 1) := by decide +kernel
theorem dX0_colorOf_5 : decode cX0_colorOf 5 = .ok (.bipush 8, 2) := by decide +kernel
theorem dX0_colorOf_7 : decode cX0_colorOf 7 = .ok (.imul, 1) := by decide +kernel
theorem dX0_colorOf_8 : decode cX0_colorOf 8 = .ok (.iload_n 2, 1) := by decide +kernel
theorem dX0_colorOf_9 : decode cX0_colorOf 9 = .ok (.iadd, 1) := by decide +kernel
theorem dX0_colorOf_10 : decode cX0_colorOf 10 = .ok (.iaload, 1) := by decide +kernel
theorem dX0_colorOf_11 : decode cX0_colorOf 11 = .ok (.ireturn, 1) := by decide +kernel
theorem dX0_needsGapBehind_0 : decode cX0_needsGapBehind 0 = .ok (.iload_n 1, 1) := by decide +kernel
theorem dX0_needsGapBehind_1 : decode cX0_needsGapBehind 1 = .ok (.bipush 8, 2) := by decide +kernel
theorem dX0_needsGapBehind_3 : decode cX0_needsGapBehind 3 = .ok (.imul, 1) := by decide +kernel
theorem dX0_needsGapBehind_4 : decode cX0_needsGapBehind 4 = .ok (.iload_n 2, 1) := by decide +kernel
theorem dX0_needsGapBehind_5 : decode cX0_needsGapBehind 5 = .ok (.iadd, 1) := by decide +kernel
theorem dX0_needsGapBehind_6 : decode cX0_needsGapBehind 6 = .ok (.istore_n 3, 1) := by decide +kernel
theorem dX0_needsGapBehind_7 : decode cX0_needsGapBehind 7 = .ok (.iload_n 2, 1) := by decide +kernel
theorem dX0_needsGapBehind_8 : decode cX0_needsGapBehind 8 = .ok (.iconst 1, 1) := by decide +kernel
theorem dX0_needsGapBehind_9 : decode cX0_needsGapBehind 9 = .ok (.iadd, 1) := by decide +kernel
theorem dX0_needsGapBehind_10 : decode cX0_needsGapBehind 10 = .ok (.aload_n 0, 1) := by decide +kernel
theorem dX0_needsGapBehind_11 : decode cX0_needsGapBehind 11 = .ok (.getfield 9, 3) := by decide +kernel
theorem dX0_needsGapBehind_14 : decode cX0_needsGapBehind 14 = .ok (.iload_n 1, 1) := by decide +kernel
theorem dX0_needsGapBehind_15 : decode cX0_needsGapBehind 15 = .ok (.iaload, 1) := by decide +kernel
theorem dX0_needsGapBehind_16 : decode cX0_needsGapBehind 16 = .ok (.if_icmp .ge 24, 3) := by decide +kernel
theorem dX0_needsGapBehind_19 : decode cX0_needsGapBehind 19 = .ok (.aload_n 0, 1) := by decide +kernel
theorem dX0_needsGapBehind_20 : decode cX0_needsGapBehind 20 = .ok (.getfield 18, 3) := by decide +kernel
theorem dX0_needsGapBehind_23 : decode cX0_needsGapBehind 23 = .ok (.iload_n 3, 1) := by decide +kernel
theorem dX0_needsGapBehind_24 : decode cX0_needsGapBehind 24 = .ok (.iaload, 1) := by decide +kernel
theorem dX0_needsGapBehind_25 : decode cX0_needsGapBehind 25 = .ok (.aload_n 0, 1) := by decide +kernel
theorem dX0_needsGapBehind_26 : decode cX0_needsGapBehind 26 = .ok (.getfield 18, 3) := by decide +kernel
theorem dX0_needsGapBehind_29 : decode cX0_needsGapBehind 29 = .ok (.iload_n 3, 1) := by decide +kernel
theorem dX0_needsGapBehind_30 : decode cX0_needsGapBehind 30 = .ok (.iconst 1, 1) := by decide +kernel
theorem dX0_needsGapBehind_31 : decode cX0_needsGapBehind 31 = .ok (.iadd, 1) := by decide +kernel
theorem dX0_needsGapBehind_32 : decode cX0_needsGapBehind 32 = .ok (.iaload, 1) := by decide +kernel
theorem dX0_needsGapBehind_33 : decode cX0_needsGapBehind 33 = .ok (.if_icmp .ne 7, 3) := by decide +kernel
theorem dX0_needsGapBehind_36 : decode cX0_needsGapBehind 36 = .ok (.iconst 1, 1) := by decide +kernel
theorem dX0_needsGapBehind_37 : decode cX0_needsGapBehind 37 = .ok (.goto 4, 3) := by decide +kernel
theorem dX0_needsGapBehind_40 : decode cX0_needsGapBehind 40 = .ok (.iconst 0, 1) := by decide +kernel
theorem dX0_needsGapBehind_41 : decode cX0_needsGapBehind 41 = .ok (.ireturn, 1) := by decide +kernel
theorem dX0_append_0 : decode cX0_append 0 = .ok (.aload_n 0, 1) := by decide +kernel
theorem dX0_append_1 : decode cX0_append 1 = .ok (.iload_n 1, 1) := by decide +kernel
theorem dX0_append_2 : decode cX0_append 2 = .ok (.invokevirtual 29, 3) := by decide +kernel
theorem dX0_append_5 : decode cX0_append 5 = .ok (.ifCond .eq 4, 3) := by decide +kernel
theorem dX0_append_8 : decode cX0_append 8 = .ok (.return_, 1) := by decide +kernel
theorem dX0_append_9 : decode cX0_append 9 = .ok (.iload_n 1, 1) := by decide +kernel
theorem dX0_append_10 : decode cX0_append 10 = .ok (.bipush 8, 2) := by decide +kernel
theorem dX0_append_12 : decode cX0_append 12 = .ok (.imul, 1) := by decide +kernel
theorem dX0_append_13 : decode cX0_append 13 = .ok (.aload_n 0, 1) := by decide +kernel
theorem dX0_append_14 : decode cX0_append 14 = .ok (.getfield 9, 3) := by decide +kernel
theorem dX0_append_17 : decode cX0_append 17 = .ok (.iload_n 1, 1) := by decide +kernel
theorem dX0_append_18 : decode cX0_append 18 = .ok (.iaload, 1) := by decide +kernel
theorem dX0_append_19 : decode cX0_append 19 = .ok (.iadd, 1) := by decide +kernel
theorem dX0_append_20 : decode cX0_append 20 = .ok (.istore 4, 2) := by decide +kernel
theorem dX0_append_22 : decode cX0_append 22 = .ok (.aload_n 0, 1) := by decide +kernel
theorem dX0_append_23 : decode cX0_append 23 = .ok (.getfield 15, 3) := by decide +kernel
theorem dX0_append_26 : decode cX0_append 26 = .ok (.iload 4, 2) := by decide +kernel
theorem dX0_append_28 : decode cX0_append 28 = .ok (.iload_n 2, 1) := by decide +kernel
theorem dX0_append_29 : decode cX0_append 29 = .ok (.iastore, 1) := by decide +kernel
theorem dX0_append_30 : decode cX0_append 30 = .ok (.aload_n 0, 1) := by decide +kernel
theorem dX0_append_31 : decode cX0_append 31 = .ok (.getfield 18, 3) := by decide +kernel
theorem dX0_append_34 : decode cX0_append 34 = .ok (.iload 4, 2) := by decide +kernel
theorem dX0_append_36 : decode cX0_append 36 = .ok (.iload_n 3, 1) := by decide +kernel
theorem dX0_append_37 : decode cX0_append 37 = .ok (.iastore, 1) := by decide +kernel
theorem dX0_append_38 : decode cX0_append 38 = .ok (.aload_n 0, 1) := by decide +kernel
theorem dX0_append_39 : decode cX0_append 39 = .ok (.getfield 9, 3) := by decide +kernel
theorem dX0_append_42 : decode cX0_append 42 = .ok (.iload_n 1, 1) := by decide +kernel
theorem dX0_append_43 : decode cX0_append 43 = .ok (.dup2, 1) := by decide +kernel
theorem dX0_append_44 : decode cX0_append 44 = .ok (.iaload, 1) := by decide +kernel
theorem dX0_append_45 : decode cX0_append 45 = .ok (.iconst 1, 1) := by decide +kernel
theorem dX0_append_46 : decode cX0_append 46 = .ok (.iadd, 1) := by decide +kernel
theorem dX0_append_47 : decode cX0_append 47 = .ok (.iastore, 1) := by decide +kernel
theorem dX0_append_48 : decode cX0_append 48 = .ok (.return_, 1) := by decide +kernel
theorem dX0_lengthenLast_0 : decode cX0_lengthenLast 0 = .ok (.aload_n 0, 1) := by decide +kernel
theorem dX0_lengthenLast_1 : decode cX0_lengthenLast 1 = .ok (.getfield 9, 3) := by decide +kernel
theorem dX0_lengthenLast_4 : decode cX0_lengthenLast 4 = .ok (.iload_n 1, 1) := by decide +kernel
theorem dX0_lengthenLast_5 : decode cX0_lengthenLast 5 = .ok (.iaload, 1) := by decide +kernel
theorem dX0_lengthenLast_6 : decode cX0_lengthenLast 6 = .ok (.ifCond .le 25, 3) := by decide +kernel
theorem dX0_lengthenLast_9 : decode cX0_lengthenLast 9 = .ok (.aload_n 0, 1) := by decide +kernel
theorem dX0_lengthenLast_10 : decode cX0_lengthenLast 10 = .ok (.getfield 15, 3) := by decide +kernel
theorem dX0_lengthenLast_13 : decode cX0_lengthenLast 13 = .ok (.iload_n 1, 1) := by decide +kernel
theorem dX0_lengthenLast_14 : decode cX0_lengthenLast 14 = .ok (.bipush 8, 2) := by decide +kernel
theorem dX0_lengthenLast_16 : decode cX0_lengthenLast 16 = .ok (.imul, 1) := by decide +kernel
theorem dX0_lengthenLast_17 : decode cX0_lengthenLast 17 = .ok (.aload_n 0, 1) := by decide +kernel
theorem dX0_lengthenLast_18 : decode cX0_lengthenLast 18 = .ok (.getfield 9, 3) := by decide +kernel
theorem dX0_lengthenLast_21 : decode cX0_lengthenLast 21 = .ok (.iload_n 1, 1) := by decide +kernel
theorem dX0_lengthenLast_22 : decode cX0_lengthenLast 22 = .ok (.iaload, 1) := by decide +kernel
theorem dX0_lengthenLast_23 : decode cX0_lengthenLast 23 = .ok (.iadd, 1) := by decide +kernel
theorem dX0_lengthenLast_24 : decode cX0_lengthenLast 24 = .ok (.iconst 1, 1) := by decide +kernel
theorem dX0_lengthenLast_25 : decode cX0_lengthenLast 25 = .ok (.isub, 1) := by decide +kernel
theorem dX0_lengthenLast_26 : decode cX0_lengthenLast 26 = .ok (.dup2, 1) := by decide +kernel
theorem dX0_lengthenLast_27 : decode cX0_lengthenLast 27 = .ok (.iaload, 1) := by decide +kernel
theorem dX0_lengthenLast_28 : decode cX0_lengthenLast 28 = .ok (.iconst 1, 1) := by decide +kernel
theorem dX0_lengthenLast_29 : decode cX0_lengthenLast 29 = .ok (.iadd, 1) := by decide +kernel
theorem dX0_lengthenLast_30 : decode cX0_lengthenLast 30 = .ok (.iastore, 1) := by decide +kernel
theorem dX0_lengthenLast_31 : decode cX0_lengthenLast 31 = .ok (.return_, 1) := by decide +kernel
theorem dX0_emptyAll_0 : decode cX0_emptyAll 0 = .ok (.aload_n 0, 1) := by decide +kernel
theorem dX0_emptyAll_1 : decode cX0_emptyAll 1 = .ok (.getfield 9, 3) := by decide +kernel
theorem dX0_emptyAll_4 : decode cX0_emptyAll 4 = .ok (.iconst 0, 1) := by decide +kernel
theorem dX0_emptyAll_5 : decode cX0_emptyAll 5 = .ok (.invokestatic 33, 3) := by decide +kernel
theorem dX0_emptyAll_8 : decode cX0_emptyAll 8 = .ok (.return_, 1) := by decide +kernel
theorem dX0_copyFrom_0 : decode cX0_copyFrom 0 = .ok (.aload_n 1, 1) := by decide +kernel
theorem dX0_copyFrom_1 : decode cX0_copyFrom 1 = .ok (.getfield 9, 3) := by decide +kernel
theorem dX0_copyFrom_4 : decode cX0_copyFrom 4 = .ok (.iconst 0, 1) := by decide +kernel
theorem dX0_copyFrom_5 : decode cX0_copyFrom 5 = .ok (.aload_n 0, 1) := by decide +kernel
theorem dX0_copyFrom_6 : decode cX0_copyFrom 6 = .ok (.getfield 9, 3) := by decide +kernel
theorem dX0_copyFrom_9 : decode cX0_copyFrom 9 = .ok (.iconst 0, 1) := by decide +kernel
theorem dX0_copyFrom_10 : decode cX0_copyFrom 10 = .ok (.aload_n 0, 1) := by decide +kernel
theorem dX0_copyFrom_11 : decode cX0_copyFrom 11 = .ok (.getfield 9, 3) := by decide +kernel
theorem dX0_copyFrom_14 : decode cX0_copyFrom 14 = .ok (.arraylength, 1) := by decide +kernel
theorem dX0_copyFrom_15 : decode cX0_copyFrom 15 = .ok (.invokestatic 39, 3) := by decide +kernel
theorem dX0_copyFrom_18 : decode cX0_copyFrom 18 = .ok (.aload_n 1, 1) := by decide +kernel
theorem dX0_copyFrom_19 : decode cX0_copyFrom 19 = .ok (.getfield 15, 3) := by decide +kernel
theorem dX0_copyFrom_22 : decode cX0_copyFrom 22 = .ok (.iconst 0, 1) := by decide +kernel
theorem dX0_copyFrom_23 : decode cX0_copyFrom 23 = .ok (.aload_n 0, 1) := by decide +kernel
theorem dX0_copyFrom_24 : decode cX0_copyFrom 24 = .ok (.getfield 15, 3) := by decide +kernel
theorem dX0_copyFrom_27 : decode cX0_copyFrom 27 = .ok (.iconst 0, 1) := by decide +kernel
theorem dX0_copyFrom_28 : decode cX0_copyFrom 28 = .ok (.aload_n 0, 1) := by decide +kernel
theorem dX0_copyFrom_29 : decode cX0_copyFrom 29 = .ok (.getfield 15, 3) := by decide +kernel
theorem dX0_copyFrom_32 : decode cX0_copyFrom 32 = .ok (.arraylength, 1) := by decide +kernel
theorem dX0_copyFrom_33 : decode cX0_copyFrom 33 = .ok (.invokestatic 39, 3) := by decide +kernel
theorem dX0_copyFrom_36 : decode cX0_copyFrom 36 = .ok (.aload_n 1, 1) := by decide +kernel
theorem dX0_copyFrom_37 : decode cX0_copyFrom 37 = .ok (.getfield 18, 3) := by decide +kernel
theorem dX0_copyFrom_40 : decode cX0_copyFrom 40 = .ok (.iconst 0, 1) := by decide +kernel
theorem dX0_copyFrom_41 : decode cX0_copyFrom 41 = .ok (.aload_n 0, 1) := by decide +kernel
theorem dX0_copyFrom_42 : decode cX0_copyFrom 42 = .ok (.getfield 18, 3) := by decide +kernel
theorem dX0_copyFrom_45 : decode cX0_copyFrom 45 = .ok (.iconst 0, 1) := by decide +kernel
theorem dX0_copyFrom_46 : decode cX0_copyFrom 46 = .ok (.aload_n 0, 1) := by decide +kernel
theorem dX0_copyFrom_47 : decode cX0_copyFrom 47 = .ok (.getfield 18, 3) := by decide +kernel
theorem dX0_copyFrom_50 : decode cX0_copyFrom 50 = .ok (.arraylength, 1) := by decide +kernel
theorem dX0_copyFrom_51 : decode cX0_copyFrom 51 = .ok (.invokestatic 39, 3) := by decide +kernel
theorem dX0_copyFrom_54 : decode cX0_copyFrom 54 = .ok (.return_, 1) := by decide +kernel
theorem dX1_init_0 : decode cX1_init 0 = .ok (.aload_n 0, 1) := by decide +kernel
theorem dX1_init_1 : decode cX1_init 1 = .ok (.invokespecial 3, 3) := by decide +kernel
theorem dX1_init_4 : decode cX1_init 4 = .ok (.aload_n 0, 1) := by decide +kernel
theorem dX1_init_5 : decode cX1_init 5 = .ok (.iconst 1, 1) := by decide +kernel
theorem dX1_init_6 : decode cX1_init 6 = .ok (.putfield 9, 3) := by decide +kernel
theorem dX1_init_9 : decode cX1_init 9 = .ok (.aload_n 0, 1) := by decide +kernel
theorem dX1_init_10 : decode cX1_init 10 = .ok (.iconst 1, 1) := by decide +kernel
theorem dX1_init_11 : decode cX1_init 11 = .ok (.putfield 15, 3) := by decide +kernel
theorem dX1_init_14 : decode cX1_init 14 = .ok (.aload_n 0, 1) := by decide +kernel
theorem dX1_init_15 : decode cX1_init 15 = .ok (.iconst 1, 1) := by decide +kernel
theorem dX1_init_16 : decode cX1_init 16 = .ok (.putfield 18, 3) := by decide +kernel
theorem dX1_init_19 : decode cX1_init 19 = .ok (.aload_n 0, 1) := by decide +kernel
theorem dX1_init_20 : decode cX1_init 20 = .ok (.new 21, 3) := by decide +kernel
theorem dX1_init_23 : decode cX1_init 23 = .ok (.dup, 1) := by decide +kernel
theorem dX1_init_24 : decode cX1_init 24 = .ok (.invokespecial 23, 3) := by decide +kernel
theorem dX1_init_27 : decode cX1_init 27 = .ok (.putfield 24, 3) := by decide +kernel
theorem dX1_init_30 : decode cX1_init 30 = .ok (.aload_n 0, 1) := by decide +kernel
theorem dX1_init_31 : decode cX1_init 31 = .ok (.bipush 64, 2) := by decide +kernel
theorem dX1_init_33 : decode cX1_init 33 = .ok (.newarray .int, 2) := by decide +kernel
theorem dX1_init_35 : decode cX1_init 35 = .ok (.putfield 28, 3) := by decide +kernel
theorem dX1_init_38 : decode cX1_init 38 = .ok (.return_, 1) := by decide +kernel
theorem dX1_start_0 : decode cX1_start 0 = .ok (.aload_n 0, 1) := by decide +kernel
theorem dX1_start_1 : decode cX1_start 1 = .ok (.iload_n 1, 1) := by decide +kernel
theorem dX1_start_2 : decode cX1_start 2 = .ok (.putfield 9, 3) := by decide +kernel
theorem dX1_start_5 : decode cX1_start 5 = .ok (.aload_n 0, 1) := by decide +kernel
theorem dX1_start_6 : decode cX1_start 6 = .ok (.iload_n 2, 1) := by decide +kernel
theorem dX1_start_7 : decode cX1_start 7 = .ok (.putfield 15, 3) := by decide +kernel
theorem dX1_start_10 : decode cX1_start 10 = .ok (.aload_n 0, 1) := by decide +kernel
theorem dX1_start_11 : decode cX1_start 11 = .ok (.iload_n 3, 1) := by decide +kernel
theorem dX1_start_12 : decode cX1_start 12 = .ok (.putfield 18, 3) := by decide +kernel
theorem dX1_start_15 : decode cX1_start 15 = .ok (.aload_n 0, 1) := by decide +kernel
theorem dX1_start_16 : decode cX1_start 16 = .ok (.getfield 24, 3) := by decide +kernel
theorem dX1_start_19 : decode cX1_start 19 = .ok (.invokevirtual 32, 3) := by decide +kernel
theorem dX1_start_22 : decode cX1_start 22 = .ok (.aload_n 0, 1) := by decide +kernel
theorem dX1_start_23 : decode cX1_start 23 = .ok (.invokevirtual 35, 3) := by decide +kernel
theorem dX1_start_26 : decode cX1_start 26 = .ok (.return_, 1) := by decide +kernel
theorem dX1_fillCandidates_0 : decode cX1_fillCandidates 0 = .ok (.aload_n 0, 1) := by decide +kernel
theorem dX1_fillCandidates_1 : decode cX1_fillCandidates 1 = .ok (.getfield 28, 3) := by decide +kernel
theorem dX1_fillCandidates_4 : decode cX1_fillCandidates 4 = .ok (.iconst 1, 1) := by decide +kernel
theorem dX1_fillCandidates_5 : decode cX1_fillCandidates 5 = .ok (.aload_n 0, 1) := by decide +kernel
theorem dX1_fillCandidates_6 : decode cX1_fillCandidates 6 = .ok (.getfield 18, 3) := by decide +kernel
theorem dX1_fillCandidates_9 : decode cX1_fillCandidates 9 = .ok (.iconst 1, 1) := by decide +kernel
theorem dX1_fillCandidates_10 : decode cX1_fillCandidates 10 = .ok (.iadd, 1) := by decide +kernel
theorem dX1_fillCandidates_11 : decode cX1_fillCandidates 11 = .ok (.ishl, 1) := by decide +kernel
theorem dX1_fillCandidates_12 : decode cX1_fillCandidates 12 = .ok (.iconst 1, 1) := by decide +kernel
theorem dX1_fillCandidates_13 : decode cX1_fillCandidates 13 = .ok (.isub, 1) := by decide +kernel
theorem dX1_fillCandidates_14 : decode cX1_fillCandidates 14 = .ok (.invokestatic 38, 3) := by decide +kernel
theorem dX1_fillCandidates_17 : decode cX1_fillCandidates 17 = .ok (.return_, 1) := by decide +kernel
theorem dX1_copyFrom_0 : decode cX1_copyFrom 0 = .ok (.aload_n 0, 1) := by decide +kernel
theorem dX1_copyFrom_1 : decode cX1_copyFrom 1 = .ok (.aload_n 1, 1) := by decide +kernel
theorem dX1_copyFrom_2 : decode cX1_copyFrom 2 = .ok (.getfield 9, 3) := by decide +kernel
theorem dX1_copyFrom_5 : decode cX1_copyFrom 5 = .ok (.putfield 9, 3) := by decide +kernel
theorem dX1_copyFrom_8 : decode cX1_copyFrom 8 = .ok (.aload_n 0, 1) := by decide +kernel
theorem dX1_copyFrom_9 : decode cX1_copyFrom 9 = .ok (.aload_n 1, 1) := by decide +kernel
theorem dX1_copyFrom_10 : decode cX1_copyFrom 10 = .ok (.getfield 15, 3) := by decide +kernel
theorem dX1_copyFrom_13 : decode cX1_copyFrom 13 = .ok (.putfield 15, 3) := by decide +kernel
theorem dX1_copyFrom_16 : decode cX1_copyFrom 16 = .ok (.aload_n 0, 1) := by decide +kernel
theorem dX1_copyFrom_17 : decode cX1_copyFrom 17 = .ok (.aload_n 1, 1) := by decide +kernel
theorem dX1_copyFrom_18 : decode cX1_copyFrom 18 = .ok (.getfield 18, 3) := by decide +kernel
theorem dX1_copyFrom_21 : decode cX1_copyFrom 21 = .ok (.putfield 18, 3) := by decide +kernel
theorem dX1_copyFrom_24 : decode cX1_copyFrom 24 = .ok (.aload_n 0, 1) := by decide +kernel
theorem dX1_copyFrom_25 : decode cX1_copyFrom 25 = .ok (.getfield 24, 3) := by decide +kernel
theorem dX1_copyFrom_28 : decode cX1_copyFrom 28 = .ok (.aload_n 1, 1) := by decide +kernel
theorem dX1_copyFrom_29 : decode cX1_copyFrom 29 = .ok (.getfield 24, 3) := by decide +kernel
theorem dX1_copyFrom_32 : decode cX1_copyFrom 32 = .ok (.invokevirtual 44, 3) := by decide +kernel
theorem dX1_copyFrom_35 : decode cX1_copyFrom 35 = .ok (.aload_n 1, 1) := by decide +kernel
theorem dX1_copyFrom_36 : decode cX1_copyFrom 36 = .ok (.getfield 28, 3) := by decide +kernel
theorem dX1_copyFrom_39 : decode cX1_copyFrom 39 = .ok (.iconst 0, 1) := by decide +kernel
theorem dX1_copyFrom_40 : decode cX1_copyFrom 40 = .ok (.aload_n 0, 1) := by decide +kernel
theorem dX1_copyFrom_41 : decode cX1_copyFrom 41 = .ok (.getfield 28, 3) := by decide +kernel
theorem dX1_copyFrom_44 : decode cX1_copyFrom 44 = .ok (.iconst 0, 1) := by decide +kernel
theorem dX1_copyFrom_45 : decode cX1_copyFrom 45 = .ok (.aload_n 0, 1) := by decide +kernel
theorem dX1_copyFrom_46 : decode cX1_copyFrom 46 = .ok (.getfield 28, 3) := by decide +kernel
theorem dX1_copyFrom_49 : decode cX1_copyFrom 49 = .ok (.arraylength, 1) := by decide +kernel
theorem dX1_copyFrom_50 : decode cX1_copyFrom 50 = .ok (.invokestatic 48, 3) := by decide +kernel
theorem dX1_copyFrom_53 : decode cX1_copyFrom 53 = .ok (.return_, 1) := by decide +kernel
theorem dX1_cellTotal_0 : decode cX1_cellTotal 0 = .ok (.aload_n 0, 1) := by decide +kernel
theorem dX1_cellTotal_1 : decode cX1_cellTotal 1 = .ok (.getfield 9, 3) := by decide +kernel
theorem dX1_cellTotal_4 : decode cX1_cellTotal 4 = .ok (.aload_n 0, 1) := by decide +kernel
theorem dX1_cellTotal_5 : decode cX1_cellTotal 5 = .ok (.getfield 15, 3) := by decide +kernel
theorem dX1_cellTotal_8 : decode cX1_cellTotal 8 = .ok (.imul, 1) := by decide +kernel
theorem dX1_cellTotal_9 : decode cX1_cellTotal 9 = .ok (.ireturn, 1) := by decide +kernel
theorem dX1_lineTotal_0 : decode cX1_lineTotal 0 = .ok (.aload_n 0, 1) := by decide +kernel
theorem dX1_lineTotal_1 : decode cX1_lineTotal 1 = .ok (.getfield 9, 3) := by decide +kernel
theorem dX1_lineTotal_4 : decode cX1_lineTotal 4 = .ok (.aload_n 0, 1) := by decide +kernel
theorem dX1_lineTotal_5 : decode cX1_lineTotal 5 = .ok (.getfield 15, 3) := by decide +kernel
theorem dX1_lineTotal_8 : decode cX1_lineTotal 8 = .ok (.iadd, 1) := by decide +kernel
theorem dX1_lineTotal_9 : decode cX1_lineTotal 9 = .ok (.ireturn, 1) := by decide +kernel
theorem dX1_allLines_0 : decode cX1_allLines 0 = .ok (.iconst 1, 1) := by decide +kernel
theorem dX1_allLines_1 : decode cX1_allLines 1 = .ok (.aload_n 0, 1) := by decide +kernel
theorem dX1_allLines_2 : decode cX1_allLines 2 = .ok (.invokevirtual 54, 3) := by decide +kernel
theorem dX1_allLines_5 : decode cX1_allLines 5 = .ok (.ishl, 1) := by decide +kernel
theorem dX1_allLines_6 : decode cX1_allLines 6 = .ok (.iconst 1, 1) := by decide +kernel
theorem dX1_allLines_7 : decode cX1_allLines 7 = .ok (.isub, 1) := by decide +kernel
theorem dX1_allLines_8 : decode cX1_allLines 8 = .ok (.ireturn, 1) := by decide +kernel
theorem dX1_hasCell_0 : decode cX1_hasCell 0 = .ok (.iload_n 1, 1) := by decide +kernel
theorem dX1_hasCell_1 : decode cX1_hasCell 1 = .ok (.iconst 0, 1) := by decide +kernel
theorem dX1_hasCell_2 : decode cX1_hasCell 2 = .ok (.aload_n 0, 1) := by decide +kernel
theorem dX1_hasCell_3 : decode cX1_hasCell 3 = .ok (.getfield 9, 3) := by decide +kernel
theorem dX1_hasCell_6 : decode cX1_hasCell 6 = .ok (.iconst 1, 1) := by decide +kernel
theorem dX1_hasCell_7 : decode cX1_hasCell 7 = .ok (.isub, 1) := by decide +kernel
theorem dX1_hasCell_8 : decode cX1_hasCell 8 = .ok (.invokestatic 58, 3) := by decide +kernel
theorem dX1_hasCell_11 : decode cX1_hasCell 11 = .ok (.ifCond .eq 21, 3) := by decide +kernel
theorem dX1_hasCell_14 : decode cX1_hasCell 14 = .ok (.iload_n 2, 1) := by decide +kernel
theorem dX1_hasCell_15 : decode cX1_hasCell 15 = .ok (.iconst 0, 1) := by decide +kernel
theorem dX1_hasCell_16 : decode cX1_hasCell 16 = .ok (.aload_n 0, 1) := by decide +kernel
theorem dX1_hasCell_17 : decode cX1_hasCell 17 = .ok (.getfield 15, 3) := by decide +kernel
theorem dX1_hasCell_20 : decode cX1_hasCell 20 = .ok (.iconst 1, 1) := by decide +kernel
theorem dX1_hasCell_21 : decode cX1_hasCell 21 = .ok (.isub, 1) := by decide +kernel
theorem dX1_hasCell_22 : decode cX1_hasCell 22 = .ok (.invokestatic 58, 3) := by decide +kernel
theorem dX1_hasCell_25 : decode cX1_hasCell 25 = .ok (.ifCond .eq 7, 3) := by decide +kernel
theorem dX1_hasCell_28 : decode cX1_hasCell 28 = .ok (.iconst 1, 1) := by decide +kernel
theorem dX1_hasCell_29 : decode cX1_hasCell 29 = .ok (.goto 4, 3) := by decide +kernel
theorem dX1_hasCell_32 : decode cX1_hasCell 32 = .ok (.iconst 0, 1) := by decide +kernel
theorem dX1_hasCell_33 : decode cX1_hasCell 33 = .ok (.ireturn, 1) := by decide +kernel
theorem dX1_cellAt_0 : decode cX1_cellAt 0 = .ok (.iload_n 1, 1) := by decide +kernel
theorem dX1_cellAt_1 : decode cX1_cellAt 1 = .ok (.aload_n 0, 1) := by decide +kernel
theorem dX1_cellAt_2 : decode cX1_cellAt 2 = .ok (.getfield 15, 3) := by decide +kernel
theorem dX1_cellAt_5 : decode cX1_cellAt 5 = .ok (.imul, 1) := by decide +kernel
theorem dX1_cellAt_6 : decode cX1_cellAt 6 = .ok (.iload_n 2, 1) := by decide +kernel
theorem dX1_cellAt_7 : decode cX1_cellAt 7 = .ok (.iadd, 1) := by decide +kernel
theorem dX1_cellAt_8 : decode cX1_cellAt 8 = .ok (.ireturn, 1) := by decide +kernel
theorem dX1_lineLength_0 : decode cX1_lineLength 0 = .ok (.iload_n 1, 1) := by decide +kernel
theorem dX1_lineLength_1 : decode cX1_lineLength 1 = .ok (.aload_n 0, 1) := by decide +kernel
theorem dX1_lineLength_2 : decode cX1_lineLength 2 = .ok (.getfield 9, 3) := by decide +kernel
theorem dX1_lineLength_5 : decode cX1_lineLength 5 = .ok (.if_icmp .ge 10, 3) := by decide +kernel
theorem dX1_lineLength_8 : decode cX1_lineLength 8 = .ok (.aload_n 0, 1) := by decide +kernel
theorem dX1_lineLength_9 : decode cX1_lineLength 9 = .ok (.getfield 15, 3) := by decide +kernel
theorem dX1_lineLength_12 : decode cX1_lineLength 12 = .ok (.goto 7, 3) := by decide +kernel
theorem dX1_lineLength_15 : decode cX1_lineLength 15 = .ok (.aload_n 0, 1) := by decide +kernel
theorem dX1_lineLength_16 : decode cX1_lineLength 16 = .ok (.getfield 9, 3) := by decide +kernel
theorem dX1_lineLength_19 : decode cX1_lineLength 19 = .ok (.ireturn, 1) := by decide +kernel
theorem dX1_lineCell_0 : decode cX1_lineCell 0 = .ok (.iload_n 1, 1) := by decide +kernel
theorem dX1_lineCell_1 : decode cX1_lineCell 1 = .ok (.aload_n 0, 1) := by decide +kernel
theorem dX1_lineCell_2 : decode cX1_lineCell 2 = .ok (.getfield 9, 3) := by decide +kernel
theorem dX1_lineCell_5 : decode cX1_lineCell 5 = .ok (.if_icmp .ge 14, 3) := by decide +kernel
theorem dX1_lineCell_8 : decode cX1_lineCell 8 = .ok (.iload_n 1, 1) := by decide +kernel
theorem dX1_lineCell_9 : decode cX1_lineCell 9 = .ok (.aload_n 0, 1) := by decide +kernel
theorem dX1_lineCell_10 : decode cX1_lineCell 10 = .ok (.getfield 15, 3) := by decide +kernel
theorem dX1_lineCell_13 : decode cX1_lineCell 13 = .ok (.imul, 1) := by decide +kernel
theorem dX1_lineCell_14 : decode cX1_lineCell 14 = .ok (.iload_n 2, 1) := by decide +kernel
theorem dX1_lineCell_15 : decode cX1_lineCell 15 = .ok (.iadd, 1) := by decide +kernel
theorem dX1_lineCell_16 : decode cX1_lineCell 16 = .ok (.goto 16, 3) := by decide +kernel
theorem dX1_lineCell_19 : decode cX1_lineCell 19 = .ok (.iload_n 2, 1) := by decide +kernel
theorem dX1_lineCell_20 : decode cX1_lineCell 20 = .ok (.aload_n 0, 1) := by decide +kernel
theorem dX1_lineCell_21 : decode cX1_lineCell 21 = .ok (.getfield 15, 3) := by decide +kernel
theorem dX1_lineCell_24 : decode cX1_lineCell 24 = .ok (.imul, 1) := by decide +kernel
theorem dX1_lineCell_25 : decode cX1_lineCell 25 = .ok (.iload_n 1, 1) := by decide +kernel
theorem dX1_lineCell_26 : decode cX1_lineCell 26 = .ok (.iadd, 1) := by decide +kernel
theorem dX1_lineCell_27 : decode cX1_lineCell 27 = .ok (.aload_n 0, 1) := by decide +kernel
theorem dX1_lineCell_28 : decode cX1_lineCell 28 = .ok (.getfield 9, 3) := by decide +kernel
theorem dX1_lineCell_31 : decode cX1_lineCell 31 = .ok (.isub, 1) := by decide +kernel
theorem dX1_lineCell_32 : decode cX1_lineCell 32 = .ok (.ireturn, 1) := by decide +kernel
theorem dX1_rowLine_0 : decode cX1_rowLine 0 = .ok (.aload_n 0, 1) := by decide +kernel
theorem dX1_rowLine_1 : decode cX1_rowLine 1 = .ok (.getfield 15, 3) := by decide +kernel
theorem dX1_rowLine_4 : decode cX1_rowLine 4 = .ok (.ifCond .le 12, 3) := by decide +kernel
theorem dX1_rowLine_7 : decode cX1_rowLine 7 = .ok (.iload_n 1, 1) := by decide +kernel
theorem dX1_rowLine_8 : decode cX1_rowLine 8 = .ok (.aload_n 0, 1) := by decide +kernel
theorem dX1_rowLine_9 : decode cX1_rowLine 9 = .ok (.getfield 15, 3) := by decide +kernel
theorem dX1_rowLine_12 : decode cX1_rowLine 12 = .ok (.idiv, 1) := by decide +kernel
theorem dX1_rowLine_13 : decode cX1_rowLine 13 = .ok (.goto 4, 3) := by decide +kernel
theorem dX1_rowLine_16 : decode cX1_rowLine 16 = .ok (.iconst 0, 1) := by decide +kernel
theorem dX1_rowLine_17 : decode cX1_rowLine 17 = .ok (.ireturn, 1) := by decide +kernel
theorem dX1_columnLine_0 : decode cX1_columnLine 0 = .ok (.aload_n 0, 1) := by decide +kernel
theorem dX1_columnLine_1 : decode cX1_columnLine 1 = .ok (.getfield 15, 3) := by decide +kernel
theorem dX1_columnLine_4 : decode cX1_columnLine 4 = .ok (.ifCond .le 17, 3) := by decide +kernel
theorem dX1_columnLine_7 : decode cX1_columnLine 7 = .ok (.aload_n 0, 1) := by decide +kernel
theorem dX1_columnLine_8 : decode cX1_columnLine 8 = .ok (.getfield 9, 3) := by decide +kernel
theorem dX1_columnLine_11 : decode cX1_columnLine 11 = .ok (.iload_n 1, 1) := by decide +kernel
theorem dX1_columnLine_12 : decode cX1_columnLine 12 = .ok (.aload_n 0, 1) := by decide +kernel
theorem dX1_columnLine_13 : decode cX1_columnLine 13 = .ok (.getfield 15, 3) := by decide +kernel
theorem dX1_columnLine_16 : decode cX1_columnLine 16 = .ok (.irem, 1) := by decide +kernel
theorem dX1_columnLine_17 : decode cX1_columnLine 17 = .ok (.iadd, 1) := by decide +kernel
theorem dX1_columnLine_18 : decode cX1_columnLine 18 = .ok (.goto 7, 3) := by decide +kernel
theorem dX1_columnLine_21 : decode cX1_columnLine 21 = .ok (.aload_n 0, 1) := by decide +kernel
theorem dX1_columnLine_22 : decode cX1_columnLine 22 = .ok (.getfield 9, 3) := by decide +kernel
theorem dX1_columnLine_25 : decode cX1_columnLine 25 = .ok (.ireturn, 1) := by decide +kernel
theorem dX1_linesThrough_0 : decode cX1_linesThrough 0 = .ok (.iconst 1, 1) := by decide +kernel
theorem dX1_linesThrough_1 : decode cX1_linesThrough 1 = .ok (.aload_n 0, 1) := by decide +kernel
theorem dX1_linesThrough_2 : decode cX1_linesThrough 2 = .ok (.iload_n 1, 1) := by decide +kernel
theorem dX1_linesThrough_3 : decode cX1_linesThrough 3 = .ok (.invokevirtual 62, 3) := by decide +kernel
theorem dX1_linesThrough_6 : decode cX1_linesThrough 6 = .ok (.ishl, 1) := by decide +kernel
theorem dX1_linesThrough_7 : decode cX1_linesThrough 7 = .ok (.iconst 1, 1) := by decide +kernel
theorem dX1_linesThrough_8 : decode cX1_linesThrough 8 = .ok (.aload_n 0, 1) := by decide +kernel
theorem dX1_linesThrough_9 : decode cX1_linesThrough 9 = .ok (.iload_n 1, 1) := by decide +kernel
theorem dX1_linesThrough_10 : decode cX1_linesThrough 10 = .ok (.invokevirtual 66, 3) := by decide +kernel
theorem dX1_linesThrough_13 : decode cX1_linesThrough 13 = .ok (.ishl, 1) := by decide +kernel
theorem dX1_linesThrough_14 : decode cX1_linesThrough 14 = .ok (.ior, 1) := by decide +kernel
theorem dX1_linesThrough_15 : decode cX1_linesThrough 15 = .ok (.ireturn, 1) := by decide +kernel
theorem dX1_hasCandidate_0 : decode cX1_hasCandidate 0 = .ok (.aload_n 0, 1) := by decide +kernel
theorem dX1_hasCandidate_1 : decode cX1_hasCandidate 1 = .ok (.getfield 28, 3) := by decide +kernel
theorem dX1_hasCandidate_4 : decode cX1_hasCandidate 4 = .ok (.iload_n 1, 1) := by decide +kernel
theorem dX1_hasCandidate_5 : decode cX1_hasCandidate 5 = .ok (.iaload, 1) := by decide +kernel
theorem dX1_hasCandidate_6 : decode cX1_hasCandidate 6 = .ok (.iload_n 2, 1) := by decide +kernel
theorem dX1_hasCandidate_7 : decode cX1_hasCandidate 7 = .ok (.ishr, 1) := by decide +kernel
theorem dX1_hasCandidate_8 : decode cX1_hasCandidate 8 = .ok (.iconst 1, 1) := by decide +kernel
theorem dX1_hasCandidate_9 : decode cX1_hasCandidate 9 = .ok (.iand, 1) := by decide +kernel
theorem dX1_hasCandidate_10 : decode cX1_hasCandidate 10 = .ok (.ifCond .eq 7, 3) := by decide +kernel
theorem dX1_hasCandidate_13 : decode cX1_hasCandidate 13 = .ok (.iconst 1, 1) := by decide +kernel
theorem dX1_hasCandidate_14 : decode cX1_hasCandidate 14 = .ok (.goto 4, 3) := by decide +kernel
theorem dX1_hasCandidate_17 : decode cX1_hasCandidate 17 = .ok (.iconst 0, 1) := by decide +kernel
theorem dX1_hasCandidate_18 : decode cX1_hasCandidate 18 = .ok (.ireturn, 1) := by decide +kernel
theorem dX1_isDecided_0 : decode cX1_isDecided 0 = .ok (.aload_n 0, 1) := by decide +kernel
theorem dX1_isDecided_1 : decode cX1_isDecided 1 = .ok (.getfield 28, 3) := by decide +kernel
theorem dX1_isDecided_4 : decode cX1_isDecided 4 = .ok (.iload_n 1, 1) := by decide +kernel
theorem dX1_isDecided_5 : decode cX1_isDecided 5 = .ok (.iaload, 1) := by decide +kernel
theorem dX1_isDecided_6 : decode cX1_isDecided 6 = .ok (.invokestatic 69, 3) := by decide +kernel
theorem dX1_isDecided_9 : decode cX1_isDecided 9 = .ok (.iconst 1, 1) := by decide +kernel
theorem dX1_isDecided_10 : decode cX1_isDecided 10 = .ok (.if_icmp .ne 7, 3) := by decide +kernel
theorem dX1_isDecided_13 : decode cX1_isDecided 13 = .ok (.iconst 1, 1) := by decide +kernel
theorem dX1_isDecided_14 : decode cX1_isDecided 14 = .ok (.goto 4, 3) := by decide +kernel
theorem dX1_isDecided_17 : decode cX1_isDecided 17 = .ok (.iconst 0, 1) := by decide +kernel
theorem dX1_isDecided_18 : decode cX1_isDecided 18 = .ok (.ireturn, 1) := by decide +kernel
theorem dX1_decidedColor_0 : decode cX1_decidedColor 0 = .ok (.aload_n 0, 1) := by decide +kernel
theorem dX1_decidedColor_1 : decode cX1_decidedColor 1 = .ok (.getfield 28, 3) := by decide +kernel
theorem dX1_decidedColor_4 : decode cX1_decidedColor 4 = .ok (.iload_n 1, 1) := by decide +kernel
theorem dX1_decidedColor_5 : decode cX1_decidedColor 5 = .ok (.iaload, 1) := by decide +kernel
theorem dX1_decidedColor_6 : decode cX1_decidedColor 6 = .ok (.iconst 1, 1) := by decide +kernel
theorem dX1_decidedColor_7 : decode cX1_decidedColor 7 = .ok (.isub, 1) := by decide +kernel
theorem dX1_decidedColor_8 : decode cX1_decidedColor 8 = .ok (.invokestatic 69, 3) := by decide +kernel
theorem dX1_decidedColor_11 : decode cX1_decidedColor 11 = .ok (.ireturn, 1) := by decide +kernel
theorem dX1_decidedTotal_0 : decode cX1_decidedTotal 0 = .ok (.iconst 0, 1) := by decide +kernel
theorem dX1_decidedTotal_1 : decode cX1_decidedTotal 1 = .ok (.istore_n 1, 1) := by decide +kernel
theorem dX1_decidedTotal_2 : decode cX1_decidedTotal 2 = .ok (.iconst 0, 1) := by decide +kernel
theorem dX1_decidedTotal_3 : decode cX1_decidedTotal 3 = .ok (.istore_n 2, 1) := by decide +kernel
theorem dX1_decidedTotal_4 : decode cX1_decidedTotal 4 = .ok (.iload_n 2, 1) := by decide +kernel
theorem dX1_decidedTotal_5 : decode cX1_decidedTotal 5 = .ok (.aload_n 0, 1) := by decide +kernel
theorem dX1_decidedTotal_6 : decode cX1_decidedTotal 6 = .ok (.invokevirtual 74, 3) := by decide +kernel
theorem dX1_decidedTotal_9 : decode cX1_decidedTotal 9 = .ok (.if_icmp .ge 20, 3) := by decide +kernel
theorem dX1_decidedTotal_12 : decode cX1_decidedTotal 12 = .ok (.aload_n 0, 1) := by decide +kernel
theorem dX1_decidedTotal_13 : decode cX1_decidedTotal 13 = .ok (.iload_n 2, 1) := by decide +kernel
theorem dX1_decidedTotal_14 : decode cX1_decidedTotal 14 = .ok (.invokevirtual 77, 3) := by decide +kernel
theorem dX1_decidedTotal_17 : decode cX1_decidedTotal 17 = .ok (.ifCond .eq 6, 3) := by decide +kernel
theorem dX1_decidedTotal_20 : decode cX1_decidedTotal 20 = .ok (.iinc 1 1, 3) := by decide +kernel
theorem dX1_decidedTotal_23 : decode cX1_decidedTotal 23 = .ok (.iinc 2 1, 3) := by decide +kernel
theorem dX1_decidedTotal_26 : decode cX1_decidedTotal 26 = .ok (.goto (-22), 3) := by decide +kernel
theorem dX1_decidedTotal_29 : decode cX1_decidedTotal 29 = .ok (.iload_n 1, 1) := by decide +kernel
theorem dX1_decidedTotal_30 : decode cX1_decidedTotal 30 = .ok (.ireturn, 1) := by decide +kernel
theorem dX1_isAllDecided_0 : decode cX1_isAllDecided 0 = .ok (.aload_n 0, 1) := by decide +kernel
theorem dX1_isAllDecided_1 : decode cX1_isAllDecided 1 = .ok (.invokevirtual 81, 3) := by decide +kernel
theorem dX1_isAllDecided_4 : decode cX1_isAllDecided 4 = .ok (.aload_n 0, 1) := by decide +kernel
theorem dX1_isAllDecided_5 : decode cX1_isAllDecided 5 = .ok (.invokevirtual 74, 3) := by decide +kernel
theorem dX1_isAllDecided_8 : decode cX1_isAllDecided 8 = .ok (.if_icmp .ne 7, 3) := by decide +kernel
theorem dX1_isAllDecided_11 : decode cX1_isAllDecided 11 = .ok (.iconst 1, 1) := by decide +kernel
theorem dX1_isAllDecided_12 : decode cX1_isAllDecided 12 = .ok (.goto 4, 3) := by decide +kernel
theorem dX1_isAllDecided_15 : decode cX1_isAllDecided 15 = .ok (.iconst 0, 1) := by decide +kernel
theorem dX1_isAllDecided_16 : decode cX1_isAllDecided 16 = .ok (.ireturn, 1) := by decide +kernel
theorem dX1_decidedInLine_0 : decode cX1_decidedInLine 0 = .ok (.iconst 0, 1) := by decide +kernel
theorem dX1_decidedInLine_1 : decode cX1_decidedInLine 1 = .ok (.istore_n 2, 1) := by decide +kernel
theorem dX1_decidedInLine_2 : decode cX1_decidedInLine 2 = .ok (.iconst 0, 1) := by decide +kernel
theorem dX1_decidedInLine_3 : decode cX1_decidedInLine 3 = .ok (.istore_n 3, 1) := by decide +kernel
theorem dX1_decidedInLine_4 : decode cX1_decidedInLine 4 = .ok (.iload_n 3, 1) := by decide +kernel
theorem dX1_decidedInLine_5 : decode cX1_decidedInLine 5 = .ok (.aload_n 0, 1) := by decide +kernel
theorem dX1_decidedInLine_6 : decode cX1_decidedInLine 6 = .ok (.iload_n 1, 1) := by decide +kernel
theorem dX1_decidedInLine_7 : decode cX1_decidedInLine 7 = .ok (.invokevirtual 84, 3) := by decide +kernel
theorem dX1_decidedInLine_10 : decode cX1_decidedInLine 10 = .ok (.if_icmp .ge 25, 3) := by decide +kernel
theorem dX1_decidedInLine_13 : decode cX1_decidedInLine 13 = .ok (.aload_n 0, 1) := by decide +kernel
theorem dX1_decidedInLine_14 : decode cX1_decidedInLine 14 = .ok (.aload_n 0, 1) := by decide +kernel
theorem dX1_decidedInLine_15 : decode cX1_decidedInLine 15 = .ok (.iload_n 1, 1) := by decide +kernel
theorem dX1_decidedInLine_16 : decode cX1_decidedInLine 16 = .ok (.iload_n 3, 1) := by decide +kernel
theorem dX1_decidedInLine_17 : decode cX1_decidedInLine 17 = .ok (.invokevirtual 87, 3) := by decide +kernel
theorem dX1_decidedInLine_20 : decode cX1_decidedInLine 20 = .ok (.invokevirtual 77, 3) := by decide +kernel
theorem dX1_decidedInLine_23 : decode cX1_decidedInLine 23 = .ok (.ifCond .eq 6, 3) := by decide +kernel
theorem dX1_decidedInLine_26 : decode cX1_decidedInLine 26 = .ok (.iinc 2 1, 3) := by decide +kernel
theorem dX1_decidedInLine_29 : decode cX1_decidedInLine 29 = .ok (.iinc 3 1, 3) := by decide +kernel
theorem dX1_decidedInLine_32 : decode cX1_decidedInLine 32 = .ok (.goto (-28), 3) := by decide +kernel
theorem dX1_decidedInLine_35 : decode cX1_decidedInLine 35 = .ok (.iload_n 2, 1) := by decide +kernel
theorem dX1_decidedInLine_36 : decode cX1_decidedInLine 36 = .ok (.ireturn, 1) := by decide +kernel
theorem dX1_describePicture_0 : decode cX1_describePicture 0 = .ok (.aload_n 0, 1) := by decide +kernel
theorem dX1_describePicture_1 : decode cX1_describePicture 1 = .ok (.getfield 24, 3) := by decide +kernel
theorem dX1_describePicture_4 : decode cX1_describePicture 4 = .ok (.invokevirtual 32, 3) := by decide +kernel
theorem dX1_describePicture_7 : decode cX1_describePicture 7 = .ok (.iconst 0, 1) := by decide +kernel
theorem dX1_describePicture_8 : decode cX1_describePicture 8 = .ok (.istore_n 1, 1) := by decide +kernel
theorem dX1_describePicture_9 : decode cX1_describePicture 9 = .ok (.iload_n 1, 1) := by decide +kernel
theorem dX1_describePicture_10 : decode cX1_describePicture 10 = .ok (.aload_n 0, 1) := by decide +kernel
theorem dX1_describePicture_11 : decode cX1_describePicture 11 = .ok (.invokevirtual 54, 3) := by decide +kernel
theorem dX1_describePicture_14 : decode cX1_describePicture 14 = .ok (.if_icmp .ge 14, 3) := by decide +kernel
theorem dX1_describePicture_17 : decode cX1_describePicture 17 = .ok (.aload_n 0, 1) := by decide +kernel
theorem dX1_describePicture_18 : decode cX1_describePicture 18 = .ok (.iload_n 1, 1) := by decide +kernel
theorem dX1_describePicture_19 : decode cX1_describePicture 19 = .ok (.invokevirtual 91, 3) := by decide +kernel
theorem dX1_describePicture_22 : decode cX1_describePicture 22 = .ok (.iinc 1 1, 3) := by decide +kernel
theorem dX1_describePicture_25 : decode cX1_describePicture 25 = .ok (.goto (-16), 3) := by decide +kernel
theorem dX1_describePicture_28 : decode cX1_describePicture 28 = .ok (.return_, 1) := by decide +kernel
theorem dX1_describeLine_0 : decode cX1_describeLine 0 = .ok (.iconst 0, 1) := by decide +kernel
theorem dX1_describeLine_1 : decode cX1_describeLine 1 = .ok (.istore_n 2, 1) := by decide +kernel
theorem dX1_describeLine_2 : decode cX1_describeLine 2 = .ok (.iconst 0, 1) := by decide +kernel
theorem dX1_describeLine_3 : decode cX1_describeLine 3 = .ok (.istore_n 3, 1) := by decide +kernel
theorem dX1_describeLine_4 : decode cX1_describeLine 4 = .ok (.iload_n 3, 1) := by decide +kernel
theorem dX1_describeLine_5 : decode cX1_describeLine 5 = .ok (.aload_n 0, 1) := by decide +kernel
theorem dX1_describeLine_6 : decode cX1_describeLine 6 = .ok (.iload_n 1, 1) := by decide +kernel
theorem dX1_describeLine_7 : decode cX1_describeLine 7 = .ok (.invokevirtual 84, 3) := by decide +kernel
theorem dX1_describeLine_10 : decode cX1_describeLine 10 = .ok (.if_icmp .ge 62, 3) := by decide +kernel
theorem dX1_describeLine_13 : decode cX1_describeLine 13 = .ok (.aload_n 0, 1) := by decide +kernel
theorem dX1_describeLine_14 : decode cX1_describeLine 14 = .ok (.aload_n 0, 1) := by decide +kernel
theorem dX1_describeLine_15 : decode cX1_describeLine 15 = .ok (.iload_n 1, 1) := by decide +kernel
theorem dX1_describeLine_16 : decode cX1_describeLine 16 = .ok (.iload_n 3, 1) := by decide +kernel
theorem dX1_describeLine_17 : decode cX1_describeLine 17 = .ok (.invokevirtual 87, 3) := by decide +kernel
theorem dX1_describeLine_20 : decode cX1_describeLine 20 = .ok (.invokevirtual 95, 3) := by decide +kernel
theorem dX1_describeLine_23 : decode cX1_describeLine 23 = .ok (.istore 4, 2) := by decide +kernel
theorem dX1_describeLine_25 : decode cX1_describeLine 25 = .ok (.iload 4, 2) := by decide +kernel
theorem dX1_describeLine_27 : decode cX1_describeLine 27 = .ok (.ifCond .eq 20, 3) := by decide +kernel
theorem dX1_describeLine_30 : decode cX1_describeLine 30 = .ok (.iload 4, 2) := by decide +kernel
theorem dX1_describeLine_32 : decode cX1_describeLine 32 = .ok (.iload_n 2, 1) := by decide +kernel
theorem dX1_describeLine_33 : decode cX1_describeLine 33 = .ok (.if_icmp .ne 14, 3) := by decide +kernel
theorem dX1_describeLine_36 : decode cX1_describeLine 36 = .ok (.aload_n 0, 1) := by decide +kernel
theorem dX1_describeLine_37 : decode cX1_describeLine 37 = .ok (.getfield 24, 3) := by decide +kernel
theorem dX1_describeLine_40 : decode cX1_describeLine 40 = .ok (.iload_n 1, 1) := by decide +kernel
theorem dX1_describeLine_41 : decode cX1_describeLine 41 = .ok (.invokevirtual 98, 3) := by decide +kernel
theorem dX1_describeLine_44 : decode cX1_describeLine 44 = .ok (.goto 19, 3) := by decide +kernel
theorem dX1_describeLine_47 : decode cX1_describeLine 47 = .ok (.iload 4, 2) := by decide +kernel
theorem dX1_describeLine_49 : decode cX1_describeLine 49 = .ok (.ifCond .eq 14, 3) := by decide +kernel
theorem dX1_describeLine_52 : decode cX1_describeLine 52 = .ok (.aload_n 0, 1) := by decide +kernel
theorem dX1_describeLine_53 : decode cX1_describeLine 53 = .ok (.getfield 24, 3) := by decide +kernel
theorem dX1_describeLine_56 : decode cX1_describeLine 56 = .ok (.iload_n 1, 1) := by decide +kernel
theorem dX1_describeLine_57 : decode cX1_describeLine 57 = .ok (.iconst 1, 1) := by decide +kernel
theorem dX1_describeLine_58 : decode cX1_describeLine 58 = .ok (.iload 4, 2) := by decide +kernel
theorem dX1_describeLine_60 : decode cX1_describeLine 60 = .ok (.invokevirtual 101, 3) := by decide +kernel
theorem dX1_describeLine_63 : decode cX1_describeLine 63 = .ok (.iload 4, 2) := by decide +kernel
theorem dX1_describeLine_65 : decode cX1_describeLine 65 = .ok (.istore_n 2, 1) := by decide +kernel
theorem dX1_describeLine_66 : decode cX1_describeLine 66 = .ok (.iinc 3 1, 3) := by decide +kernel
theorem dX1_describeLine_69 : decode cX1_describeLine 69 = .ok (.goto (-65), 3) := by decide +kernel
theorem dX1_describeLine_72 : decode cX1_describeLine 72 = .ok (.return_, 1) := by decide +kernel
theorem dX2_init_0 : decode cX2_init 0 = .ok (.aload_n 0, 1) := by decide +kernel
theorem dX2_init_1 : decode cX2_init 1 = .ok (.invokespecial 3, 3) := by decide +kernel
theorem dX2_init_4 : decode cX2_init 4 = .ok (.aload_n 0, 1) := by decide +kernel
theorem dX2_init_5 : decode cX2_init 5 = .ok (.bipush 8, 2) := by decide +kernel
theorem dX2_init_7 : decode cX2_init 7 = .ok (.anewarray 9, 3) := by decide +kernel
theorem dX2_init_10 : decode cX2_init 10 = .ok (.putfield 11, 3) := by decide +kernel
theorem dX2_init_13 : decode cX2_init 13 = .ok (.aload_n 0, 1) := by decide +kernel
theorem dX2_init_14 : decode cX2_init 14 = .ok (.iconst 0, 1) := by decide +kernel
theorem dX2_init_15 : decode cX2_init 15 = .ok (.putfield 17, 3) := by decide +kernel
theorem dX2_init_18 : decode cX2_init 18 = .ok (.aload_n 0, 1) := by decide +kernel
theorem dX2_init_19 : decode cX2_init 19 = .ok (.iconst 0, 1) := by decide +kernel
theorem dX2_init_20 : decode cX2_init 20 = .ok (.putfield 21, 3) := by decide +kernel
theorem dX2_init_23 : decode cX2_init 23 = .ok (.iconst 0, 1) := by decide +kernel
theorem dX2_init_24 : decode cX2_init 24 = .ok (.istore_n 1, 1) := by decide +kernel
theorem dX2_init_25 : decode cX2_init 25 = .ok (.iload_n 1, 1) := by decide +kernel
theorem dX2_init_26 : decode cX2_init 26 = .ok (.bipush 8, 2) := by decide +kernel
theorem dX2_init_28 : decode cX2_init 28 = .ok (.if_icmp .ge 22, 3) := by decide +kernel
theorem dX2_init_31 : decode cX2_init 31 = .ok (.aload_n 0, 1) := by decide +kernel
theorem dX2_init_32 : decode cX2_init 32 = .ok (.getfield 11, 3) := by decide +kernel
theorem dX2_init_35 : decode cX2_init 35 = .ok (.iload_n 1, 1) := by decide +kernel
theorem dX2_init_36 : decode cX2_init 36 = .ok (.new 9, 3) := by decide +kernel
theorem dX2_init_39 : decode cX2_init 39 = .ok (.dup, 1) := by decide +kernel
theorem dX2_init_40 : decode cX2_init 40 = .ok (.invokespecial 24, 3) := by decide +kernel
theorem dX2_init_43 : decode cX2_init 43 = .ok (.aastore, 1) := by decide +kernel
theorem dX2_init_44 : decode cX2_init 44 = .ok (.iinc 1 1, 3) := by decide +kernel
theorem dX2_init_47 : decode cX2_init 47 = .ok (.goto (-22), 3) := by decide +kernel
theorem dX2_init_50 : decode cX2_init 50 = .ok (.return_, 1) := by decide +kernel
theorem dX2_forget_0 : decode cX2_forget 0 = .ok (.aload_n 0, 1) := by decide +kernel
theorem dX2_forget_1 : decode cX2_forget 1 = .ok (.iconst 0, 1) := by decide +kernel
theorem dX2_forget_2 : decode cX2_forget 2 = .ok (.putfield 21, 3) := by decide +kernel
theorem dX2_forget_5 : decode cX2_forget 5 = .ok (.return_, 1) := by decide +kernel
theorem dX2_push_0 : decode cX2_push 0 = .ok (.aload_n 0, 1) := by decide +kernel
theorem dX2_push_1 : decode cX2_push 1 = .ok (.getfield 11, 3) := by decide +kernel
theorem dX2_push_4 : decode cX2_push 4 = .ok (.aload_n 0, 1) := by decide +kernel
theorem dX2_push_5 : decode cX2_push 5 = .ok (.getfield 17, 3) := by decide +kernel
theorem dX2_push_8 : decode cX2_push 8 = .ok (.aaload, 1) := by decide +kernel
theorem dX2_push_9 : decode cX2_push 9 = .ok (.aload_n 1, 1) := by decide +kernel
theorem dX2_push_10 : decode cX2_push 10 = .ok (.invokevirtual 25, 3) := by decide +kernel
theorem dX2_push_13 : decode cX2_push 13 = .ok (.aload_n 0, 1) := by decide +kernel
theorem dX2_push_14 : decode cX2_push 14 = .ok (.aload_n 0, 1) := by decide +kernel
theorem dX2_push_15 : decode cX2_push 15 = .ok (.getfield 17, 3) := by decide +kernel
theorem dX2_push_18 : decode cX2_push 18 = .ok (.iconst 1, 1) := by decide +kernel
theorem dX2_push_19 : decode cX2_push 19 = .ok (.iadd, 1) := by decide +kernel
theorem dX2_push_20 : decode cX2_push 20 = .ok (.bipush 8, 2) := by decide +kernel
theorem dX2_push_22 : decode cX2_push 22 = .ok (.irem, 1) := by decide +kernel
theorem dX2_push_23 : decode cX2_push 23 = .ok (.putfield 17, 3) := by decide +kernel
theorem dX2_push_26 : decode cX2_push 26 = .ok (.aload_n 0, 1) := by decide +kernel
theorem dX2_push_27 : decode cX2_push 27 = .ok (.aload_n 0, 1) := by decide +kernel
theorem dX2_push_28 : decode cX2_push 28 = .ok (.getfield 21, 3) := by decide +kernel
theorem dX2_push_31 : decode cX2_push 31 = .ok (.iconst 1, 1) := by decide +kernel
theorem dX2_push_32 : decode cX2_push 32 = .ok (.iadd, 1) := by decide +kernel
theorem dX2_push_33 : decode cX2_push 33 = .ok (.bipush 8, 2) := by decide +kernel
theorem dX2_push_35 : decode cX2_push 35 = .ok (.invokestatic 29, 3) := by decide +kernel
theorem dX2_push_38 : decode cX2_push 38 = .ok (.putfield 21, 3) := by decide +kernel
theorem dX2_push_41 : decode cX2_push 41 = .ok (.return_, 1) := by decide +kernel
theorem dX3_init_0 : decode cX3_init 0 = .ok (.aload_n 0, 1) := by decide +kernel
theorem dX3_init_1 : decode cX3_init 1 = .ok (.invokespecial 3, 3) := by decide +kernel
theorem dX3_init_4 : decode cX3_init 4 = .ok (.aload_n 0, 1) := by decide +kernel
theorem dX3_init_5 : decode cX3_init 5 = .ok (.iconst 0, 1) := by decide +kernel
theorem dX3_init_6 : decode cX3_init 6 = .ok (.putfield 9, 3) := by decide +kernel
theorem dX3_init_9 : decode cX3_init 9 = .ok (.aload_n 0, 1) := by decide +kernel
theorem dX3_init_10 : decode cX3_init 10 = .ok (.iconst 0, 1) := by decide +kernel
theorem dX3_init_11 : decode cX3_init 11 = .ok (.putfield 15, 3) := by decide +kernel
theorem dX3_init_14 : decode cX3_init 14 = .ok (.aload_n 0, 1) := by decide +kernel
theorem dX3_init_15 : decode cX3_init 15 = .ok (.bipush 8, 2) := by decide +kernel
theorem dX3_init_17 : decode cX3_init 17 = .ok (.newarray .int, 2) := by decide +kernel
theorem dX3_init_19 : decode cX3_init 19 = .ok (.putfield 18, 3) := by decide +kernel
theorem dX3_init_22 : decode cX3_init 22 = .ok (.aload_n 0, 1) := by decide +kernel
theorem dX3_init_23 : decode cX3_init 23 = .ok (.bipush 8, 2) := by decide +kernel
theorem dX3_init_25 : decode cX3_init 25 = .ok (.newarray .int, 2) := by decide +kernel
theorem dX3_init_27 : decode cX3_init 27 = .ok (.putfield 22, 3) := by decide +kernel
theorem dX3_init_30 : decode cX3_init 30 = .ok (.aload_n 0, 1) := by decide +kernel
theorem dX3_init_31 : decode cX3_init 31 = .ok (.bipush 8, 2) := by decide +kernel
theorem dX3_init_33 : decode cX3_init 33 = .ok (.newarray .int, 2) := by decide +kernel
theorem dX3_init_35 : decode cX3_init 35 = .ok (.putfield 25, 3) := by decide +kernel
theorem dX3_init_38 : decode cX3_init 38 = .ok (.aload_n 0, 1) := by decide +kernel
theorem dX3_init_39 : decode cX3_init 39 = .ok (.bipush 8, 2) := by decide +kernel
theorem dX3_init_41 : decode cX3_init 41 = .ok (.newarray .int, 2) := by decide +kernel
theorem dX3_init_43 : decode cX3_init 43 = .ok (.putfield 28, 3) := by decide +kernel
theorem dX3_init_46 : decode cX3_init 46 = .ok (.aload_n 0, 1) := by decide +kernel
theorem dX3_init_47 : decode cX3_init 47 = .ok (.iconst 4, 1) := by decide +kernel
theorem dX3_init_48 : decode cX3_init 48 = .ok (.newarray .int, 2) := by decide +kernel
theorem dX3_init_50 : decode cX3_init 50 = .ok (.putfield 31, 3) := by decide +kernel
theorem dX3_init_53 : decode cX3_init 53 = .ok (.aload_n 0, 1) := by decide +kernel
theorem dX3_init_54 : decode cX3_init 54 = .ok (.iconst 4, 1) := by decide +kernel
theorem dX3_init_55 : decode cX3_init 55 = .ok (.newarray .int, 2) := by decide +kernel
theorem dX3_init_57 : decode cX3_init 57 = .ok (.putfield 34, 3) := by decide +kernel
theorem dX3_init_60 : decode cX3_init 60 = .ok (.aload_n 0, 1) := by decide +kernel
theorem dX3_init_61 : decode cX3_init 61 = .ok (.bipush 9, 2) := by decide +kernel
theorem dX3_init_63 : decode cX3_init 63 = .ok (.newarray .int, 2) := by decide +kernel
theorem dX3_init_65 : decode cX3_init 65 = .ok (.putfield 37, 3) := by decide +kernel
theorem dX3_init_68 : decode cX3_init 68 = .ok (.aload_n 0, 1) := by decide +kernel
theorem dX3_init_69 : decode cX3_init 69 = .ok (.bipush 81, 2) := by decide +kernel
theorem dX3_init_71 : decode cX3_init 71 = .ok (.newarray .int, 2) := by decide +kernel
theorem dX3_init_73 : decode cX3_init 73 = .ok (.putfield 40, 3) := by decide +kernel
theorem dX3_init_76 : decode cX3_init 76 = .ok (.aload_n 0, 1) := by decide +kernel
theorem dX3_init_77 : decode cX3_init 77 = .ok (.iconst 0, 1) := by decide +kernel
theorem dX3_init_78 : decode cX3_init 78 = .ok (.putfield 43, 3) := by decide +kernel
theorem dX3_init_81 : decode cX3_init 81 = .ok (.aload_n 0, 1) := by decide +kernel
theorem dX3_init_82 : decode cX3_init 82 = .ok (.iconst 0, 1) := by decide +kernel
theorem dX3_init_83 : decode cX3_init 83 = .ok (.putfield 46, 3) := by decide +kernel
theorem dX3_init_86 : decode cX3_init 86 = .ok (.return_, 1) := by decide +kernel
theorem dX3_load_0 : decode cX3_load 0 = .ok (.aload_n 0, 1) := by decide +kernel
theorem dX3_load_1 : decode cX3_load 1 = .ok (.aload_n 1, 1) := by decide +kernel
theorem dX3_load_2 : decode cX3_load 2 = .ok (.iload_n 2, 1) := by decide +kernel
theorem dX3_load_3 : decode cX3_load 3 = .ok (.invokevirtual 49, 3) := by decide +kernel
theorem dX3_load_6 : decode cX3_load 6 = .ok (.putfield 9, 3) := by decide +kernel
theorem dX3_load_9 : decode cX3_load 9 = .ok (.aload_n 0, 1) := by decide +kernel
theorem dX3_load_10 : decode cX3_load 10 = .ok (.aload_n 1, 1) := by decide +kernel
theorem dX3_load_11 : decode cX3_load 11 = .ok (.getfield 55, 3) := by decide +kernel
theorem dX3_load_14 : decode cX3_load 14 = .ok (.iload_n 2, 1) := by decide +kernel
theorem dX3_load_15 : decode cX3_load 15 = .ok (.invokevirtual 59, 3) := by decide +kernel
theorem dX3_load_18 : decode cX3_load 18 = .ok (.putfield 15, 3) := by decide +kernel
theorem dX3_load_21 : decode cX3_load 21 = .ok (.aload_n 0, 1) := by decide +kernel
theorem dX3_load_22 : decode cX3_load 22 = .ok (.aload_n 1, 1) := by decide +kernel
theorem dX3_load_23 : decode cX3_load 23 = .ok (.iload_n 2, 1) := by decide +kernel
theorem dX3_load_24 : decode cX3_load 24 = .ok (.invokevirtual 64, 3) := by decide +kernel
theorem dX3_load_27 : decode cX3_load 27 = .ok (.aload_n 0, 1) := by decide +kernel
theorem dX3_load_28 : decode cX3_load 28 = .ok (.aload_n 1, 1) := by decide +kernel
theorem dX3_load_29 : decode cX3_load 29 = .ok (.getfield 55, 3) := by decide +kernel
theorem dX3_load_32 : decode cX3_load 32 = .ok (.iload_n 2, 1) := by decide +kernel
theorem dX3_load_33 : decode cX3_load 33 = .ok (.invokevirtual 68, 3) := by decide +kernel
theorem dX3_load_36 : decode cX3_load 36 = .ok (.aload_n 0, 1) := by decide +kernel
theorem dX3_load_37 : decode cX3_load 37 = .ok (.invokevirtual 72, 3) := by decide +kernel
theorem dX3_load_40 : decode cX3_load 40 = .ok (.return_, 1) := by decide +kernel
theorem dX3_loadCandidates_0 : decode cX3_loadCandidates 0 = .ok (.aload_n 0, 1) := by decide +kernel
theorem dX3_loadCandidates_1 : decode cX3_loadCandidates 1 = .ok (.getfield 31, 3) := by decide +kernel
theorem dX3_loadCandidates_4 : decode cX3_loadCandidates 4 = .ok (.iconst 0, 1) := by decide +kernel
theorem dX3_loadCandidates_5 : decode cX3_loadCandidates 5 = .ok (.invokestatic 75, 3) := by decide +kernel
theorem dX3_loadCandidates_8 : decode cX3_loadCandidates 8 = .ok (.iconst 0, 1) := by decide +kernel
theorem dX3_loadCandidates_9 : decode cX3_loadCandidates 9 = .ok (.istore_n 3, 1) := by decide +kernel
theorem dX3_loadCandidates_10 : decode cX3_loadCandidates 10 = .ok (.iload_n 3, 1) := by decide +kernel
theorem dX3_loadCandidates_11 : decode cX3_loadCandidates 11 = .ok (.aload_n 0, 1) := by decide +kernel
theorem dX3_loadCandidates_12 : decode cX3_loadCandidates 12 = .ok (.getfield 9, 3) := by decide +kernel
theorem dX3_loadCandidates_15 : decode cX3_loadCandidates 15 = .ok (.if_icmp .ge 56, 3) := by decide +kernel
theorem dX3_loadCandidates_18 : decode cX3_loadCandidates 18 = .ok (.aload_n 1, 1) := by decide +kernel
theorem dX3_loadCandidates_19 : decode cX3_loadCandidates 19 = .ok (.getfield 81, 3) := by decide +kernel
theorem dX3_loadCandidates_22 : decode cX3_loadCandidates 22 = .ok (.aload_n 1, 1) := by decide +kernel
theorem dX3_loadCandidates_23 : decode cX3_loadCandidates 23 = .ok (.iload_n 2, 1) := by decide +kernel
theorem dX3_loadCandidates_24 : decode cX3_loadCandidates 24 = .ok (.iload_n 3, 1) := by decide +kernel
theorem dX3_loadCandidates_25 : decode cX3_loadCandidates 25 = .ok (.invokevirtual 84, 3) := by decide +kernel
theorem dX3_loadCandidates_28 : decode cX3_loadCandidates 28 = .ok (.iaload, 1) := by decide +kernel
theorem dX3_loadCandidates_29 : decode cX3_loadCandidates 29 = .ok (.istore 4, 2) := by decide +kernel
theorem dX3_loadCandidates_31 : decode cX3_loadCandidates 31 = .ok (.iconst 0, 1) := by decide +kernel
theorem dX3_loadCandidates_32 : decode cX3_loadCandidates 32 = .ok (.istore 5, 2) := by decide +kernel
theorem dX3_loadCandidates_34 : decode cX3_loadCandidates 34 = .ok (.iload 5, 2) := by decide +kernel
theorem dX3_loadCandidates_36 : decode cX3_loadCandidates 36 = .ok (.iconst 3, 1) := by decide +kernel
theorem dX3_loadCandidates_37 : decode cX3_loadCandidates 37 = .ok (.if_icmp .gt 28, 3) := by decide +kernel
theorem dX3_loadCandidates_40 : decode cX3_loadCandidates 40 = .ok (.aload_n 0, 1) := by decide +kernel
theorem dX3_loadCandidates_41 : decode cX3_loadCandidates 41 = .ok (.getfield 31, 3) := by decide +kernel
theorem dX3_loadCandidates_44 : decode cX3_loadCandidates 44 = .ok (.iload 5, 2) := by decide +kernel
theorem dX3_loadCandidates_46 : decode cX3_loadCandidates 46 = .ok (.dup2, 1) := by decide +kernel
theorem dX3_loadCandidates_47 : decode cX3_loadCandidates 47 = .ok (.iaload, 1) := by decide +kernel
theorem dX3_loadCandidates_48 : decode cX3_loadCandidates 48 = .ok (.iload 4, 2) := by decide +kernel
theorem dX3_loadCandidates_50 : decode cX3_loadCandidates 50 = .ok (.iload 5, 2) := by decide +kernel
theorem dX3_loadCandidates_52 : decode cX3_loadCandidates 52 = .ok (.ishr, 1) := by decide +kernel
theorem dX3_loadCandidates_53 : decode cX3_loadCandidates 53 = .ok (.iconst 1, 1) := by decide +kernel
theorem dX3_loadCandidates_54 : decode cX3_loadCandidates 54 = .ok (.iand, 1) := by decide +kernel
theorem dX3_loadCandidates_55 : decode cX3_loadCandidates 55 = .ok (.iload_n 3, 1) := by decide +kernel
theorem dX3_loadCandidates_56 : decode cX3_loadCandidates 56 = .ok (.ishl, 1) := by decide +kernel
theorem dX3_loadCandidates_57 : decode cX3_loadCandidates 57 = .ok (.ior, 1) := by decide +kernel
theorem dX3_loadCandidates_58 : decode cX3_loadCandidates 58 = .ok (.iastore, 1) := by decide +kernel
theorem dX3_loadCandidates_59 : decode cX3_loadCandidates 59 = .ok (.iinc 5 1, 3) := by decide +kernel
theorem dX3_loadCandidates_62 : decode cX3_loadCandidates 62 = .ok (.goto (-28), 3) := by decide +kernel
theorem dX3_loadCandidates_65 : decode cX3_loadCandidates 65 = .ok (.iinc 3 1, 3) := by decide +kernel
theorem dX3_loadCandidates_68 : decode cX3_loadCandidates 68 = .ok (.goto (-58), 3) := by decide +kernel
theorem dX3_loadCandidates_71 : decode cX3_loadCandidates 71 = .ok (.return_, 1) := by decide +kernel
theorem dX3_loadRuns_0 : decode cX3_loadRuns 0 = .ok (.iconst 0, 1) := by decide +kernel
theorem dX3_loadRuns_1 : decode cX3_loadRuns 1 = .ok (.istore_n 3, 1) := by decide +kernel
theorem dX3_loadRuns_2 : decode cX3_loadRuns 2 = .ok (.iload_n 3, 1) := by decide +kernel
theorem dX3_loadRuns_3 : decode cX3_loadRuns 3 = .ok (.aload_n 0, 1) := by decide +kernel
theorem dX3_loadRuns_4 : decode cX3_loadRuns 4 = .ok (.getfield 15, 3) := by decide +kernel
theorem dX3_loadRuns_7 : decode cX3_loadRuns 7 = .ok (.if_icmp .ge 117, 3) := by decide +kernel
theorem dX3_loadRuns_10 : decode cX3_loadRuns 10 = .ok (.aload_n 1, 1) := by decide +kernel
theorem dX3_loadRuns_11 : decode cX3_loadRuns 11 = .ok (.iload_n 2, 1) := by decide +kernel
theorem dX3_loadRuns_12 : decode cX3_loadRuns 12 = .ok (.iload_n 3, 1) := by decide +kernel
theorem dX3_loadRuns_13 : decode cX3_loadRuns 13 = .ok (.invokevirtual 88, 3) := by decide +kernel
theorem dX3_loadRuns_16 : decode cX3_loadRuns 16 = .ok (.istore 4, 2) := by decide +kernel
theorem dX3_loadRuns_18 : decode cX3_loadRuns 18 = .ok (.aload_n 0, 1) := by decide +kernel
theorem dX3_loadRuns_19 : decode cX3_loadRuns 19 = .ok (.getfield 18, 3) := by decide +kernel
theorem dX3_loadRuns_22 : decode cX3_loadRuns 22 = .ok (.iload_n 3, 1) := by decide +kernel
theorem dX3_loadRuns_23 : decode cX3_loadRuns 23 = .ok (.aload_n 1, 1) := by decide +kernel
theorem dX3_loadRuns_24 : decode cX3_loadRuns 24 = .ok (.iload_n 2, 1) := by decide +kernel
theorem dX3_loadRuns_25 : decode cX3_loadRuns 25 = .ok (.iload_n 3, 1) := by decide +kernel
theorem dX3_loadRuns_26 : decode cX3_loadRuns 26 = .ok (.invokevirtual 92, 3) := by decide +kernel
theorem dX3_loadRuns_29 : decode cX3_loadRuns 29 = .ok (.iastore, 1) := by decide +kernel
theorem dX3_loadRuns_30 : decode cX3_loadRuns 30 = .ok (.aload_n 0, 1) := by decide +kernel
theorem dX3_loadRuns_31 : decode cX3_loadRuns 31 = .ok (.getfield 22, 3) := by decide +kernel
theorem dX3_loadRuns_34 : decode cX3_loadRuns 34 = .ok (.iload_n 3, 1) := by decide +kernel
theorem dX3_loadRuns_35 : decode cX3_loadRuns 35 = .ok (.aload_n 1, 1) := by decide +kernel
theorem dX3_loadRuns_36 : decode cX3_loadRuns 36 = .ok (.iload_n 2, 1) := by decide +kernel
theorem dX3_loadRuns_37 : decode cX3_loadRuns 37 = .ok (.iload_n 3, 1) := by decide +kernel
theorem dX3_loadRuns_38 : decode cX3_loadRuns 38 = .ok (.invokevirtual 95, 3) := by decide +kernel
theorem dX3_loadRuns_41 : decode cX3_loadRuns 41 = .ok (.iastore, 1) := by decide +kernel
theorem dX3_loadRuns_42 : decode cX3_loadRuns 42 = .ok (.aload_n 0, 1) := by decide +kernel
theorem dX3_loadRuns_43 : decode cX3_loadRuns 43 = .ok (.getfield 25, 3) := by decide +kernel
theorem dX3_loadRuns_46 : decode cX3_loadRuns 46 = .ok (.iload_n 3, 1) := by decide +kernel
theorem dX3_loadRuns_47 : decode cX3_loadRuns 47 = .ok (.aload_n 0, 1) := by decide +kernel
theorem dX3_loadRuns_48 : decode cX3_loadRuns 48 = .ok (.getfield 18, 3) := by decide +kernel
theorem dX3_loadRuns_51 : decode cX3_loadRuns 51 = .ok (.iload_n 3, 1) := by decide +kernel
theorem dX3_loadRuns_52 : decode cX3_loadRuns 52 = .ok (.iaload, 1) := by decide +kernel
theorem dX3_loadRuns_53 : decode cX3_loadRuns 53 = .ok (.iload 4, 2) := by decide +kernel
theorem dX3_loadRuns_55 : decode cX3_loadRuns 55 = .ok (.ifCond .eq 7, 3) := by decide +kernel
theorem dX3_loadRuns_58 : decode cX3_loadRuns 58 = .ok (.iconst 1, 1) := by decide +kernel
theorem dX3_loadRuns_59 : decode cX3_loadRuns 59 = .ok (.goto 4, 3) := by decide +kernel
theorem dX3_loadRuns_62 : decode cX3_loadRuns 62 = .ok (.iconst 0, 1) := by decide +kernel
theorem dX3_loadRuns_63 : decode cX3_loadRuns 63 = .ok (.iadd, 1) := by decide +kernel
theorem dX3_loadRuns_64 : decode cX3_loadRuns 64 = .ok (.iastore, 1) := by decide +kernel
theorem dX3_loadRuns_65 : decode cX3_loadRuns 65 = .ok (.aload_n 0, 1) := by decide +kernel
theorem dX3_loadRuns_66 : decode cX3_loadRuns 66 = .ok (.getfield 28, 3) := by decide +kernel
theorem dX3_loadRuns_69 : decode cX3_loadRuns 69 = .ok (.iload_n 3, 1) := by decide +kernel
theorem dX3_loadRuns_70 : decode cX3_loadRuns 70 = .ok (.aload_n 0, 1) := by decide +kernel
theorem dX3_loadRuns_71 : decode cX3_loadRuns 71 = .ok (.getfield 18, 3) := by decide +kernel
theorem dX3_loadRuns_74 : decode cX3_loadRuns 74 = .ok (.iload_n 3, 1) := by decide +kernel
theorem dX3_loadRuns_75 : decode cX3_loadRuns 75 = .ok (.iaload, 1) := by decide +kernel
theorem dX3_loadRuns_76 : decode cX3_loadRuns 76 = .ok (.aload_n 0, 1) := by decide +kernel
theorem dX3_loadRuns_77 : decode cX3_loadRuns 77 = .ok (.getfield 31, 3) := by decide +kernel
theorem dX3_loadRuns_80 : decode cX3_loadRuns 80 = .ok (.aload_n 0, 1) := by decide +kernel
theorem dX3_loadRuns_81 : decode cX3_loadRuns 81 = .ok (.getfield 22, 3) := by decide +kernel
theorem dX3_loadRuns_84 : decode cX3_loadRuns 84 = .ok (.iload_n 3, 1) := by decide +kernel
theorem dX3_loadRuns_85 : decode cX3_loadRuns 85 = .ok (.iaload, 1) := by decide +kernel
theorem dX3_loadRuns_86 : decode cX3_loadRuns 86 = .ok (.iaload, 1) := by decide +kernel
theorem dX3_loadRuns_87 : decode cX3_loadRuns 87 = .ok (.invokestatic 98, 3) := by decide +kernel
theorem dX3_loadRuns_90 : decode cX3_loadRuns 90 = .ok (.iastore, 1) := by decide +kernel
theorem dX3_loadRuns_91 : decode cX3_loadRuns 91 = .ok (.iload 4, 2) := by decide +kernel
theorem dX3_loadRuns_93 : decode cX3_loadRuns 93 = .ok (.ifCond .eq 25, 3) := by decide +kernel
theorem dX3_loadRuns_96 : decode cX3_loadRuns 96 = .ok (.aload_n 0, 1) := by decide +kernel
theorem dX3_loadRuns_97 : decode cX3_loadRuns 97 = .ok (.getfield 28, 3) := by decide +kernel
theorem dX3_loadRuns_100 : decode cX3_loadRuns 100 = .ok (.iload_n 3, 1) := by decide +kernel
theorem dX3_loadRuns_101 : decode cX3_loadRuns 101 = .ok (.dup2, 1) := by decide +kernel
theorem dX3_loadRuns_102 : decode cX3_loadRuns 102 = .ok (.iaload, 1) := by decide +kernel
theorem dX3_loadRuns_103 : decode cX3_loadRuns 103 = .ok (.aload_n 0, 1) := by decide +kernel
theorem dX3_loadRuns_104 : decode cX3_loadRuns 104 = .ok (.getfield 31, 3) := by decide +kernel
theorem dX3_loadRuns_107 : decode cX3_loadRuns 107 = .ok (.iconst 0, 1) := by decide +kernel
theorem dX3_loadRuns_108 : decode cX3_loadRuns 108 = .ok (.iaload, 1) := by decide +kernel
theorem dX3_loadRuns_109 : decode cX3_loadRuns 109 = .ok (.aload_n 0, 1) := by decide +kernel
theorem dX3_loadRuns_110 : decode cX3_loadRuns 110 = .ok (.getfield 18, 3) := by decide +kernel
theorem dX3_loadRuns_113 : decode cX3_loadRuns 113 = .ok (.iload_n 3, 1) := by decide +kernel
theorem dX3_loadRuns_114 : decode cX3_loadRuns 114 = .ok (.iaload, 1) := by decide +kernel
theorem dX3_loadRuns_115 : decode cX3_loadRuns 115 = .ok (.ishr, 1) := by decide +kernel
theorem dX3_loadRuns_116 : decode cX3_loadRuns 116 = .ok (.iand, 1) := by decide +kernel
theorem dX3_loadRuns_117 : decode cX3_loadRuns 117 = .ok (.iastore, 1) := by decide +kernel
theorem dX3_loadRuns_118 : decode cX3_loadRuns 118 = .ok (.iinc 3 1, 3) := by decide +kernel
theorem dX3_loadRuns_121 : decode cX3_loadRuns 121 = .ok (.goto (-119), 3) := by decide +kernel
theorem dX3_loadRuns_124 : decode cX3_loadRuns 124 = .ok (.return_, 1) := by decide +kernel
theorem dX3_startsOf_0 : decode cX3_startsOf 0 = .ok (.iload_n 1, 1) := by decide +kernel
theorem dX3_startsOf_1 : decode cX3_startsOf 1 = .ok (.istore_n 2, 1) := by decide +kernel
theorem dX3_startsOf_2 : decode cX3_startsOf 2 = .ok (.iconst 1, 1) := by decide +kernel
theorem dX3_startsOf_3 : decode cX3_startsOf 3 = .ok (.istore_n 3, 1) := by decide +kernel
theorem dX3_startsOf_4 : decode cX3_startsOf 4 = .ok (.iload_n 3, 1) := by decide +kernel
theorem dX3_startsOf_5 : decode cX3_startsOf 5 = .ok (.iload_n 0, 1) := by decide +kernel
theorem dX3_startsOf_6 : decode cX3_startsOf 6 = .ok (.if_icmp .ge 15, 3) := by decide +kernel
theorem dX3_startsOf_9 : decode cX3_startsOf 9 = .ok (.iload_n 2, 1) := by decide +kernel
theorem dX3_startsOf_10 : decode cX3_startsOf 10 = .ok (.iload_n 1, 1) := by decide +kernel
theorem dX3_startsOf_11 : decode cX3_startsOf 11 = .ok (.iload_n 3, 1) := by decide +kernel
theorem dX3_startsOf_12 : decode cX3_startsOf 12 = .ok (.ishr, 1) := by decide +kernel
theorem dX3_startsOf_13 : decode cX3_startsOf 13 = .ok (.iand, 1) := by decide +kernel
theorem dX3_startsOf_14 : decode cX3_startsOf 14 = .ok (.istore_n 2, 1) := by decide +kernel
theorem dX3_startsOf_15 : decode cX3_startsOf 15 = .ok (.iinc 3 1, 3) := by decide +kernel
theorem dX3_startsOf_18 : decode cX3_startsOf 18 = .ok (.goto (-14), 3) := by decide +kernel
theorem dX3_startsOf_21 : decode cX3_startsOf 21 = .ok (.iload_n 2, 1) := by decide +kernel
theorem dX3_startsOf_22 : decode cX3_startsOf 22 = .ok (.ireturn, 1) := by decide +kernel
theorem dX3_countWays_0 : decode cX3_countWays 0 = .ok (.aload_n 0, 1) := by decide +kernel
theorem dX3_countWays_1 : decode cX3_countWays 1 = .ok (.getfield 15, 3) := by decide +kernel
theorem dX3_countWays_4 : decode cX3_countWays 4 = .ok (.istore_n 1, 1) := by decide +kernel
theorem dX3_countWays_5 : decode cX3_countWays 5 = .ok (.iload_n 1, 1) := by decide +kernel
theorem dX3_countWays_6 : decode cX3_countWays 6 = .ok (.ifCond .lt 76, 3) := by decide +kernel
theorem dX3_countWays_9 : decode cX3_countWays 9 = .ok (.iload_n 1, 1) := by decide +kernel
theorem dX3_countWays_10 : decode cX3_countWays 10 = .ok (.bipush 9, 2) := by decide +kernel
theorem dX3_countWays_12 : decode cX3_countWays 12 = .ok (.imul, 1) := by decide +kernel
theorem dX3_countWays_13 : decode cX3_countWays 13 = .ok (.istore_n 2, 1) := by decide +kernel
theorem dX3_countWays_14 : decode cX3_countWays 14 = .ok (.aload_n 0, 1) := by decide +kernel
theorem dX3_countWays_15 : decode cX3_countWays 15 = .ok (.getfield 40, 3) := by decide +kernel
theorem dX3_countWays_18 : decode cX3_countWays 18 = .ok (.iload_n 2, 1) := by decide +kernel
theorem dX3_countWays_19 : decode cX3_countWays 19 = .ok (.aload_n 0, 1) := by decide +kernel
theorem dX3_countWays_20 : decode cX3_countWays 20 = .ok (.getfield 9, 3) := by decide +kernel
theorem dX3_countWays_23 : decode cX3_countWays 23 = .ok (.iadd, 1) := by decide +kernel
theorem dX3_countWays_24 : decode cX3_countWays 24 = .ok (.iload_n 1, 1) := by decide +kernel
theorem dX3_countWays_25 : decode cX3_countWays 25 = .ok (.aload_n 0, 1) := by decide +kernel
theorem dX3_countWays_26 : decode cX3_countWays 26 = .ok (.getfield 15, 3) := by decide +kernel
theorem dX3_countWays_29 : decode cX3_countWays 29 = .ok (.if_icmp .ne 7, 3) := by decide +kernel
theorem dX3_countWays_32 : decode cX3_countWays 32 = .ok (.iconst 1, 1) := by decide +kernel
theorem dX3_countWays_33 : decode cX3_countWays 33 = .ok (.goto 4, 3) := by decide +kernel
theorem dX3_countWays_36 : decode cX3_countWays 36 = .ok (.iconst 0, 1) := by decide +kernel
theorem dX3_countWays_37 : decode cX3_countWays 37 = .ok (.iastore, 1) := by decide +kernel
theorem dX3_countWays_38 : decode cX3_countWays 38 = .ok (.aload_n 0, 1) := by decide +kernel
theorem dX3_countWays_39 : decode cX3_countWays 39 = .ok (.getfield 9, 3) := by decide +kernel
theorem dX3_countWays_42 : decode cX3_countWays 42 = .ok (.iconst 1, 1) := by decide +kernel
theorem dX3_countWays_43 : decode cX3_countWays 43 = .ok (.isub, 1) := by decide +kernel
theorem dX3_countWays_44 : decode cX3_countWays 44 = .ok (.istore_n 3, 1) := by decide +kernel
theorem dX3_countWays_45 : decode cX3_countWays 45 = .ok (.iload_n 3, 1) := by decide +kernel
theorem dX3_countWays_46 : decode cX3_countWays 46 = .ok (.ifCond .lt 30, 3) := by decide +kernel
theorem dX3_countWays_49 : decode cX3_countWays 49 = .ok (.aload_n 0, 1) := by decide +kernel
theorem dX3_countWays_50 : decode cX3_countWays 50 = .ok (.getfield 40, 3) := by decide +kernel
theorem dX3_countWays_53 : decode cX3_countWays 53 = .ok (.iload_n 2, 1) := by decide +kernel
theorem dX3_countWays_54 : decode cX3_countWays 54 = .ok (.iload_n 3, 1) := by decide +kernel
theorem dX3_countWays_55 : decode cX3_countWays 55 = .ok (.iadd, 1) := by decide +kernel
theorem dX3_countWays_56 : decode cX3_countWays 56 = .ok (.aload_n 0, 1) := by decide +kernel
theorem dX3_countWays_57 : decode cX3_countWays 57 = .ok (.iload_n 1, 1) := by decide +kernel
theorem dX3_countWays_58 : decode cX3_countWays 58 = .ok (.iload_n 3, 1) := by decide +kernel
theorem dX3_countWays_59 : decode cX3_countWays 59 = .ok (.invokevirtual 101, 3) := by decide +kernel
theorem dX3_countWays_62 : decode cX3_countWays 62 = .ok (.aload_n 0, 1) := by decide +kernel
theorem dX3_countWays_63 : decode cX3_countWays 63 = .ok (.iload_n 1, 1) := by decide +kernel
theorem dX3_countWays_64 : decode cX3_countWays 64 = .ok (.iload_n 3, 1) := by decide +kernel
theorem dX3_countWays_65 : decode cX3_countWays 65 = .ok (.invokevirtual 104, 3) := by decide +kernel
theorem dX3_countWays_68 : decode cX3_countWays 68 = .ok (.iadd, 1) := by decide +kernel
theorem dX3_countWays_69 : decode cX3_countWays 69 = .ok (.iastore, 1) := by decide +kernel
theorem dX3_countWays_70 : decode cX3_countWays 70 = .ok (.iinc 3 (-1), 3) := by decide +kernel
theorem dX3_countWays_73 : decode cX3_countWays 73 = .ok (.goto (-28), 3) := by decide +kernel
theorem dX3_countWays_76 : decode cX3_countWays 76 = .ok (.iinc 1 (-1), 3) := by decide +kernel
theorem dX3_countWays_79 : decode cX3_countWays 79 = .ok (.goto (-74), 3) := by decide +kernel
theorem dX3_countWays_82 : decode cX3_countWays 82 = .ok (.return_, 1) := by decide +kernel
theorem dX3_whiteWays_0 : decode cX3_whiteWays 0 = .ok (.aload_n 0, 1) := by decide +kernel
theorem dX3_whiteWays_1 : decode cX3_whiteWays 1 = .ok (.getfield 31, 3) := by decide +kernel
theorem dX3_whiteWays_4 : decode cX3_whiteWays 4 = .ok (.iconst 0, 1) := by decide +kernel
theorem dX3_whiteWays_5 : decode cX3_whiteWays 5 = .ok (.iaload, 1) := by decide +kernel
theorem dX3_whiteWays_6 : decode cX3_whiteWays 6 = .ok (.iload_n 2, 1) := by decide +kernel
theorem dX3_whiteWays_7 : decode cX3_whiteWays 7 = .ok (.ishr, 1) := by decide +kernel
theorem dX3_whiteWays_8 : decode cX3_whiteWays 8 = .ok (.iconst 1, 1) := by decide +kernel
theorem dX3_whiteWays_9 : decode cX3_whiteWays 9 = .ok (.iand, 1) := by decide +kernel
theorem dX3_whiteWays_10 : decode cX3_whiteWays 10 = .ok (.ifCond .eq 7, 3) := by decide +kernel
theorem dX3_whiteWays_13 : decode cX3_whiteWays 13 = .ok (.iconst 1, 1) := by decide +kernel
theorem dX3_whiteWays_14 : decode cX3_whiteWays 14 = .ok (.goto 4, 3) := by decide +kernel
theorem dX3_whiteWays_17 : decode cX3_whiteWays 17 = .ok (.iconst 0, 1) := by decide +kernel
theorem dX3_whiteWays_18 : decode cX3_whiteWays 18 = .ok (.istore_n 3, 1) := by decide +kernel
theorem dX3_whiteWays_19 : decode cX3_whiteWays 19 = .ok (.iload_n 3, 1) := by decide +kernel
theorem dX3_whiteWays_20 : decode cX3_whiteWays 20 = .ok (.ifCond .eq 19, 3) := by decide +kernel
theorem dX3_whiteWays_23 : decode cX3_whiteWays 23 = .ok (.aload_n 0, 1) := by decide +kernel
theorem dX3_whiteWays_24 : decode cX3_whiteWays 24 = .ok (.getfield 40, 3) := by decide +kernel
theorem dX3_whiteWays_27 : decode cX3_whiteWays 27 = .ok (.iload_n 1, 1) := by decide +kernel
theorem dX3_whiteWays_28 : decode cX3_whiteWays 28 = .ok (.bipush 9, 2) := by decide +kernel
theorem dX3_whiteWays_30 : decode cX3_whiteWays 30 = .ok (.imul, 1) := by decide +kernel
theorem dX3_whiteWays_31 : decode cX3_whiteWays 31 = .ok (.iload_n 2, 1) := by decide +kernel
theorem dX3_whiteWays_32 : decode cX3_whiteWays 32 = .ok (.iadd, 1) := by decide +kernel
theorem dX3_whiteWays_33 : decode cX3_whiteWays 33 = .ok (.iconst 1, 1) := by decide +kernel
theorem dX3_whiteWays_34 : decode cX3_whiteWays 34 = .ok (.iadd, 1) := by decide +kernel
theorem dX3_whiteWays_35 : decode cX3_whiteWays 35 = .ok (.iaload, 1) := by decide +kernel
theorem dX3_whiteWays_36 : decode cX3_whiteWays 36 = .ok (.goto 4, 3) := by decide +kernel
theorem dX3_whiteWays_39 : decode cX3_whiteWays 39 = .ok (.iconst 0, 1) := by decide +kernel
theorem dX3_whiteWays_40 : decode cX3_whiteWays 40 = .ok (.ireturn, 1) := by decide +kernel
theorem dX3_runWays_0 : decode cX3_runWays 0 = .ok (.iload_n 1, 1) := by decide +kernel
theorem dX3_runWays_1 : decode cX3_runWays 1 = .ok (.aload_n 0, 1) := by decide +kernel
theorem dX3_runWays_2 : decode cX3_runWays 2 = .ok (.getfield 15, 3) := by decide +kernel
theorem dX3_runWays_5 : decode cX3_runWays 5 = .ok (.if_icmp .ge 35, 3) := by decide +kernel
theorem dX3_runWays_8 : decode cX3_runWays 8 = .ok (.iload_n 2, 1) := by decide +kernel
theorem dX3_runWays_9 : decode cX3_runWays 9 = .ok (.aload_n 0, 1) := by decide +kernel
theorem dX3_runWays_10 : decode cX3_runWays 10 = .ok (.getfield 25, 3) := by decide +kernel
theorem dX3_runWays_13 : decode cX3_runWays 13 = .ok (.iload_n 1, 1) := by decide +kernel
theorem dX3_runWays_14 : decode cX3_runWays 14 = .ok (.iaload, 1) := by decide +kernel
theorem dX3_runWays_15 : decode cX3_runWays 15 = .ok (.iadd, 1) := by decide +kernel
theorem dX3_runWays_16 : decode cX3_runWays 16 = .ok (.aload_n 0, 1) := by decide +kernel
theorem dX3_runWays_17 : decode cX3_runWays 17 = .ok (.getfield 9, 3) := by decide +kernel
theorem dX3_runWays_20 : decode cX3_runWays 20 = .ok (.if_icmp .gt 20, 3) := by decide +kernel
theorem dX3_runWays_23 : decode cX3_runWays 23 = .ok (.aload_n 0, 1) := by decide +kernel
theorem dX3_runWays_24 : decode cX3_runWays 24 = .ok (.getfield 28, 3) := by decide +kernel
theorem dX3_runWays_27 : decode cX3_runWays 27 = .ok (.iload_n 1, 1) := by decide +kernel
theorem dX3_runWays_28 : decode cX3_runWays 28 = .ok (.iaload, 1) := by decide +kernel
theorem dX3_runWays_29 : decode cX3_runWays 29 = .ok (.iload_n 2, 1) := by decide +kernel
theorem dX3_runWays_30 : decode cX3_runWays 30 = .ok (.ishr, 1) := by decide +kernel
theorem dX3_runWays_31 : decode cX3_runWays 31 = .ok (.iconst 1, 1) := by decide +kernel
theorem dX3_runWays_32 : decode cX3_runWays 32 = .ok (.iand, 1) := by decide +kernel
theorem dX3_runWays_33 : decode cX3_runWays 33 = .ok (.ifCond .eq 7, 3) := by decide +kernel
theorem dX3_runWays_36 : decode cX3_runWays 36 = .ok (.iconst 1, 1) := by decide +kernel
theorem dX3_runWays_37 : decode cX3_runWays 37 = .ok (.goto 4, 3) := by decide +kernel
theorem dX3_runWays_40 : decode cX3_runWays 40 = .ok (.iconst 0, 1) := by decide +kernel
theorem dX3_runWays_41 : decode cX3_runWays 41 = .ok (.istore_n 3, 1) := by decide +kernel
theorem dX3_runWays_42 : decode cX3_runWays 42 = .ok (.iload_n 3, 1) := by decide +kernel
theorem dX3_runWays_43 : decode cX3_runWays 43 = .ok (.ifCond .eq 26, 3) := by decide +kernel
theorem dX3_runWays_46 : decode cX3_runWays 46 = .ok (.aload_n 0, 1) := by decide +kernel
theorem dX3_runWays_47 : decode cX3_runWays 47 = .ok (.getfield 40, 3) := by decide +kernel
theorem dX3_runWays_50 : decode cX3_runWays 50 = .ok (.iload_n 1, 1) := by decide +kernel
theorem dX3_runWays_51 : decode cX3_runWays 51 = .ok (.iconst 1, 1) := by decide +kernel
theorem dX3_runWays_52 : decode cX3_runWays 52 = .ok (.iadd, 1) := by decide +kernel
theorem dX3_runWays_53 : decode cX3_runWays 53 = .ok (.bipush 9, 2) := by decide +kernel
theorem dX3_runWays_55 : decode cX3_runWays 55 = .ok (.imul, 1) := by decide +kernel
theorem dX3_runWays_56 : decode cX3_runWays 56 = .ok (.iload_n 2, 1) := by decide +kernel
theorem dX3_runWays_57 : decode cX3_runWays 57 = .ok (.iadd, 1) := by decide +kernel
theorem dX3_runWays_58 : decode cX3_runWays 58 = .ok (.aload_n 0, 1) := by decide +kernel
theorem dX3_runWays_59 : decode cX3_runWays 59 = .ok (.getfield 25, 3) := by decide +kernel
theorem dX3_runWays_62 : decode cX3_runWays 62 = .ok (.iload_n 1, 1) := by decide +kernel
theorem dX3_runWays_63 : decode cX3_runWays 63 = .ok (.iaload, 1) := by decide +kernel
theorem dX3_runWays_64 : decode cX3_runWays 64 = .ok (.iadd, 1) := by decide +kernel
theorem dX3_runWays_65 : decode cX3_runWays 65 = .ok (.iaload, 1) := by decide +kernel
theorem dX3_runWays_66 : decode cX3_runWays 66 = .ok (.goto 4, 3) := by decide +kernel
theorem dX3_runWays_69 : decode cX3_runWays 69 = .ok (.iconst 0, 1) := by decide +kernel
theorem dX3_runWays_70 : decode cX3_runWays 70 = .ok (.ireturn, 1) := by decide +kernel
theorem dX3_total_0 : decode cX3_total 0 = .ok (.aload_n 0, 1) := by decide +kernel
theorem dX3_total_1 : decode cX3_total 1 = .ok (.getfield 40, 3) := by decide +kernel
theorem dX3_total_4 : decode cX3_total 4 = .ok (.iconst 0, 1) := by decide +kernel
theorem dX3_total_5 : decode cX3_total 5 = .ok (.iaload, 1) := by decide +kernel
theorem dX3_total_6 : decode cX3_total 6 = .ok (.ireturn, 1) := by decide +kernel
theorem dX3_solve_0 : decode cX3_solve 0 = .ok (.aload_n 0, 1) := by decide +kernel
theorem dX3_solve_1 : decode cX3_solve 1 = .ok (.aload_n 1, 1) := by decide +kernel
theorem dX3_solve_2 : decode cX3_solve 2 = .ok (.iload_n 2, 1) := by decide +kernel
theorem dX3_solve_3 : decode cX3_solve 3 = .ok (.invokevirtual 107, 3) := by decide +kernel
theorem dX3_solve_6 : decode cX3_solve 6 = .ok (.aload_n 0, 1) := by decide +kernel
theorem dX3_solve_7 : decode cX3_solve 7 = .ok (.iconst 0, 1) := by decide +kernel
theorem dX3_solve_8 : decode cX3_solve 8 = .ok (.putfield 43, 3) := by decide +kernel
theorem dX3_solve_11 : decode cX3_solve 11 = .ok (.aload_n 0, 1) := by decide +kernel
theorem dX3_solve_12 : decode cX3_solve 12 = .ok (.iconst 0, 1) := by decide +kernel
theorem dX3_solve_13 : decode cX3_solve 13 = .ok (.putfield 46, 3) := by decide +kernel
theorem dX3_solve_16 : decode cX3_solve 16 = .ok (.aload_n 0, 1) := by decide +kernel
theorem dX3_solve_17 : decode cX3_solve 17 = .ok (.invokevirtual 110, 3) := by decide +kernel
theorem dX3_solve_20 : decode cX3_solve 20 = .ok (.ifCond .ne 5, 3) := by decide +kernel
theorem dX3_solve_23 : decode cX3_solve 23 = .ok (.iconst 0, 1) := by decide +kernel
theorem dX3_solve_24 : decode cX3_solve 24 = .ok (.ireturn, 1) := by decide +kernel
theorem dX3_solve_25 : decode cX3_solve 25 = .ok (.aload_n 0, 1) := by decide +kernel
theorem dX3_solve_26 : decode cX3_solve 26 = .ok (.invokevirtual 114, 3) := by decide +kernel
theorem dX3_solve_29 : decode cX3_solve 29 = .ok (.iconst 0, 1) := by decide +kernel
theorem dX3_solve_30 : decode cX3_solve 30 = .ok (.istore_n 3, 1) := by decide +kernel
theorem dX3_solve_31 : decode cX3_solve 31 = .ok (.iload_n 3, 1) := by decide +kernel
theorem dX3_solve_32 : decode cX3_solve 32 = .ok (.aload_n 0, 1) := by decide +kernel
theorem dX3_solve_33 : decode cX3_solve 33 = .ok (.getfield 9, 3) := by decide +kernel
theorem dX3_solve_36 : decode cX3_solve 36 = .ok (.if_icmp .ge 99, 3) := by decide +kernel
theorem dX3_solve_39 : decode cX3_solve 39 = .ok (.aload_n 1, 1) := by decide +kernel
theorem dX3_solve_40 : decode cX3_solve 40 = .ok (.iload_n 2, 1) := by decide +kernel
theorem dX3_solve_41 : decode cX3_solve 41 = .ok (.iload_n 3, 1) := by decide +kernel
theorem dX3_solve_42 : decode cX3_solve 42 = .ok (.invokevirtual 84, 3) := by decide +kernel
theorem dX3_solve_45 : decode cX3_solve 45 = .ok (.istore 4, 2) := by decide +kernel
theorem dX3_solve_47 : decode cX3_solve 47 = .ok (.aload_n 0, 1) := by decide +kernel
theorem dX3_solve_48 : decode cX3_solve 48 = .ok (.iload_n 3, 1) := by decide +kernel
theorem dX3_solve_49 : decode cX3_solve 49 = .ok (.invokevirtual 117, 3) := by decide +kernel
theorem dX3_solve_52 : decode cX3_solve 52 = .ok (.istore 5, 2) := by decide +kernel
theorem dX3_solve_54 : decode cX3_solve 54 = .ok (.iload 5, 2) := by decide +kernel
theorem dX3_solve_56 : decode cX3_solve 56 = .ok (.aload_n 1, 1) := by decide +kernel
theorem dX3_solve_57 : decode cX3_solve 57 = .ok (.getfield 81, 3) := by decide +kernel
theorem dX3_solve_60 : decode cX3_solve 60 = .ok (.iload 4, 2) := by decide +kernel
theorem dX3_solve_62 : decode cX3_solve 62 = .ok (.iaload, 1) := by decide +kernel
theorem dX3_solve_63 : decode cX3_solve 63 = .ok (.if_icmp .eq 66, 3) := by decide +kernel
theorem dX3_solve_66 : decode cX3_solve 66 = .ok (.aload_n 0, 1) := by decide +kernel
theorem dX3_solve_67 : decode cX3_solve 67 = .ok (.dup, 1) := by decide +kernel
theorem dX3_solve_68 : decode cX3_solve 68 = .ok (.getfield 43, 3) := by decide +kernel
theorem dX3_solve_71 : decode cX3_solve 71 = .ok (.aload_n 1, 1) := by decide +kernel
theorem dX3_solve_72 : decode cX3_solve 72 = .ok (.getfield 81, 3) := by decide +kernel
theorem dX3_solve_75 : decode cX3_solve 75 = .ok (.iload 4, 2) := by decide +kernel
theorem dX3_solve_77 : decode cX3_solve 77 = .ok (.iaload, 1) := by decide +kernel
theorem dX3_solve_78 : decode cX3_solve 78 = .ok (.invokestatic 120, 3) := by decide +kernel
theorem dX3_solve_81 : decode cX3_solve 81 = .ok (.iload 5, 2) := by decide +kernel
theorem dX3_solve_83 : decode cX3_solve 83 = .ok (.invokestatic 120, 3) := by decide +kernel
theorem dX3_solve_86 : decode cX3_solve 86 = .ok (.isub, 1) := by decide +kernel
theorem dX3_solve_87 : decode cX3_solve 87 = .ok (.iadd, 1) := by decide +kernel
theorem dX3_solve_88 : decode cX3_solve 88 = .ok (.putfield 43, 3) := by decide +kernel
theorem dX3_solve_91 : decode cX3_solve 91 = .ok (.aload_n 1, 1) := by decide +kernel
theorem dX3_solve_92 : decode cX3_solve 92 = .ok (.getfield 81, 3) := by decide +kernel
theorem dX3_solve_95 : decode cX3_solve 95 = .ok (.iload 4, 2) := by decide +kernel
theorem dX3_solve_97 : decode cX3_solve 97 = .ok (.iload 5, 2) := by decide +kernel
theorem dX3_solve_99 : decode cX3_solve 99 = .ok (.iastore, 1) := by decide +kernel
theorem dX3_solve_100 : decode cX3_solve 100 = .ok (.aload_n 0, 1) := by decide +kernel
theorem dX3_solve_101 : decode cX3_solve 101 = .ok (.dup, 1) := by decide +kernel
theorem dX3_solve_102 : decode cX3_solve 102 = .ok (.getfield 46, 3) := by decide +kernel
theorem dX3_solve_105 : decode cX3_solve 105 = .ok (.iconst 1, 1) := by decide +kernel
theorem dX3_solve_106 : decode cX3_solve 106 = .ok (.iload_n 2, 1) := by decide +kernel
theorem dX3_solve_107 : decode cX3_solve 107 = .ok (.aload_n 1, 1) := by decide +kernel
theorem dX3_solve_108 : decode cX3_solve 108 = .ok (.getfield 125, 3) := by decide +kernel
theorem dX3_solve_111 : decode cX3_solve 111 = .ok (.if_icmp .ge 12, 3) := by decide +kernel
theorem dX3_solve_114 : decode cX3_solve 114 = .ok (.aload_n 1, 1) := by decide +kernel
theorem dX3_solve_115 : decode cX3_solve 115 = .ok (.getfield 125, 3) := by decide +kernel
theorem dX3_solve_118 : decode cX3_solve 118 = .ok (.iload_n 3, 1) := by decide +kernel
theorem dX3_solve_119 : decode cX3_solve 119 = .ok (.iadd, 1) := by decide +kernel
theorem dX3_solve_120 : decode cX3_solve 120 = .ok (.goto 4, 3) := by decide +kernel
theorem dX3_solve_123 : decode cX3_solve 123 = .ok (.iload_n 3, 1) := by decide +kernel
theorem dX3_solve_124 : decode cX3_solve 124 = .ok (.ishl, 1) := by decide +kernel
theorem dX3_solve_125 : decode cX3_solve 125 = .ok (.ior, 1) := by decide +kernel
theorem dX3_solve_126 : decode cX3_solve 126 = .ok (.putfield 46, 3) := by decide +kernel
theorem dX3_solve_129 : decode cX3_solve 129 = .ok (.iinc 3 1, 3) := by decide +kernel
theorem dX3_solve_132 : decode cX3_solve 132 = .ok (.goto (-101), 3) := by decide +kernel
theorem dX3_solve_135 : decode cX3_solve 135 = .ok (.iconst 1, 1) := by decide +kernel
theorem dX3_solve_136 : decode cX3_solve 136 = .ok (.ireturn, 1) := by decide +kernel
theorem dX3_findSeen_0 : decode cX3_findSeen 0 = .ok (.aload_n 0, 1) := by decide +kernel
theorem dX3_findSeen_1 : decode cX3_findSeen 1 = .ok (.getfield 34, 3) := by decide +kernel
theorem dX3_findSeen_4 : decode cX3_findSeen 4 = .ok (.iconst 0, 1) := by decide +kernel
theorem dX3_findSeen_5 : decode cX3_findSeen 5 = .ok (.invokestatic 75, 3) := by decide +kernel
theorem dX3_findSeen_8 : decode cX3_findSeen 8 = .ok (.aload_n 0, 1) := by decide +kernel
theorem dX3_findSeen_9 : decode cX3_findSeen 9 = .ok (.getfield 37, 3) := by decide +kernel
theorem dX3_findSeen_12 : decode cX3_findSeen 12 = .ok (.iconst 0, 1) := by decide +kernel
theorem dX3_findSeen_13 : decode cX3_findSeen 13 = .ok (.invokestatic 75, 3) := by decide +kernel
theorem dX3_findSeen_16 : decode cX3_findSeen 16 = .ok (.aload_n 0, 1) := by decide +kernel
theorem dX3_findSeen_17 : decode cX3_findSeen 17 = .ok (.getfield 37, 3) := by decide +kernel
theorem dX3_findSeen_20 : decode cX3_findSeen 20 = .ok (.iconst 0, 1) := by decide +kernel
theorem dX3_findSeen_21 : decode cX3_findSeen 21 = .ok (.iconst 1, 1) := by decide +kernel
theorem dX3_findSeen_22 : decode cX3_findSeen 22 = .ok (.iastore, 1) := by decide +kernel
theorem dX3_findSeen_23 : decode cX3_findSeen 23 = .ok (.iconst 0, 1) := by decide +kernel
theorem dX3_findSeen_24 : decode cX3_findSeen 24 = .ok (.istore_n 1, 1) := by decide +kernel
theorem dX3_findSeen_25 : decode cX3_findSeen 25 = .ok (.iload_n 1, 1) := by decide +kernel
theorem dX3_findSeen_26 : decode cX3_findSeen 26 = .ok (.aload_n 0, 1) := by decide +kernel
theorem dX3_findSeen_27 : decode cX3_findSeen 27 = .ok (.getfield 15, 3) := by decide +kernel
theorem dX3_findSeen_30 : decode cX3_findSeen 30 = .ok (.if_icmp .gt 123, 3) := by decide +kernel
theorem dX3_findSeen_33 : decode cX3_findSeen 33 = .ok (.iconst 0, 1) := by decide +kernel
theorem dX3_findSeen_34 : decode cX3_findSeen 34 = .ok (.istore_n 2, 1) := by decide +kernel
theorem dX3_findSeen_35 : decode cX3_findSeen 35 = .ok (.iload_n 2, 1) := by decide +kernel
theorem dX3_findSeen_36 : decode cX3_findSeen 36 = .ok (.aload_n 0, 1) := by decide +kernel
theorem dX3_findSeen_37 : decode cX3_findSeen 37 = .ok (.getfield 9, 3) := by decide +kernel
theorem dX3_findSeen_40 : decode cX3_findSeen 40 = .ok (.if_icmp .ge 107, 3) := by decide +kernel
theorem dX3_findSeen_43 : decode cX3_findSeen 43 = .ok (.aload_n 0, 1) := by decide +kernel
theorem dX3_findSeen_44 : decode cX3_findSeen 44 = .ok (.getfield 37, 3) := by decide +kernel
theorem dX3_findSeen_47 : decode cX3_findSeen 47 = .ok (.iload_n 1, 1) := by decide +kernel
theorem dX3_findSeen_48 : decode cX3_findSeen 48 = .ok (.iaload, 1) := by decide +kernel
theorem dX3_findSeen_49 : decode cX3_findSeen 49 = .ok (.iload_n 2, 1) := by decide +kernel
theorem dX3_findSeen_50 : decode cX3_findSeen 50 = .ok (.ishr, 1) := by decide +kernel
theorem dX3_findSeen_51 : decode cX3_findSeen 51 = .ok (.iconst 1, 1) := by decide +kernel
theorem dX3_findSeen_52 : decode cX3_findSeen 52 = .ok (.iand, 1) := by decide +kernel
theorem dX3_findSeen_53 : decode cX3_findSeen 53 = .ok (.ifCond .eq 7, 3) := by decide +kernel
theorem dX3_findSeen_56 : decode cX3_findSeen 56 = .ok (.iconst 1, 1) := by decide +kernel
theorem dX3_findSeen_57 : decode cX3_findSeen 57 = .ok (.goto 4, 3) := by decide +kernel
theorem dX3_findSeen_60 : decode cX3_findSeen 60 = .ok (.iconst 0, 1) := by decide +kernel
theorem dX3_findSeen_61 : decode cX3_findSeen 61 = .ok (.istore_n 3, 1) := by decide +kernel
theorem dX3_findSeen_62 : decode cX3_findSeen 62 = .ok (.iload_n 3, 1) := by decide +kernel
theorem dX3_findSeen_63 : decode cX3_findSeen 63 = .ok (.ifCond .eq 38, 3) := by decide +kernel
theorem dX3_findSeen_66 : decode cX3_findSeen 66 = .ok (.aload_n 0, 1) := by decide +kernel
theorem dX3_findSeen_67 : decode cX3_findSeen 67 = .ok (.iload_n 1, 1) := by decide +kernel
theorem dX3_findSeen_68 : decode cX3_findSeen 68 = .ok (.iload_n 2, 1) := by decide +kernel
theorem dX3_findSeen_69 : decode cX3_findSeen 69 = .ok (.invokevirtual 101, 3) := by decide +kernel
theorem dX3_findSeen_72 : decode cX3_findSeen 72 = .ok (.ifCond .le 29, 3) := by decide +kernel
theorem dX3_findSeen_75 : decode cX3_findSeen 75 = .ok (.aload_n 0, 1) := by decide +kernel
theorem dX3_findSeen_76 : decode cX3_findSeen 76 = .ok (.getfield 34, 3) := by decide +kernel
theorem dX3_findSeen_79 : decode cX3_findSeen 79 = .ok (.iconst 0, 1) := by decide +kernel
theorem dX3_findSeen_80 : decode cX3_findSeen 80 = .ok (.dup2, 1) := by decide +kernel
theorem dX3_findSeen_81 : decode cX3_findSeen 81 = .ok (.iaload, 1) := by decide +kernel
theorem dX3_findSeen_82 : decode cX3_findSeen 82 = .ok (.iconst 1, 1) := by decide +kernel
theorem dX3_findSeen_83 : decode cX3_findSeen 83 = .ok (.iload_n 2, 1) := by decide +kernel
theorem dX3_findSeen_84 : decode cX3_findSeen 84 = .ok (.ishl, 1) := by decide +kernel
theorem dX3_findSeen_85 : decode cX3_findSeen 85 = .ok (.ior, 1) := by decide +kernel
theorem dX3_findSeen_86 : decode cX3_findSeen 86 = .ok (.iastore, 1) := by decide +kernel
theorem dX3_findSeen_87 : decode cX3_findSeen 87 = .ok (.aload_n 0, 1) := by decide +kernel
theorem dX3_findSeen_88 : decode cX3_findSeen 88 = .ok (.getfield 37, 3) := by decide +kernel
theorem dX3_findSeen_91 : decode cX3_findSeen 91 = .ok (.iload_n 1, 1) := by decide +kernel
theorem dX3_findSeen_92 : decode cX3_findSeen 92 = .ok (.dup2, 1) := by decide +kernel
theorem dX3_findSeen_93 : decode cX3_findSeen 93 = .ok (.iaload, 1) := by decide +kernel
theorem dX3_findSeen_94 : decode cX3_findSeen 94 = .ok (.iconst 1, 1) := by decide +kernel
theorem dX3_findSeen_95 : decode cX3_findSeen 95 = .ok (.iload_n 2, 1) := by decide +kernel
theorem dX3_findSeen_96 : decode cX3_findSeen 96 = .ok (.iconst 1, 1) := by decide +kernel
theorem dX3_findSeen_97 : decode cX3_findSeen 97 = .ok (.iadd, 1) := by decide +kernel
theorem dX3_findSeen_98 : decode cX3_findSeen 98 = .ok (.ishl, 1) := by decide +kernel
theorem dX3_findSeen_99 : decode cX3_findSeen 99 = .ok (.ior, 1) := by decide +kernel
theorem dX3_findSeen_100 : decode cX3_findSeen 100 = .ok (.iastore, 1) := by decide +kernel
theorem dX3_findSeen_101 : decode cX3_findSeen 101 = .ok (.iload_n 3, 1) := by decide +kernel
theorem dX3_findSeen_102 : decode cX3_findSeen 102 = .ok (.ifCond .eq 39, 3) := by decide +kernel
theorem dX3_findSeen_105 : decode cX3_findSeen 105 = .ok (.aload_n 0, 1) := by decide +kernel
theorem dX3_findSeen_106 : decode cX3_findSeen 106 = .ok (.iload_n 1, 1) := by decide +kernel
theorem dX3_findSeen_107 : decode cX3_findSeen 107 = .ok (.iload_n 2, 1) := by decide +kernel
theorem dX3_findSeen_108 : decode cX3_findSeen 108 = .ok (.invokevirtual 104, 3) := by decide +kernel
theorem dX3_findSeen_111 : decode cX3_findSeen 111 = .ok (.ifCond .le 30, 3) := by decide +kernel
theorem dX3_findSeen_114 : decode cX3_findSeen 114 = .ok (.aload_n 0, 1) := by decide +kernel
theorem dX3_findSeen_115 : decode cX3_findSeen 115 = .ok (.iload_n 1, 1) := by decide +kernel
theorem dX3_findSeen_116 : decode cX3_findSeen 116 = .ok (.iload_n 2, 1) := by decide +kernel
theorem dX3_findSeen_117 : decode cX3_findSeen 117 = .ok (.invokevirtual 128, 3) := by decide +kernel
theorem dX3_findSeen_120 : decode cX3_findSeen 120 = .ok (.aload_n 0, 1) := by decide +kernel
theorem dX3_findSeen_121 : decode cX3_findSeen 121 = .ok (.getfield 37, 3) := by decide +kernel
theorem dX3_findSeen_124 : decode cX3_findSeen 124 = .ok (.iload_n 1, 1) := by decide +kernel
theorem dX3_findSeen_125 : decode cX3_findSeen 125 = .ok (.iconst 1, 1) := by decide +kernel
theorem dX3_findSeen_126 : decode cX3_findSeen 126 = .ok (.iadd, 1) := by decide +kernel
theorem dX3_findSeen_127 : decode cX3_findSeen 127 = .ok (.dup2, 1) := by decide +kernel
theorem dX3_findSeen_128 : decode cX3_findSeen 128 = .ok (.iaload, 1) := by decide +kernel
theorem dX3_findSeen_129 : decode cX3_findSeen 129 = .ok (.iconst 1, 1) := by decide +kernel
theorem dX3_findSeen_130 : decode cX3_findSeen 130 = .ok (.iload_n 2, 1) := by decide +kernel
theorem dX3_findSeen_131 : decode cX3_findSeen 131 = .ok (.aload_n 0, 1) := by decide +kernel
theorem dX3_findSeen_132 : decode cX3_findSeen 132 = .ok (.getfield 25, 3) := by decide +kernel
theorem dX3_findSeen_135 : decode cX3_findSeen 135 = .ok (.iload_n 1, 1) := by decide +kernel
theorem dX3_findSeen_136 : decode cX3_findSeen 136 = .ok (.iaload, 1) := by decide +kernel
theorem dX3_findSeen_137 : decode cX3_findSeen 137 = .ok (.iadd, 1) := by decide +kernel
theorem dX3_findSeen_138 : decode cX3_findSeen 138 = .ok (.ishl, 1) := by decide +kernel
theorem dX3_findSeen_139 : decode cX3_findSeen 139 = .ok (.ior, 1) := by decide +kernel
theorem dX3_findSeen_140 : decode cX3_findSeen 140 = .ok (.iastore, 1) := by decide +kernel
theorem dX3_findSeen_141 : decode cX3_findSeen 141 = .ok (.iinc 2 1, 3) := by decide +kernel
theorem dX3_findSeen_144 : decode cX3_findSeen 144 = .ok (.goto (-109), 3) := by decide +kernel
theorem dX3_findSeen_147 : decode cX3_findSeen 147 = .ok (.iinc 1 1, 3) := by decide +kernel
theorem dX3_findSeen_150 : decode cX3_findSeen 150 = .ok (.goto (-125), 3) := by decide +kernel
theorem dX3_findSeen_153 : decode cX3_findSeen 153 = .ok (.return_, 1) := by decide +kernel
theorem dX3_seeRun_0 : decode cX3_seeRun 0 = .ok (.iload_n 2, 1) := by decide +kernel
theorem dX3_seeRun_1 : decode cX3_seeRun 1 = .ok (.aload_n 0, 1) := by decide +kernel
theorem dX3_seeRun_2 : decode cX3_seeRun 2 = .ok (.getfield 18, 3) := by decide +kernel
theorem dX3_seeRun_5 : decode cX3_seeRun 5 = .ok (.iload_n 1, 1) := by decide +kernel
theorem dX3_seeRun_6 : decode cX3_seeRun 6 = .ok (.iaload, 1) := by decide +kernel
theorem dX3_seeRun_7 : decode cX3_seeRun 7 = .ok (.iadd, 1) := by decide +kernel
theorem dX3_seeRun_8 : decode cX3_seeRun 8 = .ok (.istore_n 3, 1) := by decide +kernel
theorem dX3_seeRun_9 : decode cX3_seeRun 9 = .ok (.aload_n 0, 1) := by decide +kernel
theorem dX3_seeRun_10 : decode cX3_seeRun 10 = .ok (.getfield 34, 3) := by decide +kernel
theorem dX3_seeRun_13 : decode cX3_seeRun 13 = .ok (.aload_n 0, 1) := by decide +kernel
theorem dX3_seeRun_14 : decode cX3_seeRun 14 = .ok (.getfield 22, 3) := by decide +kernel
theorem dX3_seeRun_17 : decode cX3_seeRun 17 = .ok (.iload_n 1, 1) := by decide +kernel
theorem dX3_seeRun_18 : decode cX3_seeRun 18 = .ok (.iaload, 1) := by decide +kernel
theorem dX3_seeRun_19 : decode cX3_seeRun 19 = .ok (.dup2, 1) := by decide +kernel
theorem dX3_seeRun_20 : decode cX3_seeRun 20 = .ok (.iaload, 1) := by decide +kernel
theorem dX3_seeRun_21 : decode cX3_seeRun 21 = .ok (.iconst 1, 1) := by decide +kernel
theorem dX3_seeRun_22 : decode cX3_seeRun 22 = .ok (.iload_n 3, 1) := by decide +kernel
theorem dX3_seeRun_23 : decode cX3_seeRun 23 = .ok (.ishl, 1) := by decide +kernel
theorem dX3_seeRun_24 : decode cX3_seeRun 24 = .ok (.iconst 1, 1) := by decide +kernel
theorem dX3_seeRun_25 : decode cX3_seeRun 25 = .ok (.iload_n 2, 1) := by decide +kernel
theorem dX3_seeRun_26 : decode cX3_seeRun 26 = .ok (.ishl, 1) := by decide +kernel
theorem dX3_seeRun_27 : decode cX3_seeRun 27 = .ok (.isub, 1) := by decide +kernel
theorem dX3_seeRun_28 : decode cX3_seeRun 28 = .ok (.ior, 1) := by decide +kernel
theorem dX3_seeRun_29 : decode cX3_seeRun 29 = .ok (.iastore, 1) := by decide +kernel
theorem dX3_seeRun_30 : decode cX3_seeRun 30 = .ok (.aload_n 0, 1) := by decide +kernel
theorem dX3_seeRun_31 : decode cX3_seeRun 31 = .ok (.getfield 25, 3) := by decide +kernel
theorem dX3_seeRun_34 : decode cX3_seeRun 34 = .ok (.iload_n 1, 1) := by decide +kernel
theorem dX3_seeRun_35 : decode cX3_seeRun 35 = .ok (.iaload, 1) := by decide +kernel
theorem dX3_seeRun_36 : decode cX3_seeRun 36 = .ok (.aload_n 0, 1) := by decide +kernel
theorem dX3_seeRun_37 : decode cX3_seeRun 37 = .ok (.getfield 18, 3) := by decide +kernel
theorem dX3_seeRun_40 : decode cX3_seeRun 40 = .ok (.iload_n 1, 1) := by decide +kernel
theorem dX3_seeRun_41 : decode cX3_seeRun 41 = .ok (.iaload, 1) := by decide +kernel
theorem dX3_seeRun_42 : decode cX3_seeRun 42 = .ok (.if_icmp .le 15, 3) := by decide +kernel
theorem dX3_seeRun_45 : decode cX3_seeRun 45 = .ok (.aload_n 0, 1) := by decide +kernel
theorem dX3_seeRun_46 : decode cX3_seeRun 46 = .ok (.getfield 34, 3) := by decide +kernel
theorem dX3_seeRun_49 : decode cX3_seeRun 49 = .ok (.iconst 0, 1) := by decide +kernel
theorem dX3_seeRun_50 : decode cX3_seeRun 50 = .ok (.dup2, 1) := by decide +kernel
theorem dX3_seeRun_51 : decode cX3_seeRun 51 = .ok (.iaload, 1) := by decide +kernel
theorem dX3_seeRun_52 : decode cX3_seeRun 52 = .ok (.iconst 1, 1) := by decide +kernel
theorem dX3_seeRun_53 : decode cX3_seeRun 53 = .ok (.iload_n 3, 1) := by decide +kernel
theorem dX3_seeRun_54 : decode cX3_seeRun 54 = .ok (.ishl, 1) := by decide +kernel
theorem dX3_seeRun_55 : decode cX3_seeRun 55 = .ok (.ior, 1) := by decide +kernel
theorem dX3_seeRun_56 : decode cX3_seeRun 56 = .ok (.iastore, 1) := by decide +kernel
theorem dX3_seeRun_57 : decode cX3_seeRun 57 = .ok (.return_, 1) := by decide +kernel
theorem dX3_seenAt_0 : decode cX3_seenAt 0 = .ok (.iconst 0, 1) := by decide +kernel
theorem dX3_seenAt_1 : decode cX3_seenAt 1 = .ok (.istore_n 2, 1) := by decide +kernel
theorem dX3_seenAt_2 : decode cX3_seenAt 2 = .ok (.iconst 0, 1) := by decide +kernel
theorem dX3_seenAt_3 : decode cX3_seenAt 3 = .ok (.istore_n 3, 1) := by decide +kernel
theorem dX3_seenAt_4 : decode cX3_seenAt 4 = .ok (.iload_n 3, 1) := by decide +kernel
theorem dX3_seenAt_5 : decode cX3_seenAt 5 = .ok (.iconst 3, 1) := by decide +kernel
theorem dX3_seenAt_6 : decode cX3_seenAt 6 = .ok (.if_icmp .gt 24, 3) := by decide +kernel
theorem dX3_seenAt_9 : decode cX3_seenAt 9 = .ok (.iload_n 2, 1) := by decide +kernel
theorem dX3_seenAt_10 : decode cX3_seenAt 10 = .ok (.aload_n 0, 1) := by decide +kernel
theorem dX3_seenAt_11 : decode cX3_seenAt 11 = .ok (.getfield 34, 3) := by decide +kernel
theorem dX3_seenAt_14 : decode cX3_seenAt 14 = .ok (.iload_n 3, 1) := by decide +kernel
theorem dX3_seenAt_15 : decode cX3_seenAt 15 = .ok (.iaload, 1) := by decide +kernel
theorem dX3_seenAt_16 : decode cX3_seenAt 16 = .ok (.iload_n 1, 1) := by decide +kernel
theorem dX3_seenAt_17 : decode cX3_seenAt 17 = .ok (.ishr, 1) := by decide +kernel
theorem dX3_seenAt_18 : decode cX3_seenAt 18 = .ok (.iconst 1, 1) := by decide +kernel
theorem dX3_seenAt_19 : decode cX3_seenAt 19 = .ok (.iand, 1) := by decide +kernel
theorem dX3_seenAt_20 : decode cX3_seenAt 20 = .ok (.iload_n 3, 1) := by decide +kernel
theorem dX3_seenAt_21 : decode cX3_seenAt 21 = .ok (.ishl, 1) := by decide +kernel
theorem dX3_seenAt_22 : decode cX3_seenAt 22 = .ok (.ior, 1) := by decide +kernel
theorem dX3_seenAt_23 : decode cX3_seenAt 23 = .ok (.istore_n 2, 1) := by decide +kernel
theorem dX3_seenAt_24 : decode cX3_seenAt 24 = .ok (.iinc 3 1, 3) := by decide +kernel
theorem dX3_seenAt_27 : decode cX3_seenAt 27 = .ok (.goto (-23), 3) := by decide +kernel
theorem dX3_seenAt_30 : decode cX3_seenAt 30 = .ok (.iload_n 2, 1) := by decide +kernel
theorem dX3_seenAt_31 : decode cX3_seenAt 31 = .ok (.ireturn, 1) := by decide +kernel
