theorem in_X0 : ∀ w ∈ u_ws RX0 TX0 3, w ∈ TG := TG_all [39, 41, 43] (by decide +kernel) (by decide +kernel)
theorem in_X1 : ∀ w ∈ u_ws RX1 TX1 5, w ∈ TG := TG_all [64, 66, 68, 70, 72] (by decide +kernel) (by decide +kernel)
theorem in_X2 : ∀ w ∈ u_ws RX2 TX2 3, w ∈ TG := TG_all [88, 90, 92] (by decide +kernel) (by decide +kernel)
theorem in_X3 : ∀ w ∈ u_ws RX3 TX3 12, w ∈ TG := TG_all [116, 118, 120, 122, 124, 126, 128, 130, 132, 134, 136, 138] (by decide +kernel) (by decide +kernel)
theorem in_X4 : ∀ w ∈ u_ws RX4 TX4 4, w ∈ TG := TG_all [182, 184, 186, 188] (by decide +kernel) (by decide +kernel)
theorem in_X5 : ∀ w ∈ u_ws RX5 TX5 4, w ∈ TG := TG_all [157, 159, 161, 163] (by decide +kernel) (by decide +kernel)
theorem in_X6 : ∀ w ∈ u_ws RX6 TX6 10, w ∈ TG := TG_all [214, 216, 218, 220, 222, 224, 226, 228, 230, 232] (by decide +kernel) (by decide +kernel)
theorem in_X7 : ∀ w ∈ u_ws RX7 TX7 3, w ∈ TG := TG_all [268, 270, 272] (by decide +kernel) (by decide +kernel)
theorem in_X8 : ∀ w ∈ u_ws RX8 TX8 2, w ∈ TG := TG_all [248, 250] (by decide +kernel) (by decide +kernel)
theorem in_X9 : ∀ w ∈ u_ws RX9 TX9 16, w ∈ TG := TG_all [307, 309, 311, 313, 315, 317, 319, 321, 323, 325, 327, 329, 331, 333, 335, 337] (by decide +kernel) (by decide +kernel)
theorem in_X10 : ∀ w ∈ u_ws RX10 TX10 51, w ∈ TG := TG_all [941, 943, 945, 947, 949, 951, 953, 955, 957, 959, 961, 963, 965, 967, 969, 971, 973, 975, 977, 979, 981, 983, 985, 987, 989, 991, 993, 995, 997, 999, 1001, 1003, 1005, 1007, 1009, 1011, 1013, 1015, 1017, 1019, 1021, 1023, 1025, 1027, 1029, 1031, 1033, 1035, 1037, 1039, 1041] (by decide +kernel) (by decide +kernel)
theorem kc_X0_init : Cond.code yX0_init cX0_init 1 none ∈ TG := (TG_tab 34 (by decide +kernel) rfl)
theorem kd_X0_init : hnd yX0_init 0 := ⟨by decide +kernel, by decide +kernel, by decide +kernel⟩
theorem kc_X0_runsOf : Cond.code yX0_runsOf cX0_runsOf 2 (some .int) ∈ TG := (TG_tab 412 (by decide +kernel) rfl)
theorem kd_X0_runsOf : hnd yX0_runsOf 1 := ⟨by decide +kernel, by decide +kernel, by decide +kernel⟩
theorem kc_X0_isFull : Cond.code yX0_isFull cX0_isFull 2 (some .boolean) ∈ TG := (TG_tab 384 (by decide +kernel) rfl)
theorem kd_X0_isFull : hnd yX0_isFull 1 := ⟨by decide +kernel, by decide +kernel, by decide +kernel⟩
theorem kc_X0_lengthOf : Cond.code yX0_lengthOf cX0_lengthOf 3 (some .int) ∈ TG := (TG_tab 436 (by decide +kernel) rfl)
theorem kd_X0_lengthOf : hnd yX0_lengthOf 2 := ⟨by decide +kernel, by decide +kernel, by decide +kernel⟩
theorem kc_X0_colorOf : Cond.code yX0_colorOf cX0_colorOf 3 (some .int) ∈ TG := (TG_tab 444 (by decide +kernel) rfl)
theorem kd_X0_colorOf : hnd yX0_colorOf 2 := ⟨by decide +kernel, by decide +kernel, by decide +kernel⟩
theorem kc_X0_needsGapBehind : Cond.code yX0_needsGapBehind cX0_needsGapBehind 4 (some .boolean) ∈ TG := (TG_tab 457 (by decide +kernel) rfl)
theorem kd_X0_needsGapBehind : hnd yX0_needsGapBehind 2 := ⟨by decide +kernel, by decide +kernel, by decide +kernel⟩
theorem kc_X0_cellsNeeded : Cond.code yX0_cellsNeeded cX0_cellsNeeded 4 (some .int) ∈ TG := (TG_tab 452 (by decide +kernel) rfl)
theorem kd_X0_cellsNeeded : hnd yX0_cellsNeeded 1 := ⟨by decide +kernel, by decide +kernel, by decide +kernel⟩
theorem kc_X0_runTotal : Cond.code yX0_runTotal cX0_runTotal 3 (some .int) ∈ TG := (TG_tab 777 (by decide +kernel) rfl)
theorem kd_X0_runTotal : hnd yX0_runTotal 0 := ⟨by decide +kernel, by decide +kernel, by decide +kernel⟩
theorem kc_X0_append : Cond.code yX0_append cX0_append 5 none ∈ TG := (TG_tab 407 (by decide +kernel) rfl)
theorem kd_X0_append : hnd yX0_append 3 := ⟨by decide +kernel, by decide +kernel, by decide +kernel⟩
theorem kc_X0_lengthenLast : Cond.code yX0_lengthenLast cX0_lengthenLast 2 none ∈ TG := (TG_tab 772 (by decide +kernel) rfl)
theorem kd_X0_lengthenLast : hnd yX0_lengthenLast 1 := ⟨by decide +kernel, by decide +kernel, by decide +kernel⟩
theorem kc_X0_empty : Cond.code yX0_empty cX0_empty 2 none ∈ TG := (TG_tab 420 (by decide +kernel) rfl)
theorem kd_X0_empty : hnd yX0_empty 1 := ⟨by decide +kernel, by decide +kernel, by decide +kernel⟩
theorem kc_X0_emptyAll : Cond.code yX0_emptyAll cX0_emptyAll 1 none ∈ TG := (TG_tab 282 (by decide +kernel) rfl)
theorem kd_X0_emptyAll : hnd yX0_emptyAll 0 := ⟨by decide +kernel, by decide +kernel, by decide +kernel⟩
theorem kc_X0_copyFrom : Cond.code yX0_copyFrom cX0_copyFrom 2 none ∈ TG := (TG_tab 396 (by decide +kernel) rfl)
theorem kd_X0_copyFrom : hnd yX0_copyFrom 1 := ⟨by decide +kernel, by decide +kernel, by decide +kernel⟩
theorem kc_X1_init : Cond.code yX1_init cX1_init 1 none ∈ TG := (TG_tab 28 (by decide +kernel) rfl)
theorem kd_X1_init : hnd yX1_init 0 := ⟨by decide +kernel, by decide +kernel, by decide +kernel⟩
theorem kc_X1_start : Cond.code yX1_start cX1_start 4 none ∈ TG := (TG_tab 278 (by decide +kernel) rfl)
theorem kd_X1_start : hnd yX1_start 3 := ⟨by decide +kernel, by decide +kernel, by decide +kernel⟩
theorem kc_X1_fillCandidates : Cond.code yX1_fillCandidates cX1_fillCandidates 1 none ∈ TG := (TG_tab 289 (by decide +kernel) rfl)
theorem kd_X1_fillCandidates : hnd yX1_fillCandidates 0 := ⟨by decide +kernel, by decide +kernel, by decide +kernel⟩
theorem kc_X1_copyFrom : Cond.code yX1_copyFrom cX1_copyFrom 2 none ∈ TG := (TG_tab 392 (by decide +kernel) rfl)
theorem kd_X1_copyFrom : hnd yX1_copyFrom 1 := ⟨by decide +kernel, by decide +kernel, by decide +kernel⟩
theorem kc_X1_cellTotal : Cond.code yX1_cellTotal cX1_cellTotal 1 (some .int) ∈ TG := (TG_tab 520 (by decide +kernel) rfl)
theorem kd_X1_cellTotal : hnd yX1_cellTotal 0 := ⟨by decide +kernel, by decide +kernel, by decide +kernel⟩
theorem kc_X1_lineTotal : Cond.code yX1_lineTotal cX1_lineTotal 1 (some .int) ∈ TG := (TG_tab 358 (by decide +kernel) rfl)
theorem kd_X1_lineTotal : hnd yX1_lineTotal 0 := ⟨by decide +kernel, by decide +kernel, by decide +kernel⟩
theorem kc_X1_allLines : Cond.code yX1_allLines cX1_allLines 1 (some .int) ∈ TG := (TG_tab 623 (by decide +kernel) rfl)
theorem kd_X1_allLines : hnd yX1_allLines 0 := ⟨by decide +kernel, by decide +kernel, by decide +kernel⟩
theorem kc_X1_hasLine : Cond.code yX1_hasLine cX1_hasLine 2 (some .boolean) ∈ TG := (TG_tab 378 (by decide +kernel) rfl)
theorem kd_X1_hasLine : hnd yX1_hasLine 1 := ⟨by decide +kernel, by decide +kernel, by decide +kernel⟩
theorem kc_X1_hasCell : Cond.code yX1_hasCell cX1_hasCell 3 (some .boolean) ∈ TG := (TG_tab 465 (by decide +kernel) rfl)
theorem kd_X1_hasCell : hnd yX1_hasCell 2 := ⟨by decide +kernel, by decide +kernel, by decide +kernel⟩
theorem kc_X1_cellAt : Cond.code yX1_cellAt cX1_cellAt 3 (some .int) ∈ TG := (TG_tab 469 (by decide +kernel) rfl)
theorem kd_X1_cellAt : hnd yX1_cellAt 2 := ⟨by decide +kernel, by decide +kernel, by decide +kernel⟩
theorem kc_X1_lineLength : Cond.code yX1_lineLength cX1_lineLength 2 (some .int) ∈ TG := (TG_tab 529 (by decide +kernel) rfl)
theorem kd_X1_lineLength : hnd yX1_lineLength 1 := ⟨by decide +kernel, by decide +kernel, by decide +kernel⟩
theorem kc_X1_lineCell : Cond.code yX1_lineCell cX1_lineCell 3 (some .int) ∈ TG := (TG_tab 533 (by decide +kernel) rfl)
theorem kd_X1_lineCell : hnd yX1_lineCell 2 := ⟨by decide +kernel, by decide +kernel, by decide +kernel⟩
theorem kc_X1_rowLine : Cond.code yX1_rowLine cX1_rowLine 2 (some .int) ∈ TG := (TG_tab 671 (by decide +kernel) rfl)
theorem kd_X1_rowLine : hnd yX1_rowLine 1 := ⟨by decide +kernel, by decide +kernel, by decide +kernel⟩
theorem kc_X1_columnLine : Cond.code yX1_columnLine cX1_columnLine 2 (some .int) ∈ TG := (TG_tab 675 (by decide +kernel) rfl)
theorem kd_X1_columnLine : hnd yX1_columnLine 1 := ⟨by decide +kernel, by decide +kernel, by decide +kernel⟩
theorem kc_X1_linesThrough : Cond.code yX1_linesThrough cX1_linesThrough 2 (some .int) ∈ TG := (TG_tab 667 (by decide +kernel) rfl)
theorem kd_X1_linesThrough : hnd yX1_linesThrough 1 := ⟨by decide +kernel, by decide +kernel, by decide +kernel⟩
theorem kc_X1_hasCandidate : Cond.code yX1_hasCandidate cX1_hasCandidate 3 (some .boolean) ∈ TG := (TG_tab 499 (by decide +kernel) rfl)
theorem kd_X1_hasCandidate : hnd yX1_hasCandidate 2 := ⟨by decide +kernel, by decide +kernel, by decide +kernel⟩
theorem kc_X1_isDecided : Cond.code yX1_isDecided cX1_isDecided 2 (some .boolean) ∈ TG := (TG_tab 477 (by decide +kernel) rfl)
theorem kd_X1_isDecided : hnd yX1_isDecided 1 := ⟨by decide +kernel, by decide +kernel, by decide +kernel⟩
theorem kc_X1_decidedColor : Cond.code yX1_decidedColor cX1_decidedColor 2 (some .int) ∈ TG := (TG_tab 487 (by decide +kernel) rfl)
theorem kd_X1_decidedColor : hnd yX1_decidedColor 1 := ⟨by decide +kernel, by decide +kernel, by decide +kernel⟩
theorem kc_X1_decidedTotal : Cond.code yX1_decidedTotal cX1_decidedTotal 3 (some .int) ∈ TG := (TG_tab 516 (by decide +kernel) rfl)
theorem kd_X1_decidedTotal : hnd yX1_decidedTotal 0 := ⟨by decide +kernel, by decide +kernel, by decide +kernel⟩
theorem kc_X1_isAllDecided : Cond.code yX1_isAllDecided cX1_isAllDecided 1 (some .boolean) ∈ TG := (TG_tab 706 (by decide +kernel) rfl)
theorem kd_X1_isAllDecided : hnd yX1_isAllDecided 0 := ⟨by decide +kernel, by decide +kernel, by decide +kernel⟩
theorem kc_X1_decidedInLine : Cond.code yX1_decidedInLine cX1_decidedInLine 4 (some .int) ∈ TG := (TG_tab 724 (by decide +kernel) rfl)
theorem kd_X1_decidedInLine : hnd yX1_decidedInLine 1 := ⟨by decide +kernel, by decide +kernel, by decide +kernel⟩
theorem kc_X1_describePicture : Cond.code yX1_describePicture cX1_describePicture 2 none ∈ TG := (TG_tab 763 (by decide +kernel) rfl)
theorem kd_X1_describePicture : hnd yX1_describePicture 0 := ⟨by decide +kernel, by decide +kernel, by decide +kernel⟩
theorem kc_X1_describeLine : Cond.code yX1_describeLine cX1_describeLine 5 none ∈ TG := (TG_tab 767 (by decide +kernel) rfl)
theorem kd_X1_describeLine : hnd yX1_describeLine 1 := ⟨by decide +kernel, by decide +kernel, by decide +kernel⟩
theorem kc_X2_init : Cond.code yX2_init cX2_init 2 none ∈ TG := (TG_tab 79 (by decide +kernel) rfl)
theorem kd_X2_init : hnd yX2_init 0 := ⟨by decide +kernel, by decide +kernel, by decide +kernel⟩
theorem kc_X2_forget : Cond.code yX2_forget cX2_forget 1 none ∈ TG := (TG_tab 350 (by decide +kernel) rfl)
theorem kd_X2_forget : hnd yX2_forget 0 := ⟨by decide +kernel, by decide +kernel, by decide +kernel⟩
theorem kc_X2_push : Cond.code yX2_push cX2_push 2 none ∈ TG := (TG_tab 388 (by decide +kernel) rfl)
theorem kd_X2_push : hnd yX2_push 1 := ⟨by decide +kernel, by decide +kernel, by decide +kernel⟩
theorem kc_X2_pop : Cond.code yX2_pop cX2_pop 2 (some .boolean) ∈ TG := (TG_tab 826 (by decide +kernel) rfl)
theorem kd_X2_pop : hnd yX2_pop 1 := ⟨by decide +kernel, by decide +kernel, by decide +kernel⟩
theorem kc_X3_init : Cond.code yX3_init cX3_init 1 none ∈ TG := (TG_tab 99 (by decide +kernel) rfl)
theorem kd_X3_init : hnd yX3_init 0 := ⟨by decide +kernel, by decide +kernel, by decide +kernel⟩
theorem kc_X3_load : Cond.code yX3_load cX3_load 3 none ∈ TG := (TG_tab 541 (by decide +kernel) rfl)
theorem kd_X3_load : hnd yX3_load 2 := ⟨by decide +kernel, by decide +kernel, by decide +kernel⟩
theorem kc_X3_loadCandidates : Cond.code yX3_loadCandidates cX3_loadCandidates 6 none ∈ TG := (TG_tab 547 (by decide +kernel) rfl)
theorem kd_X3_loadCandidates : hnd yX3_loadCandidates 2 := ⟨by decide +kernel, by decide +kernel, by decide +kernel⟩
theorem kc_X3_loadRuns : Cond.code yX3_loadRuns cX3_loadRuns 5 none ∈ TG := (TG_tab 553 (by decide +kernel) rfl)
theorem kd_X3_loadRuns : hnd yX3_loadRuns 2 := ⟨by decide +kernel, by decide +kernel, by decide +kernel⟩
theorem kc_X3_startsOf : Cond.code yX3_startsOf cX3_startsOf 4 (some .int) ∈ TG := (TG_tab 559 (by decide +kernel) rfl)
theorem kd_X3_startsOf : hnd yX3_startsOf 2 := ⟨by decide +kernel, by decide +kernel, by decide +kernel⟩
theorem kc_X3_countWays : Cond.code yX3_countWays cX3_countWays 4 none ∈ TG := (TG_tab 563 (by decide +kernel) rfl)
theorem kd_X3_countWays : hnd yX3_countWays 0 := ⟨by decide +kernel, by decide +kernel, by decide +kernel⟩
theorem kc_X3_whiteWays : Cond.code yX3_whiteWays cX3_whiteWays 4 (some .int) ∈ TG := (TG_tab 567 (by decide +kernel) rfl)
theorem kd_X3_whiteWays : hnd yX3_whiteWays 2 := ⟨by decide +kernel, by decide +kernel, by decide +kernel⟩
theorem kc_X3_runWays : Cond.code yX3_runWays cX3_runWays 4 (some .int) ∈ TG := (TG_tab 571 (by decide +kernel) rfl)
theorem kd_X3_runWays : hnd yX3_runWays 2 := ⟨by decide +kernel, by decide +kernel, by decide +kernel⟩
theorem kc_X3_total : Cond.code yX3_total cX3_total 1 (some .int) ∈ TG := (TG_tab 575 (by decide +kernel) rfl)
theorem kd_X3_total : hnd yX3_total 0 := ⟨by decide +kernel, by decide +kernel, by decide +kernel⟩
theorem kc_X3_colorIn : Cond.code yX3_colorIn cX3_colorIn 8 (some .int) ∈ TG := (TG_tab 583 (by decide +kernel) rfl)
theorem kd_X3_colorIn : hnd yX3_colorIn 2 := ⟨by decide +kernel, by decide +kernel, by decide +kernel⟩
theorem kc_X3_solve : Cond.code yX3_solve cX3_solve 6 (some .boolean) ∈ TG := (TG_tab 592 (by decide +kernel) rfl)
theorem kd_X3_solve : hnd yX3_solve 2 := ⟨by decide +kernel, by decide +kernel, by decide +kernel⟩
theorem kc_X3_findSeen : Cond.code yX3_findSeen cX3_findSeen 4 none ∈ TG := (TG_tab 598 (by decide +kernel) rfl)
theorem kd_X3_findSeen : hnd yX3_findSeen 0 := ⟨by decide +kernel, by decide +kernel, by decide +kernel⟩
theorem kc_X3_seeRun : Cond.code yX3_seeRun cX3_seeRun 4 none ∈ TG := (TG_tab 602 (by decide +kernel) rfl)
theorem kd_X3_seeRun : hnd yX3_seeRun 2 := ⟨by decide +kernel, by decide +kernel, by decide +kernel⟩
theorem kc_X3_seenAt : Cond.code yX3_seenAt cX3_seenAt 4 (some .int) ∈ TG := (TG_tab 606 (by decide +kernel) rfl)
theorem kd_X3_seenAt : hnd yX3_seenAt 1 := ⟨by decide +kernel, by decide +kernel, by decide +kernel⟩
theorem kc_X4_init : Cond.code yX4_init cX4_init 1 none ∈ TG := (TG_tab 170 (by decide +kernel) rfl)
theorem kd_X4_init : hnd yX4_init 0 := ⟨by decide +kernel, by decide +kernel, by decide +kernel⟩
theorem kc_X4_begin : Cond.code yX4_begin cX4_begin 2 (some .boolean) ∈ TG := (TG_tab 645 (by decide +kernel) rfl)
theorem kd_X4_begin : hnd yX4_begin 1 := ⟨by decide +kernel, by decide +kernel, by decide +kernel⟩
theorem kc_X4_probeRound : Cond.code yX4_probeRound cX4_probeRound 5 (some .boolean) ∈ TG := (TG_tab 655 (by decide +kernel) rfl)
theorem kd_X4_probeRound : hnd yX4_probeRound 1 := ⟨by decide +kernel, by decide +kernel, by decide +kernel⟩
theorem kc_X4_failsWith : Cond.code yX4_failsWith cX4_failsWith 4 (some .boolean) ∈ TG := (TG_tab 662 (by decide +kernel) rfl)
theorem kd_X4_failsWith : hnd yX4_failsWith 3 := ⟨by decide +kernel, by decide +kernel, by decide +kernel⟩
theorem kc_X4_settle : Cond.code yX4_settle cX4_settle 4 (some .boolean) ∈ TG := (TG_tab 650 (by decide +kernel) rfl)
theorem kd_X4_settle : hnd yX4_settle 2 := ⟨by decide +kernel, by decide +kernel, by decide +kernel⟩
theorem kc_X5_init : Cond.code yX5_init cX5_init 1 none ∈ TG := (TG_tab 145 (by decide +kernel) rfl)
theorem kd_X5_init : hnd yX5_init 0 := ⟨by decide +kernel, by decide +kernel, by decide +kernel⟩
theorem kc_X5_settle : Cond.code yX5_settle cX5_settle 7 (some .boolean) ∈ TG := (TG_tab 627 (by decide +kernel) rfl)
theorem kd_X5_settle : hnd yX5_settle 2 := ⟨by decide +kernel, by decide +kernel, by decide +kernel⟩
theorem kc_X6_init : Cond.code yX6_init cX6_init 1 none ∈ TG := (TG_tab 195 (by decide +kernel) rfl)
theorem kd_X6_init : hnd yX6_init 0 := ⟨by decide +kernel, by decide +kernel, by decide +kernel⟩
theorem kc_X6_find : Cond.code yX6_find cX6_find 5 none ∈ TG := (TG_tab 695 (by decide +kernel) rfl)
theorem kd_X6_find : hnd yX6_find 3 := ⟨by decide +kernel, by decide +kernel, by decide +kernel⟩
theorem kc_X6_lastSolutionColor : Cond.code yX6_lastSolutionColor cX6_lastSolutionColor 2 (some .int) ∈ TG := (TG_tab 741 (by decide +kernel) rfl)
theorem kd_X6_lastSolutionColor : hnd yX6_lastSolutionColor 1 := ⟨by decide +kernel, by decide +kernel, by decide +kernel⟩
theorem kc_X6_makeNextChild : Cond.code yX6_makeNextChild cX6_makeNextChild 4 (some .boolean) ∈ TG := (TG_tab 731 (by decide +kernel) rfl)
theorem kd_X6_makeNextChild : hnd yX6_makeNextChild 0 := ⟨by decide +kernel, by decide +kernel, by decide +kernel⟩
theorem kc_X6_visit : Cond.code yX6_visit cX6_visit 2 none ∈ TG := (TG_tab 701 (by decide +kernel) rfl)
theorem kd_X6_visit : hnd yX6_visit 1 := ⟨by decide +kernel, by decide +kernel, by decide +kernel⟩
theorem kc_X6_selectCell : Cond.code yX6_selectCell cX6_selectCell 4 (some .int) ∈ TG := (TG_tab 712 (by decide +kernel) rfl)
theorem kd_X6_selectCell : hnd yX6_selectCell 0 := ⟨by decide +kernel, by decide +kernel, by decide +kernel⟩
theorem kc_X6_score : Cond.code yX6_score cX6_score 2 (some .int) ∈ TG := (TG_tab 718 (by decide +kernel) rfl)
theorem kd_X6_score : hnd yX6_score 1 := ⟨by decide +kernel, by decide +kernel, by decide +kernel⟩
theorem kc_X7_init : Cond.code yX7_init cX7_init 1 none ∈ TG := (TG_tab 260 (by decide +kernel) rfl)
theorem kd_X7_init : hnd yX7_init 0 := ⟨by decide +kernel, by decide +kernel, by decide +kernel⟩
theorem kc_X7_start : Cond.code yX7_start cX7_start 3 none ∈ TG := (TG_tab 845 (by decide +kernel) rfl)
theorem kd_X7_start : hnd yX7_start 2 := ⟨by decide +kernel, by decide +kernel, by decide +kernel⟩
theorem kc_X7_store : Cond.code yX7_store cX7_store 3 none ∈ TG := (TG_tab 862 (by decide +kernel) rfl)
theorem kd_X7_store : hnd yX7_store 2 := ⟨by decide +kernel, by decide +kernel, by decide +kernel⟩
theorem kc_X8_init : Cond.code yX8_init cX8_init 2 none ∈ TG := (TG_tab 239 (by decide +kernel) rfl)
theorem kd_X8_init : hnd yX8_init 1 := ⟨by decide +kernel, by decide +kernel, by decide +kernel⟩
theorem kc_X8_append : Cond.code yX8_append cX8_append 2 (some .boolean) ∈ TG := (TG_tab 796 (by decide +kernel) rfl)
theorem kd_X8_append : hnd yX8_append 1 := ⟨by decide +kernel, by decide +kernel, by decide +kernel⟩
theorem kc_X8_clear : Cond.code yX8_clear cX8_clear 1 none ∈ TG := (TG_tab 809 (by decide +kernel) rfl)
theorem kd_X8_clear : hnd yX8_clear 0 := ⟨by decide +kernel, by decide +kernel, by decide +kernel⟩
theorem kc_X9_init : Cond.code yX9_init cX9_init 1 none ∈ TG := (TG_tab 20 (by decide +kernel) rfl)
theorem kd_X9_init : hnd yX9_init 0 := ⟨by decide +kernel, by decide +kernel, by decide +kernel⟩
theorem kc_X9_reset : Cond.code yX9_reset cX9_reset 4 (some .int) ∈ TG := (TG_tab 343 (by decide +kernel) rfl)
theorem kd_X9_reset : hnd yX9_reset 3 := ⟨by decide +kernel, by decide +kernel, by decide +kernel⟩
theorem kc_X9_rowCount : Cond.code yX9_rowCount cX9_rowCount 1 (some .int) ∈ TG := (TG_tab 362 (by decide +kernel) rfl)
theorem kd_X9_rowCount : hnd yX9_rowCount 0 := ⟨by decide +kernel, by decide +kernel, by decide +kernel⟩
theorem kc_X9_columnCount : Cond.code yX9_columnCount cX9_columnCount 1 (some .int) ∈ TG := (TG_tab 366 (by decide +kernel) rfl)
theorem kd_X9_columnCount : hnd yX9_columnCount 0 := ⟨by decide +kernel, by decide +kernel, by decide +kernel⟩
theorem kc_X9_colorCount : Cond.code yX9_colorCount cX9_colorCount 1 (some .int) ∈ TG := (TG_tab 370 (by decide +kernel) rfl)
theorem kd_X9_colorCount : hnd yX9_colorCount 0 := ⟨by decide +kernel, by decide +kernel, by decide +kernel⟩
theorem kc_X9_addRun : Cond.code yX9_addRun cX9_addRun 4 (some .int) ∈ TG := (TG_tab 374 (by decide +kernel) rfl)
theorem kd_X9_addRun : hnd yX9_addRun 3 := ⟨by decide +kernel, by decide +kernel, by decide +kernel⟩
theorem kc_X9_clearClue : Cond.code yX9_clearClue cX9_clearClue 3 (some .int) ∈ TG := (TG_tab 416 (by decide +kernel) rfl)
theorem kd_X9_clearClue : hnd yX9_clearClue 1 := ⟨by decide +kernel, by decide +kernel, by decide +kernel⟩
theorem kc_X9_runCount : Cond.code yX9_runCount cX9_runCount 2 (some .int) ∈ TG := (TG_tab 424 (by decide +kernel) rfl)
theorem kd_X9_runCount : hnd yX9_runCount 1 := ⟨by decide +kernel, by decide +kernel, by decide +kernel⟩
theorem kc_X9_runLength : Cond.code yX9_runLength cX9_runLength 3 (some .int) ∈ TG := (TG_tab 428 (by decide +kernel) rfl)
theorem kd_X9_runLength : hnd yX9_runLength 2 := ⟨by decide +kernel, by decide +kernel, by decide +kernel⟩
theorem kc_X9_runColor : Cond.code yX9_runColor cX9_runColor 3 (some .int) ∈ TG := (TG_tab 440 (by decide +kernel) rfl)
theorem kd_X9_runColor : hnd yX9_runColor 2 := ⟨by decide +kernel, by decide +kernel, by decide +kernel⟩
theorem kc_X9_minimumLength : Cond.code yX9_minimumLength cX9_minimumLength 2 (some .int) ∈ TG := (TG_tab 448 (by decide +kernel) rfl)
theorem kd_X9_minimumLength : hnd yX9_minimumLength 1 := ⟨by decide +kernel, by decide +kernel, by decide +kernel⟩
theorem kc_X9_candidates : Cond.code yX9_candidates cX9_candidates 3 (some .int) ∈ TG := (TG_tab 461 (by decide +kernel) rfl)
theorem kd_X9_candidates : hnd yX9_candidates 2 := ⟨by decide +kernel, by decide +kernel, by decide +kernel⟩
theorem kc_X9_color : Cond.code yX9_color cX9_color 4 (some .int) ∈ TG := (TG_tab 473 (by decide +kernel) rfl)
theorem kd_X9_color : hnd yX9_color 2 := ⟨by decide +kernel, by decide +kernel, by decide +kernel⟩
theorem kc_X9_keepOnly : Cond.code yX9_keepOnly cX9_keepOnly 7 (some .int) ∈ TG := (TG_tab 491 (by decide +kernel) rfl)
theorem kd_X9_keepOnly : hnd yX9_keepOnly 3 := ⟨by decide +kernel, by decide +kernel, by decide +kernel⟩
theorem kc_X9_eliminate : Cond.code yX9_eliminate cX9_eliminate 6 (some .int) ∈ TG := (TG_tab 504 (by decide +kernel) rfl)
theorem kd_X9_eliminate : hnd yX9_eliminate 3 := ⟨by decide +kernel, by decide +kernel, by decide +kernel⟩
theorem kc_X9_decidedCount : Cond.code yX9_decidedCount cX9_decidedCount 1 (some .int) ∈ TG := (TG_tab 512 (by decide +kernel) rfl)
theorem kd_X9_decidedCount : hnd yX9_decidedCount 0 := ⟨by decide +kernel, by decide +kernel, by decide +kernel⟩
theorem kc_X9_averageCandidates : Cond.code yX9_averageCandidates cX9_averageCandidates 6 (some .int) ∈ TG := (TG_tab 525 (by decide +kernel) rfl)
theorem kd_X9_averageCandidates : hnd yX9_averageCandidates 1 := ⟨by decide +kernel, by decide +kernel, by decide +kernel⟩
theorem kc_X9_assignmentCount : Cond.code yX9_assignmentCount cX9_assignmentCount 2 (some .int) ∈ TG := (TG_tab 537 (by decide +kernel) rfl)
theorem kd_X9_assignmentCount : hnd yX9_assignmentCount 1 := ⟨by decide +kernel, by decide +kernel, by decide +kernel⟩
theorem kc_X9_assignmentColor : Cond.code yX9_assignmentColor cX9_assignmentColor 4 (some .int) ∈ TG := (TG_tab 579 (by decide +kernel) rfl)
theorem kd_X9_assignmentColor : hnd yX9_assignmentColor 3 := ⟨by decide +kernel, by decide +kernel, by decide +kernel⟩
theorem kc_X9_solveLine : Cond.code yX9_solveLine cX9_solveLine 2 (some .int) ∈ TG := (TG_tab 587 (by decide +kernel) rfl)
theorem kd_X9_solveLine : hnd yX9_solveLine 1 := ⟨by decide +kernel, by decide +kernel, by decide +kernel⟩
theorem kc_X9_propagate : Cond.code yX9_propagate cX9_propagate 1 (some .int) ∈ TG := (TG_tab 619 (by decide +kernel) rfl)
theorem kd_X9_propagate : hnd yX9_propagate 0 := ⟨by decide +kernel, by decide +kernel, by decide +kernel⟩
theorem kc_X9_passCount : Cond.code yX9_passCount cX9_passCount 1 (some .int) ∈ TG := (TG_tab 633 (by decide +kernel) rfl)
theorem kd_X9_passCount : hnd yX9_passCount 0 := ⟨by decide +kernel, by decide +kernel, by decide +kernel⟩
theorem kc_X9_probe : Cond.code yX9_probe cX9_probe 5 (some .int) ∈ TG := (TG_tab 637 (by decide +kernel) rfl)
theorem kd_X9_probe : hnd yX9_probe 3 := ⟨by decide +kernel, by decide +kernel, by decide +kernel⟩
theorem kc_X9_probeAll : Cond.code yX9_probeAll cX9_probeAll 5 (some .int) ∈ TG := (TG_tab 641 (by decide +kernel) rfl)
theorem kd_X9_probeAll : hnd yX9_probeAll 0 := ⟨by decide +kernel, by decide +kernel, by decide +kernel⟩
theorem kc_X9_contradictionLine : Cond.code yX9_contradictionLine cX9_contradictionLine 1 (some .int) ∈ TG := (TG_tab 679 (by decide +kernel) rfl)
theorem kd_X9_contradictionLine : hnd yX9_contradictionLine 0 := ⟨by decide +kernel, by decide +kernel, by decide +kernel⟩
theorem kc_X9_contradictionDepth : Cond.code yX9_contradictionDepth cX9_contradictionDepth 1 (some .int) ∈ TG := (TG_tab 683 (by decide +kernel) rfl)
theorem kd_X9_contradictionDepth : hnd yX9_contradictionDepth 0 := ⟨by decide +kernel, by decide +kernel, by decide +kernel⟩
theorem kc_X9_setRule : Cond.code yX9_setRule cX9_setRule 3 (some .int) ∈ TG := (TG_tab 687 (by decide +kernel) rfl)
theorem kd_X9_setRule : hnd yX9_setRule 1 := ⟨by decide +kernel, by decide +kernel, by decide +kernel⟩
theorem kc_X9_countSolutions : Cond.code yX9_countSolutions cX9_countSolutions 2 (some .int) ∈ TG := (TG_tab 691 (by decide +kernel) rfl)
theorem kd_X9_countSolutions : hnd yX9_countSolutions 1 := ⟨by decide +kernel, by decide +kernel, by decide +kernel⟩
theorem kc_X9_solutionColor : Cond.code yX9_solutionColor cX9_solutionColor 4 (some .int) ∈ TG := (TG_tab 737 (by decide +kernel) rfl)
theorem kd_X9_solutionColor : hnd yX9_solutionColor 3 := ⟨by decide +kernel, by decide +kernel, by decide +kernel⟩
theorem kc_X9_searchNodes : Cond.code yX9_searchNodes cX9_searchNodes 2 (some .int) ∈ TG := (TG_tab 746 (by decide +kernel) rfl)
theorem kd_X9_searchNodes : hnd yX9_searchNodes 1 := ⟨by decide +kernel, by decide +kernel, by decide +kernel⟩
theorem kc_X9_isUnique : Cond.code yX9_isUnique cX9_isUnique 1 (some .int) ∈ TG := (TG_tab 750 (by decide +kernel) rfl)
theorem kd_X9_isUnique : hnd yX9_isUnique 0 := ⟨by decide +kernel, by decide +kernel, by decide +kernel⟩
theorem kc_X9_firstMismatch : Cond.code yX9_firstMismatch cX9_firstMismatch 2 (some .int) ∈ TG := (TG_tab 754 (by decide +kernel) rfl)
theorem kd_X9_firstMismatch : hnd yX9_firstMismatch 0 := ⟨by decide +kernel, by decide +kernel, by decide +kernel⟩
theorem kc_X9_takeClues : Cond.code yX9_takeClues cX9_takeClues 1 (some .int) ∈ TG := (TG_tab 759 (by decide +kernel) rfl)
theorem kd_X9_takeClues : hnd yX9_takeClues 0 := ⟨by decide +kernel, by decide +kernel, by decide +kernel⟩
theorem kc_X9_drawPicture : Cond.code yX9_drawPicture cX9_drawPicture 7 (some .int) ∈ TG := (TG_tab 781 (by decide +kernel) rfl)
theorem kd_X9_drawPicture : hnd yX9_drawPicture 1 := ⟨by decide +kernel, by decide +kernel, by decide +kernel⟩
theorem kc_X9_clearCells : Cond.code yX9_clearCells cX9_clearCells 2 (some .int) ∈ TG := (TG_tab 787 (by decide +kernel) rfl)
theorem kd_X9_clearCells : hnd yX9_clearCells 0 := ⟨by decide +kernel, by decide +kernel, by decide +kernel⟩
theorem kc_X9_appendText : Cond.code yX9_appendText cX9_appendText 2 (some .int) ∈ TG := (TG_tab 792 (by decide +kernel) rfl)
theorem kd_X9_appendText : hnd yX9_appendText 1 := ⟨by decide +kernel, by decide +kernel, by decide +kernel⟩
theorem kc_X9_parseClues : Cond.code yX9_parseClues cX9_parseClues 2 (some .int) ∈ TG := (TG_tab 800 (by decide +kernel) rfl)
theorem kd_X9_parseClues : hnd yX9_parseClues 0 := ⟨by decide +kernel, by decide +kernel, by decide +kernel⟩
theorem kc_X9_formatClues : Cond.code yX9_formatClues cX9_formatClues 3 (some .int) ∈ TG := (TG_tab 814 (by decide +kernel) rfl)
theorem kd_X9_formatClues : hnd yX9_formatClues 0 := ⟨by decide +kernel, by decide +kernel, by decide +kernel⟩
theorem kc_X9_formattedCharacter : Cond.code yX9_formattedCharacter cX9_formattedCharacter 2 (some .int) ∈ TG := (TG_tab 818 (by decide +kernel) rfl)
theorem kd_X9_formattedCharacter : hnd yX9_formattedCharacter 1 := ⟨by decide +kernel, by decide +kernel, by decide +kernel⟩
theorem kc_X9_undo : Cond.code yX9_undo cX9_undo 1 (some .int) ∈ TG := (TG_tab 822 (by decide +kernel) rfl)
theorem kd_X9_undo : hnd yX9_undo 0 := ⟨by decide +kernel, by decide +kernel, by decide +kernel⟩
theorem kc_X9_save : Cond.code yX9_save cX9_save 1 (some .int) ∈ TG := (TG_tab 830 (by decide +kernel) rfl)
theorem kd_X9_save : hnd yX9_save 0 := ⟨by decide +kernel, by decide +kernel, by decide +kernel⟩
theorem kc_X9_restore : Cond.code yX9_restore cX9_restore 1 (some .int) ∈ TG := (TG_tab 834 (by decide +kernel) rfl)
theorem kd_X9_restore : hnd yX9_restore 0 := ⟨by decide +kernel, by decide +kernel, by decide +kernel⟩
theorem kc_X9_createTable : Cond.code yX9_createTable cX9_createTable 4 (some .int) ∈ TG := (TG_tab 838 (by decide +kernel) rfl)
theorem kd_X9_createTable : hnd yX9_createTable 3 := ⟨by decide +kernel, by decide +kernel, by decide +kernel⟩
theorem kc_X9_writeTable : Cond.code yX9_writeTable cX9_writeTable 5 (some .int) ∈ TG := (TG_tab 850 (by decide +kernel) rfl)
theorem kd_X9_writeTable : hnd yX9_writeTable 3 := ⟨by decide +kernel, by decide +kernel, by decide +kernel⟩
theorem kc_X9_readTable : Cond.code yX9_readTable cX9_readTable 4 (some .int) ∈ TG := (TG_tab 866 (by decide +kernel) rfl)
theorem kd_X9_readTable : hnd yX9_readTable 2 := ⟨by decide +kernel, by decide +kernel, by decide +kernel⟩
theorem kc_X9_exportCandidates : Cond.code yX9_exportCandidates cX9_exportCandidates 6 (some .int) ∈ TG := (TG_tab 870 (by decide +kernel) rfl)
theorem kd_X9_exportCandidates : hnd yX9_exportCandidates 1 := ⟨by decide +kernel, by decide +kernel, by decide +kernel⟩
theorem kc_X9_compareTable : Cond.code yX9_compareTable cX9_compareTable 6 (some .int) ∈ TG := (TG_tab 875 (by decide +kernel) rfl)
theorem kd_X9_compareTable : hnd yX9_compareTable 1 := ⟨by decide +kernel, by decide +kernel, by decide +kernel⟩
theorem kc_X9_undoCount : Cond.code yX9_undoCount cX9_undoCount 1 (some .int) ∈ TG := (TG_tab 879 (by decide +kernel) rfl)
theorem kd_X9_undoCount : hnd yX9_undoCount 0 := ⟨by decide +kernel, by decide +kernel, by decide +kernel⟩
theorem kc_X9_isWithin : Cond.code yX9_isWithin cX9_isWithin 3 (some .boolean) ∈ TG := (TG_tab 346 (by decide +kernel) rfl)
theorem kd_X9_isWithin : hnd yX9_isWithin 3 := ⟨by decide +kernel, by decide +kernel, by decide +kernel⟩
theorem kc_X9_hasRun : Cond.code yX9_hasRun cX9_hasRun 3 (some .boolean) ∈ TG := (TG_tab 432 (by decide +kernel) rfl)
theorem kd_X9_hasRun : hnd yX9_hasRun 2 := ⟨by decide +kernel, by decide +kernel, by decide +kernel⟩
theorem kc_X9_candidateError : Cond.code yX9_candidateError cX9_candidateError 4 (some .int) ∈ TG := (TG_tab 495 (by decide +kernel) rfl)
theorem kd_X9_candidateError : hnd yX9_candidateError 3 := ⟨by decide +kernel, by decide +kernel, by decide +kernel⟩
theorem kc_X9_otherCandidatesError : Cond.code yX9_otherCandidatesError cX9_otherCandidatesError 5 (some .int) ∈ TG := (TG_tab 508 (by decide +kernel) rfl)
theorem kd_X9_otherCandidatesError : hnd yX9_otherCandidatesError 3 := ⟨by decide +kernel, by decide +kernel, by decide +kernel⟩
theorem kc_X9_hasTable : Cond.code yX9_hasTable cX9_hasTable 1 (some .boolean) ∈ TG := (TG_tab 841 (by decide +kernel) rfl)
theorem kd_X9_hasTable : hnd yX9_hasTable 1 := ⟨by decide +kernel, by decide +kernel, by decide +kernel⟩
theorem kc_X9_tableError : Cond.code yX9_tableError cX9_tableError 2 (some .int) ∈ TG := (TG_tab 858 (by decide +kernel) rfl)
theorem kd_X9_tableError : hnd yX9_tableError 1 := ⟨by decide +kernel, by decide +kernel, by decide +kernel⟩
theorem kc_X9_elementError : Cond.code yX9_elementError cX9_elementError 4 (some .int) ∈ TG := (TG_tab 854 (by decide +kernel) rfl)
theorem kd_X9_elementError : hnd yX9_elementError 2 := ⟨by decide +kernel, by decide +kernel, by decide +kernel⟩
theorem kc_X9_commitWork : Cond.code yX9_commitWork cX9_commitWork 1 none ∈ TG := (TG_tab 615 (by decide +kernel) rfl)
theorem kd_X9_commitWork : hnd yX9_commitWork 0 := ⟨by decide +kernel, by decide +kernel, by decide +kernel⟩
theorem kc_X9_remember : Cond.code yX9_remember cX9_remember 3 (some .int) ∈ TG := (TG_tab 611 (by decide +kernel) rfl)
theorem kd_X9_remember : hnd yX9_remember 2 := ⟨by decide +kernel, by decide +kernel, by decide +kernel⟩
theorem kc_X9_forgetContradiction : Cond.code yX9_forgetContradiction cX9_forgetContradiction 1 none ∈ TG := (TG_tab 354 (by decide +kernel) rfl)
theorem kd_X9_forgetContradiction : hnd yX9_forgetContradiction 0 := ⟨by decide +kernel, by decide +kernel, by decide +kernel⟩
theorem kc_X9_parseText : Cond.code yX9_parseText cX9_parseText 6 (some .int) ∈ TG := (TG_tab 804 (by decide +kernel) rfl)
theorem kd_X9_parseText : hnd yX9_parseText 0 := ⟨by decide +kernel, by decide +kernel, by decide +kernel⟩
theorem kc_X10_init : Cond.code yX10_init cX10_init 1 none ∈ TG := (TG_tab 884 (by decide +kernel) rfl)
theorem kd_X10_init : hnd yX10_init 0 := ⟨by decide +kernel, by decide +kernel, by decide +kernel⟩
theorem kc_X10_within : Cond.code yX10_within cX10_within 4 (some .boolean) ∈ TG := (TG_tab 1059 (by decide +kernel) rfl)
theorem kd_X10_within : hnd yX10_within 3 := ⟨by decide +kernel, by decide +kernel, by decide +kernel⟩
theorem kc_X10_open : Cond.code yX10_open cX10_open 2 none ∈ TG := (TG_tab 889 (by decide +kernel) rfl)
theorem kd_X10_open : hnd yX10_open 0 := ⟨by decide +kernel, by decide +kernel, by decide +kernel⟩
theorem kc_X10_lines : Cond.code yX10_lines cX10_lines 1 (some .int) ∈ TG := (TG_tab 1063 (by decide +kernel) rfl)
theorem kd_X10_lines : hnd yX10_lines 0 := ⟨by decide +kernel, by decide +kernel, by decide +kernel⟩
theorem kc_X10_isLine : Cond.code yX10_isLine cX10_isLine 2 (some .boolean) ∈ TG := (TG_tab 1083 (by decide +kernel) rfl)
theorem kd_X10_isLine : hnd yX10_isLine 1 := ⟨by decide +kernel, by decide +kernel, by decide +kernel⟩
theorem kc_X10_isCell : Cond.code yX10_isCell cX10_isCell 3 (some .boolean) ∈ TG := (TG_tab 1127 (by decide +kernel) rfl)
theorem kd_X10_isCell : hnd yX10_isCell 2 := ⟨by decide +kernel, by decide +kernel, by decide +kernel⟩
theorem kc_X10_isColor : Cond.code yX10_isColor cX10_isColor 2 (some .boolean) ∈ TG := (TG_tab 1147 (by decide +kernel) rfl)
theorem kd_X10_isColor : hnd yX10_isColor 1 := ⟨by decide +kernel, by decide +kernel, by decide +kernel⟩
theorem kc_X10_size : Cond.code yX10_size cX10_size 2 (some .int) ∈ TG := (TG_tab 1171 (by decide +kernel) rfl)
theorem kd_X10_size : hnd yX10_size 1 := ⟨by decide +kernel, by decide +kernel, by decide +kernel⟩
theorem kc_X10_cellOf : Cond.code yX10_cellOf cX10_cellOf 3 (some .int) ∈ TG := (TG_tab 1175 (by decide +kernel) rfl)
theorem kd_X10_cellOf : hnd yX10_cellOf 2 := ⟨by decide +kernel, by decide +kernel, by decide +kernel⟩
theorem kc_X10_ones : Cond.code yX10_ones cX10_ones 4 (some .int) ∈ TG := (TG_tab 1151 (by decide +kernel) rfl)
theorem kd_X10_ones : hnd yX10_ones 1 := ⟨by decide +kernel, by decide +kernel, by decide +kernel⟩
theorem kc_X10_isDecided : Cond.code yX10_isDecided cX10_isDecided 2 (some .boolean) ∈ TG := (TG_tab 1135 (by decide +kernel) rfl)
theorem kd_X10_isDecided : hnd yX10_isDecided 1 := ⟨by decide +kernel, by decide +kernel, by decide +kernel⟩
theorem kc_X10_colorAt : Cond.code yX10_colorAt cX10_colorAt 3 (some .int) ∈ TG := (TG_tab 1139 (by decide +kernel) rfl)
theorem kd_X10_colorAt : hnd yX10_colorAt 1 := ⟨by decide +kernel, by decide +kernel, by decide +kernel⟩
theorem kc_X10_move : Cond.code yX10_move cX10_move 4 none ∈ TG := (TG_tab 1091 (by decide +kernel) rfl)
theorem kd_X10_move : hnd yX10_move 2 := ⟨by decide +kernel, by decide +kernel, by decide +kernel⟩
theorem kc_X10_keep : Cond.code yX10_keep cX10_keep 2 none ∈ TG := (TG_tab 1087 (by decide +kernel) rfl)
theorem kd_X10_keep : hnd yX10_keep 0 := ⟨by decide +kernel, by decide +kernel, by decide +kernel⟩
theorem kc_X10_undo : Cond.code yX10_undo cX10_undo 2 (some .int) ∈ TG := (TG_tab 1047 (by decide +kernel) rfl)
theorem kd_X10_undo : hnd yX10_undo 0 := ⟨by decide +kernel, by decide +kernel, by decide +kernel⟩
theorem kc_X10_undoCount : Cond.code yX10_undoCount cX10_undoCount 1 (some .int) ∈ TG := (TG_tab 1051 (by decide +kernel) rfl)
theorem kd_X10_undoCount : hnd yX10_undoCount 0 := ⟨by decide +kernel, by decide +kernel, by decide +kernel⟩
theorem kc_X10_reset : Cond.code yX10_reset cX10_reset 5 (some .int) ∈ TG := (TG_tab 1055 (by decide +kernel) rfl)
theorem kd_X10_reset : hnd yX10_reset 3 := ⟨by decide +kernel, by decide +kernel, by decide +kernel⟩
theorem kc_X10_rowCount : Cond.code yX10_rowCount cX10_rowCount 1 (some .int) ∈ TG := (TG_tab 1067 (by decide +kernel) rfl)
theorem kd_X10_rowCount : hnd yX10_rowCount 0 := ⟨by decide +kernel, by decide +kernel, by decide +kernel⟩
theorem kc_X10_columnCount : Cond.code yX10_columnCount cX10_columnCount 1 (some .int) ∈ TG := (TG_tab 1071 (by decide +kernel) rfl)
theorem kd_X10_columnCount : hnd yX10_columnCount 0 := ⟨by decide +kernel, by decide +kernel, by decide +kernel⟩
theorem kc_X10_colorCount : Cond.code yX10_colorCount cX10_colorCount 1 (some .int) ∈ TG := (TG_tab 1075 (by decide +kernel) rfl)
theorem kd_X10_colorCount : hnd yX10_colorCount 0 := ⟨by decide +kernel, by decide +kernel, by decide +kernel⟩
theorem kc_X10_push : Cond.code yX10_push cX10_push 4 none ∈ TG := (TG_tab 1095 (by decide +kernel) rfl)
theorem kd_X10_push : hnd yX10_push 3 := ⟨by decide +kernel, by decide +kernel, by decide +kernel⟩
theorem kc_X10_addRun : Cond.code yX10_addRun cX10_addRun 4 (some .int) ∈ TG := (TG_tab 1079 (by decide +kernel) rfl)
theorem kd_X10_addRun : hnd yX10_addRun 3 := ⟨by decide +kernel, by decide +kernel, by decide +kernel⟩
theorem kc_X10_clearClue : Cond.code yX10_clearClue cX10_clearClue 3 (some .int) ∈ TG := (TG_tab 1099 (by decide +kernel) rfl)
theorem kd_X10_clearClue : hnd yX10_clearClue 1 := ⟨by decide +kernel, by decide +kernel, by decide +kernel⟩
theorem kc_X10_runCount : Cond.code yX10_runCount cX10_runCount 2 (some .int) ∈ TG := (TG_tab 1103 (by decide +kernel) rfl)
theorem kd_X10_runCount : hnd yX10_runCount 1 := ⟨by decide +kernel, by decide +kernel, by decide +kernel⟩
theorem kc_X10_isRun : Cond.code yX10_isRun cX10_isRun 3 (some .boolean) ∈ TG := (TG_tab 1111 (by decide +kernel) rfl)
theorem kd_X10_isRun : hnd yX10_isRun 2 := ⟨by decide +kernel, by decide +kernel, by decide +kernel⟩
theorem kc_X10_runLength : Cond.code yX10_runLength cX10_runLength 3 (some .int) ∈ TG := (TG_tab 1107 (by decide +kernel) rfl)
theorem kd_X10_runLength : hnd yX10_runLength 2 := ⟨by decide +kernel, by decide +kernel, by decide +kernel⟩
theorem kc_X10_runColor : Cond.code yX10_runColor cX10_runColor 3 (some .int) ∈ TG := (TG_tab 1115 (by decide +kernel) rfl)
theorem kd_X10_runColor : hnd yX10_runColor 2 := ⟨by decide +kernel, by decide +kernel, by decide +kernel⟩
theorem kc_X10_minimumLength : Cond.code yX10_minimumLength cX10_minimumLength 4 (some .int) ∈ TG := (TG_tab 1119 (by decide +kernel) rfl)
theorem kd_X10_minimumLength : hnd yX10_minimumLength 1 := ⟨by decide +kernel, by decide +kernel, by decide +kernel⟩
theorem kc_X10_candidates : Cond.code yX10_candidates cX10_candidates 3 (some .int) ∈ TG := (TG_tab 1123 (by decide +kernel) rfl)
theorem kd_X10_candidates : hnd yX10_candidates 2 := ⟨by decide +kernel, by decide +kernel, by decide +kernel⟩
theorem kc_X10_color : Cond.code yX10_color cX10_color 3 (some .int) ∈ TG := (TG_tab 1131 (by decide +kernel) rfl)
theorem kd_X10_color : hnd yX10_color 2 := ⟨by decide +kernel, by decide +kernel, by decide +kernel⟩
theorem kc_X10_keepOnly : Cond.code yX10_keepOnly cX10_keepOnly 5 (some .int) ∈ TG := (TG_tab 1143 (by decide +kernel) rfl)
theorem kd_X10_keepOnly : hnd yX10_keepOnly 3 := ⟨by decide +kernel, by decide +kernel, by decide +kernel⟩
theorem kc_X10_eliminate : Cond.code yX10_eliminate cX10_eliminate 5 (some .int) ∈ TG := (TG_tab 1155 (by decide +kernel) rfl)
theorem kd_X10_eliminate : hnd yX10_eliminate 3 := ⟨by decide +kernel, by decide +kernel, by decide +kernel⟩
theorem kc_X10_decidedIn : Cond.code yX10_decidedIn cX10_decidedIn 5 (some .int) ∈ TG := (TG_tab 1163 (by decide +kernel) rfl)
theorem kd_X10_decidedIn : hnd yX10_decidedIn 1 := ⟨by decide +kernel, by decide +kernel, by decide +kernel⟩
theorem kc_X10_decidedCount : Cond.code yX10_decidedCount cX10_decidedCount 1 (some .int) ∈ TG := (TG_tab 1159 (by decide +kernel) rfl)
theorem kd_X10_decidedCount : hnd yX10_decidedCount 0 := ⟨by decide +kernel, by decide +kernel, by decide +kernel⟩
theorem kc_X10_averageCandidates : Cond.code yX10_averageCandidates cX10_averageCandidates 6 (some .int) ∈ TG := (TG_tab 1167 (by decide +kernel) rfl)
theorem kd_X10_averageCandidates : hnd yX10_averageCandidates 1 := ⟨by decide +kernel, by decide +kernel, by decide +kernel⟩
theorem kc_X10_assign : Cond.code yX10_assign cX10_assign 8 none ∈ TG := (TG_tab 1187 (by decide +kernel) rfl)
theorem kd_X10_assign : hnd yX10_assign 3 := ⟨by decide +kernel, by decide +kernel, by decide +kernel⟩
theorem kc_X10_assignAll : Cond.code yX10_assignAll cX10_assignAll 4 none ∈ TG := (TG_tab 1183 (by decide +kernel) rfl)
theorem kd_X10_assignAll : hnd yX10_assignAll 2 := ⟨by decide +kernel, by decide +kernel, by decide +kernel⟩
theorem kc_X10_assignmentCount : Cond.code yX10_assignmentCount cX10_assignmentCount 2 (some .int) ∈ TG := (TG_tab 1179 (by decide +kernel) rfl)
theorem kd_X10_assignmentCount : hnd yX10_assignmentCount 1 := ⟨by decide +kernel, by decide +kernel, by decide +kernel⟩
theorem kc_X10_assignmentColor : Cond.code yX10_assignmentColor cX10_assignmentColor 4 (some .int) ∈ TG := (TG_tab 1191 (by decide +kernel) rfl)
theorem kd_X10_assignmentColor : hnd yX10_assignmentColor 3 := ⟨by decide +kernel, by decide +kernel, by decide +kernel⟩
theorem kc_X10_solve : Cond.code yX10_solve cX10_solve 6 (some .int) ∈ TG := (TG_tab 1203 (by decide +kernel) rfl)
theorem kd_X10_solve : hnd yX10_solve 2 := ⟨by decide +kernel, by decide +kernel, by decide +kernel⟩
theorem kc_X10_spread : Cond.code yX10_spread cX10_spread 6 (some .int) ∈ TG := (TG_tab 1219 (by decide +kernel) rfl)
theorem kd_X10_spread : hnd yX10_spread 1 := ⟨by decide +kernel, by decide +kernel, by decide +kernel⟩
theorem kc_X10_copy : Cond.code yX10_copy cX10_copy 4 none ∈ TG := (TG_tab 1199 (by decide +kernel) rfl)
theorem kd_X10_copy : hnd yX10_copy 2 := ⟨by decide +kernel, by decide +kernel, by decide +kernel⟩
theorem kc_X10_contradiction : Cond.code yX10_contradiction cX10_contradiction 3 (some .int) ∈ TG := (TG_tab 1207 (by decide +kernel) rfl)
theorem kd_X10_contradiction : hnd yX10_contradiction 2 := ⟨by decide +kernel, by decide +kernel, by decide +kernel⟩
theorem kc_X10_takeOver : Cond.code yX10_takeOver cX10_takeOver 2 (some .int) ∈ TG := (TG_tab 1211 (by decide +kernel) rfl)
theorem kd_X10_takeOver : hnd yX10_takeOver 1 := ⟨by decide +kernel, by decide +kernel, by decide +kernel⟩
theorem kc_X10_solveLine : Cond.code yX10_solveLine cX10_solveLine 3 (some .int) ∈ TG := (TG_tab 1195 (by decide +kernel) rfl)
theorem kd_X10_solveLine : hnd yX10_solveLine 1 := ⟨by decide +kernel, by decide +kernel, by decide +kernel⟩
theorem kc_X10_propagate : Cond.code yX10_propagate cX10_propagate 2 (some .int) ∈ TG := (TG_tab 1215 (by decide +kernel) rfl)
theorem kd_X10_propagate : hnd yX10_propagate 0 := ⟨by decide +kernel, by decide +kernel, by decide +kernel⟩
theorem kc_X10_passCount : Cond.code yX10_passCount cX10_passCount 1 (some .int) ∈ TG := (TG_tab 1223 (by decide +kernel) rfl)
theorem kd_X10_passCount : hnd yX10_passCount 0 := ⟨by decide +kernel, by decide +kernel, by decide +kernel⟩
theorem kc_X10_fails : Cond.code yX10_fails cX10_fails 4 (some .boolean) ∈ TG := (TG_tab 1231 (by decide +kernel) rfl)
theorem kd_X10_fails : hnd yX10_fails 3 := ⟨by decide +kernel, by decide +kernel, by decide +kernel⟩
theorem kc_X10_probe : Cond.code yX10_probe cX10_probe 5 (some .int) ∈ TG := (TG_tab 1227 (by decide +kernel) rfl)
theorem kd_X10_probe : hnd yX10_probe 3 := ⟨by decide +kernel, by decide +kernel, by decide +kernel⟩
theorem kc_X10_probeRound : Cond.code yX10_probeRound cX10_probeRound 4 (some .boolean) ∈ TG := (TG_tab 1239 (by decide +kernel) rfl)
theorem kd_X10_probeRound : hnd yX10_probeRound 0 := ⟨by decide +kernel, by decide +kernel, by decide +kernel⟩
theorem kc_X10_probeAll : Cond.code yX10_probeAll cX10_probeAll 2 (some .int) ∈ TG := (TG_tab 1235 (by decide +kernel) rfl)
theorem kd_X10_probeAll : hnd yX10_probeAll 0 := ⟨by decide +kernel, by decide +kernel, by decide +kernel⟩
theorem kc_X10_contradictionLine : Cond.code yX10_contradictionLine cX10_contradictionLine 1 (some .int) ∈ TG := (TG_tab 1243 (by decide +kernel) rfl)
theorem kd_X10_contradictionLine : hnd yX10_contradictionLine 0 := ⟨by decide +kernel, by decide +kernel, by decide +kernel⟩
theorem kc_X10_contradictionDepth : Cond.code yX10_contradictionDepth cX10_contradictionDepth 1 (some .int) ∈ TG := (TG_tab 1247 (by decide +kernel) rfl)
theorem kd_X10_contradictionDepth : hnd yX10_contradictionDepth 0 := ⟨by decide +kernel, by decide +kernel, by decide +kernel⟩
theorem kc_X10_setRule : Cond.code yX10_setRule cX10_setRule 3 (some .int) ∈ TG := (TG_tab 1251 (by decide +kernel) rfl)
theorem kd_X10_setRule : hnd yX10_setRule 1 := ⟨by decide +kernel, by decide +kernel, by decide +kernel⟩
theorem kc_X10_rank : Cond.code yX10_rank cX10_rank 5 (some .int) ∈ TG := (TG_tab 1271 (by decide +kernel) rfl)
theorem kd_X10_rank : hnd yX10_rank 2 := ⟨by decide +kernel, by decide +kernel, by decide +kernel⟩
theorem kc_X10_select : Cond.code yX10_select cX10_select 6 (some .int) ∈ TG := (TG_tab 1267 (by decide +kernel) rfl)
theorem kd_X10_select : hnd yX10_select 1 := ⟨by decide +kernel, by decide +kernel, by decide +kernel⟩
theorem kc_X10_visit : Cond.code yX10_visit cX10_visit 5 none ∈ TG := (TG_tab 1263 (by decide +kernel) rfl)
theorem kd_X10_visit : hnd yX10_visit 1 := ⟨by decide +kernel, by decide +kernel, by decide +kernel⟩
theorem kc_X10_search : Cond.code yX10_search cX10_search 2 (some .boolean) ∈ TG := (TG_tab 1259 (by decide +kernel) rfl)
theorem kd_X10_search : hnd yX10_search 1 := ⟨by decide +kernel, by decide +kernel, by decide +kernel⟩
theorem kc_X10_countSolutions : Cond.code yX10_countSolutions cX10_countSolutions 2 (some .int) ∈ TG := (TG_tab 1255 (by decide +kernel) rfl)
theorem kd_X10_countSolutions : hnd yX10_countSolutions 1 := ⟨by decide +kernel, by decide +kernel, by decide +kernel⟩
theorem kc_X10_solutionColor : Cond.code yX10_solutionColor cX10_solutionColor 5 (some .int) ∈ TG := (TG_tab 1275 (by decide +kernel) rfl)
theorem kd_X10_solutionColor : hnd yX10_solutionColor 3 := ⟨by decide +kernel, by decide +kernel, by decide +kernel⟩
theorem kc_X10_searchNodes : Cond.code yX10_searchNodes cX10_searchNodes 2 (some .int) ∈ TG := (TG_tab 1279 (by decide +kernel) rfl)
theorem kd_X10_searchNodes : hnd yX10_searchNodes 1 := ⟨by decide +kernel, by decide +kernel, by decide +kernel⟩
theorem kc_X10_isUnique : Cond.code yX10_isUnique cX10_isUnique 1 (some .int) ∈ TG := (TG_tab 1283 (by decide +kernel) rfl)
theorem kd_X10_isUnique : hnd yX10_isUnique 0 := ⟨by decide +kernel, by decide +kernel, by decide +kernel⟩
theorem kc_X10_blocks : Cond.code yX10_blocks cX10_blocks 6 (some .int) ∈ TG := (TG_tab 1291 (by decide +kernel) rfl)
theorem kd_X10_blocks : hnd yX10_blocks 1 := ⟨by decide +kernel, by decide +kernel, by decide +kernel⟩
theorem kc_X10_firstMismatch : Cond.code yX10_firstMismatch cX10_firstMismatch 5 (some .int) ∈ TG := (TG_tab 1287 (by decide +kernel) rfl)
theorem kd_X10_firstMismatch : hnd yX10_firstMismatch 0 := ⟨by decide +kernel, by decide +kernel, by decide +kernel⟩
theorem kc_X10_take : Cond.code yX10_take cX10_take 5 (some .int) ∈ TG := (TG_tab 1299 (by decide +kernel) rfl)
theorem kd_X10_take : hnd yX10_take 0 := ⟨by decide +kernel, by decide +kernel, by decide +kernel⟩
theorem kc_X10_takeClues : Cond.code yX10_takeClues cX10_takeClues 1 (some .int) ∈ TG := (TG_tab 1295 (by decide +kernel) rfl)
theorem kd_X10_takeClues : hnd yX10_takeClues 0 := ⟨by decide +kernel, by decide +kernel, by decide +kernel⟩
theorem kc_X10_drawPicture : Cond.code yX10_drawPicture cX10_drawPicture 7 (some .int) ∈ TG := (TG_tab 1303 (by decide +kernel) rfl)
theorem kd_X10_drawPicture : hnd yX10_drawPicture 1 := ⟨by decide +kernel, by decide +kernel, by decide +kernel⟩
theorem kc_X10_clearCells : Cond.code yX10_clearCells cX10_clearCells 2 (some .int) ∈ TG := (TG_tab 1308 (by decide +kernel) rfl)
theorem kd_X10_clearCells : hnd yX10_clearCells 0 := ⟨by decide +kernel, by decide +kernel, by decide +kernel⟩
theorem kc_X10_appendText : Cond.code yX10_appendText cX10_appendText 2 (some .int) ∈ TG := (TG_tab 1312 (by decide +kernel) rfl)
theorem kd_X10_appendText : hnd yX10_appendText 1 := ⟨by decide +kernel, by decide +kernel, by decide +kernel⟩
theorem kc_X10_read : Cond.code yX10_read cX10_read 6 (some .int) ∈ TG := (TG_tab 1320 (by decide +kernel) rfl)
theorem kd_X10_read : hnd yX10_read 1 := ⟨by decide +kernel, by decide +kernel, by decide +kernel⟩
theorem kc_X10_parseClues : Cond.code yX10_parseClues cX10_parseClues 5 (some .int) ∈ TG := (TG_tab 1316 (by decide +kernel) rfl)
theorem kd_X10_parseClues : hnd yX10_parseClues 0 := ⟨by decide +kernel, by decide +kernel, by decide +kernel⟩
theorem kc_X10_say : Cond.code yX10_say cX10_say 2 none ∈ TG := (TG_tab 1328 (by decide +kernel) rfl)
theorem kd_X10_say : hnd yX10_say 1 := ⟨by decide +kernel, by decide +kernel, by decide +kernel⟩
theorem kc_X10_formatClues : Cond.code yX10_formatClues cX10_formatClues 3 (some .int) ∈ TG := (TG_tab 1324 (by decide +kernel) rfl)
theorem kd_X10_formatClues : hnd yX10_formatClues 0 := ⟨by decide +kernel, by decide +kernel, by decide +kernel⟩
theorem kc_X10_formattedCharacter : Cond.code yX10_formattedCharacter cX10_formattedCharacter 2 (some .int) ∈ TG := (TG_tab 1332 (by decide +kernel) rfl)
theorem kd_X10_formattedCharacter : hnd yX10_formattedCharacter 1 := ⟨by decide +kernel, by decide +kernel, by decide +kernel⟩
theorem kc_X10_save : Cond.code yX10_save cX10_save 2 (some .int) ∈ TG := (TG_tab 1336 (by decide +kernel) rfl)
theorem kd_X10_save : hnd yX10_save 0 := ⟨by decide +kernel, by decide +kernel, by decide +kernel⟩
theorem kc_X10_restore : Cond.code yX10_restore cX10_restore 2 (some .int) ∈ TG := (TG_tab 1340 (by decide +kernel) rfl)
theorem kd_X10_restore : hnd yX10_restore 0 := ⟨by decide +kernel, by decide +kernel, by decide +kernel⟩
theorem kc_X10_isTable : Cond.code yX10_isTable cX10_isTable 2 (some .boolean) ∈ TG := (TG_tab 1348 (by decide +kernel) rfl)
theorem kd_X10_isTable : hnd yX10_isTable 1 := ⟨by decide +kernel, by decide +kernel, by decide +kernel⟩
theorem kc_X10_createTable : Cond.code yX10_createTable cX10_createTable 5 (some .int) ∈ TG := (TG_tab 1344 (by decide +kernel) rfl)
theorem kd_X10_createTable : hnd yX10_createTable 3 := ⟨by decide +kernel, by decide +kernel, by decide +kernel⟩
theorem kc_X10_lay : Cond.code yX10_lay cX10_lay 4 none ∈ TG := (TG_tab 1356 (by decide +kernel) rfl)
theorem kd_X10_lay : hnd yX10_lay 3 := ⟨by decide +kernel, by decide +kernel, by decide +kernel⟩
theorem kc_X10_writeTable : Cond.code yX10_writeTable cX10_writeTable 4 (some .int) ∈ TG := (TG_tab 1352 (by decide +kernel) rfl)
theorem kd_X10_writeTable : hnd yX10_writeTable 3 := ⟨by decide +kernel, by decide +kernel, by decide +kernel⟩
theorem kc_X10_readTable : Cond.code yX10_readTable cX10_readTable 3 (some .int) ∈ TG := (TG_tab 1360 (by decide +kernel) rfl)
theorem kd_X10_readTable : hnd yX10_readTable 2 := ⟨by decide +kernel, by decide +kernel, by decide +kernel⟩
theorem kc_X10_cellAt : Cond.code yX10_cellAt cX10_cellAt 2 (some .int) ∈ TG := (TG_tab 1368 (by decide +kernel) rfl)
theorem kd_X10_cellAt : hnd yX10_cellAt 1 := ⟨by decide +kernel, by decide +kernel, by decide +kernel⟩
theorem kc_X10_exportCandidates : Cond.code yX10_exportCandidates cX10_exportCandidates 4 (some .int) ∈ TG := (TG_tab 1364 (by decide +kernel) rfl)
theorem kd_X10_exportCandidates : hnd yX10_exportCandidates 1 := ⟨by decide +kernel, by decide +kernel, by decide +kernel⟩
theorem kc_X10_compareTable : Cond.code yX10_compareTable cX10_compareTable 3 (some .int) ∈ TG := (TG_tab 1372 (by decide +kernel) rfl)
theorem kd_X10_compareTable : hnd yX10_compareTable 1 := ⟨by decide +kernel, by decide +kernel, by decide +kernel⟩
theorem kc_J6_bitCount_0f7a4 : Cond.code yJ6_bitCount_0f7a4 cJ6_bitCount_0f7a4 1 (some .int) ∈ TG := (TG_tab 480 (by decide +kernel) rfl)
theorem kd_J6_bitCount_0f7a4 : hnd yJ6_bitCount_0f7a4 1 := ⟨by decide +kernel, by decide +kernel, by decide +kernel⟩
theorem kc_J9_max_7cf53 : Cond.code yJ9_max_7cf53 cJ9_max_7cf53 2 (some .int) ∈ TG := (TG_tab 243 (by decide +kernel) rfl)
theorem kd_J9_max_7cf53 : hnd yJ9_max_7cf53 2 := ⟨by decide +kernel, by decide +kernel, by decide +kernel⟩
theorem kc_J9_min_7cf53 : Cond.code yJ9_min_7cf53 cJ9_min_7cf53 2 (some .int) ∈ TG := (TG_tab 403 (by decide +kernel) rfl)
theorem kd_J9_min_7cf53 : hnd yJ9_min_7cf53 2 := ⟨by decide +kernel, by decide +kernel, by decide +kernel⟩
theorem kc_J7_fill_53178 : Cond.code yJ7_fill_53178 cJ7_fill_53178 4 none ∈ TG := (TG_tab 285 (by decide +kernel) rfl)
theorem kd_J7_fill_53178 : hnd yJ7_fill_53178 2 := ⟨by decide +kernel, by decide +kernel, by decide +kernel⟩
theorem fl_X0_9 : FL RX0 9 0 0 := ⟨RX0, TX0, 3, rfl, by decide, in_X0, Or.inl (TG_tab 36 (by decide +kernel) rfl)⟩
theorem fl_X0_15 : FL RX0 15 0 1 := ⟨RX0, TX0, 3, rfl, by decide, in_X0, Or.inl (TG_tab 37 (by decide +kernel) rfl)⟩
theorem fl_X0_18 : FL RX0 18 0 2 := ⟨RX0, TX0, 3, rfl, by decide, in_X0, Or.inl (TG_tab 38 (by decide +kernel) rfl)⟩
theorem lk_X0_21 : LkV RX0 21 yX0_lengthOf cX0_lengthOf 3 (some .int) 2 := LkV.of (TG_tab 453 (by decide +kernel) rfl) (TG_tab 434 (by decide +kernel) rfl) (TG_tab 435 (by decide +kernel) rfl) (TG_tab 3 (by decide +kernel) rfl) kc_X0_lengthOf kd_X0_lengthOf
theorem lk_X0_25 : LkV RX0 25 yX0_needsGapBehind cX0_needsGapBehind 4 (some .boolean) 2 := LkV.of (TG_tab 454 (by decide +kernel) rfl) (TG_tab 455 (by decide +kernel) rfl) (TG_tab 456 (by decide +kernel) rfl) (TG_tab 3 (by decide +kernel) rfl) kc_X0_needsGapBehind kd_X0_needsGapBehind
theorem lk_X0_29 : LkV RX0 29 yX0_isFull cX0_isFull 2 (some .boolean) 1 := LkV.of (TG_tab 408 (by decide +kernel) rfl) (TG_tab 382 (by decide +kernel) rfl) (TG_tab 383 (by decide +kernel) rfl) (TG_tab 3 (by decide +kernel) rfl) kc_X0_isFull kd_X0_isFull
theorem lk_X0_33 : LkS RX0 33 yJ7_fill_53178 cJ7_fill_53178 4 none 2 := LkS.of (TG_tab 283 (by decide +kernel) rfl) (TG_tab 284 (by decide +kernel) rfl) (TG_tab 12 (by decide +kernel) rfl) kc_J7_fill_53178 kd_J7_fill_53178
theorem lc_X0_39 : LC RX0 39 := ⟨(TG_tab 397 (by decide +kernel) rfl), (TG_tab 399 (by decide +kernel) rfl), (TG_tab 398 (by decide +kernel) rfl), (TG_tab 14 (by decide +kernel) rfl)⟩
theorem fp_X1_9 : FP RX1 9 1 0 .int := ⟨RX1, TX1, 5, tyX1, rfl, by decide, in_X1, Or.inl (TG_tab 47 (by decide +kernel) rfl), tyX1_ok, nmX1, rfl, by decide +kernel⟩
theorem fp_X1_15 : FP RX1 15 1 1 .int := ⟨RX1, TX1, 5, tyX1, rfl, by decide, in_X1, Or.inl (TG_tab 50 (by decide +kernel) rfl), tyX1_ok, nmX1, rfl, by decide +kernel⟩
theorem fp_X1_18 : FP RX1 18 1 2 .int := ⟨RX1, TX1, 5, tyX1, rfl, by decide, in_X1, Or.inl (TG_tab 52 (by decide +kernel) rfl), tyX1_ok, nmX1, rfl, by decide +kernel⟩
theorem lk_X1_23 : LkI RX1 23 yX0_init cX0_init 1 0 := LkI.of (Or.inr ⟨"NonogramSolver", List.mem_of_getElem? (i := 32) (by decide +kernel)⟩) (TG_tab 33 (by decide +kernel) rfl) (TG_tab 3 (by decide +kernel) rfl) kc_X0_init rfl kd_X0_init
theorem fl_X1_24 : FL RX1 24 1 3 := ⟨RX1, TX1, 5, rfl, by decide, in_X1, Or.inl (TG_tab 56 (by decide +kernel) rfl)⟩
theorem lk_X1_32 : LkV RX1 32 yX0_emptyAll cX0_emptyAll 1 none 0 := LkV.of (TG_tab 279 (by decide +kernel) rfl) (TG_tab 280 (by decide +kernel) rfl) (TG_tab 281 (by decide +kernel) rfl) (TG_tab 3 (by decide +kernel) rfl) kc_X0_emptyAll kd_X0_emptyAll
theorem lk_X1_35 : LkV RX1 35 yX1_fillCandidates cX1_fillCandidates 1 none 0 := LkV.of (TG_tab 286 (by decide +kernel) rfl) (TG_tab 287 (by decide +kernel) rfl) (TG_tab 288 (by decide +kernel) rfl) (TG_tab 2 (by decide +kernel) rfl) kc_X1_fillCandidates kd_X1_fillCandidates
theorem fl_X1_28 : FL RX1 28 1 4 := ⟨RX1, TX1, 5, rfl, by decide, in_X1, Or.inl (TG_tab 59 (by decide +kernel) rfl)⟩
theorem fl_X1_18 : FL RX1 18 1 2 := ⟨RX1, TX1, 5, rfl, by decide, in_X1, Or.inl (TG_tab 52 (by decide +kernel) rfl)⟩
theorem lk_X1_38 : LkS RX1 38 yJ7_fill_53178 cJ7_fill_53178 4 none 2 := LkS.of (TG_tab 290 (by decide +kernel) rfl) (TG_tab 284 (by decide +kernel) rfl) (TG_tab 12 (by decide +kernel) rfl) kc_J7_fill_53178 kd_J7_fill_53178
theorem fl_X1_9 : FL RX1 9 1 0 := ⟨RX1, TX1, 5, rfl, by decide, in_X1, Or.inl (TG_tab 47 (by decide +kernel) rfl)⟩
theorem fl_X1_15 : FL RX1 15 1 1 := ⟨RX1, TX1, 5, rfl, by decide, in_X1, Or.inl (TG_tab 50 (by decide +kernel) rfl)⟩
theorem lk_X1_44 : LkV RX1 44 yX0_copyFrom cX0_copyFrom 2 none 1 := LkV.of (TG_tab 393 (by decide +kernel) rfl) (TG_tab 394 (by decide +kernel) rfl) (TG_tab 395 (by decide +kernel) rfl) (TG_tab 3 (by decide +kernel) rfl) kc_X0_copyFrom kd_X0_copyFrom
theorem lc_X1_48 : LC RX1 48 := ⟨(TG_tab 400 (by decide +kernel) rfl), (TG_tab 399 (by decide +kernel) rfl), (TG_tab 398 (by decide +kernel) rfl), (TG_tab 14 (by decide +kernel) rfl)⟩
theorem lk_X1_54 : LkV RX1 54 yX1_lineTotal cX1_lineTotal 1 (some .int) 0 := LkV.of (TG_tab 379 (by decide +kernel) rfl) (TG_tab 356 (by decide +kernel) rfl) (TG_tab 357 (by decide +kernel) rfl) (TG_tab 2 (by decide +kernel) rfl) kc_X1_lineTotal kd_X1_lineTotal
theorem lk_X1_58 : LkSN RX1 58 yX9_isWithin cX9_isWithin 3 (some .boolean) 3 := LkSN.of (host := "NonogramSolver") (List.mem_of_getElem? (i := 380) (by decide +kernel)) (TG_tab 345 (by decide +kernel) rfl) (TG_tab 1 (by decide +kernel) rfl) kc_X9_isWithin kd_X9_isWithin
theorem lk_X1_62 : LkV RX1 62 yX1_rowLine cX1_rowLine 2 (some .int) 1 := LkV.of (TG_tab 668 (by decide +kernel) rfl) (TG_tab 669 (by decide +kernel) rfl) (TG_tab 670 (by decide +kernel) rfl) (TG_tab 2 (by decide +kernel) rfl) kc_X1_rowLine kd_X1_rowLine
theorem lk_X1_66 : LkV RX1 66 yX1_columnLine cX1_columnLine 2 (some .int) 1 := LkV.of (TG_tab 672 (by decide +kernel) rfl) (TG_tab 673 (by decide +kernel) rfl) (TG_tab 674 (by decide +kernel) rfl) (TG_tab 2 (by decide +kernel) rfl) kc_X1_columnLine kd_X1_columnLine
theorem lk_X1_69 : LkS RX1 69 yJ6_bitCount_0f7a4 cJ6_bitCount_0f7a4 1 (some .int) 1 := LkS.of (TG_tab 478 (by decide +kernel) rfl) (TG_tab 479 (by decide +kernel) rfl) (TG_tab 15 (by decide +kernel) rfl) kc_J6_bitCount_0f7a4 kd_J6_bitCount_0f7a4
theorem lk_X1_74 : LkV RX1 74 yX1_cellTotal cX1_cellTotal 1 (some .int) 0 := LkV.of (TG_tab 517 (by decide +kernel) rfl) (TG_tab 518 (by decide +kernel) rfl) (TG_tab 519 (by decide +kernel) rfl) (TG_tab 2 (by decide +kernel) rfl) kc_X1_cellTotal kd_X1_cellTotal
theorem lk_X1_77 : LkV RX1 77 yX1_isDecided cX1_isDecided 2 (some .boolean) 1 := LkV.of (TG_tab 521 (by decide +kernel) rfl) (TG_tab 475 (by decide +kernel) rfl) (TG_tab 476 (by decide +kernel) rfl) (TG_tab 2 (by decide +kernel) rfl) kc_X1_isDecided kd_X1_isDecided
theorem lk_X1_81 : LkV RX1 81 yX1_decidedTotal cX1_decidedTotal 3 (some .int) 0 := LkV.of (TG_tab 707 (by decide +kernel) rfl) (TG_tab 514 (by decide +kernel) rfl) (TG_tab 515 (by decide +kernel) rfl) (TG_tab 2 (by decide +kernel) rfl) kc_X1_decidedTotal kd_X1_decidedTotal
theorem lk_X1_84 : LkV RX1 84 yX1_lineLength cX1_lineLength 2 (some .int) 1 := LkV.of (TG_tab 725 (by decide +kernel) rfl) (TG_tab 527 (by decide +kernel) rfl) (TG_tab 528 (by decide +kernel) rfl) (TG_tab 2 (by decide +kernel) rfl) kc_X1_lineLength kd_X1_lineLength
theorem lk_X1_87 : LkV RX1 87 yX1_lineCell cX1_lineCell 3 (some .int) 2 := LkV.of (TG_tab 726 (by decide +kernel) rfl) (TG_tab 531 (by decide +kernel) rfl) (TG_tab 532 (by decide +kernel) rfl) (TG_tab 2 (by decide +kernel) rfl) kc_X1_lineCell kd_X1_lineCell
theorem lk_X1_91 : LkV RX1 91 yX1_describeLine cX1_describeLine 5 none 1 := LkV.of (TG_tab 764 (by decide +kernel) rfl) (TG_tab 766 (by decide +kernel) rfl) (TG_sel (q := (yX1_describeLine, 5)) 20 (by decide +kernel)) (TG_tab 2 (by decide +kernel) rfl) kc_X1_describeLine kd_X1_describeLine
theorem lk_X1_95 : LkV RX1 95 yX1_decidedColor cX1_decidedColor 2 (some .int) 1 := LkV.of (TG_tab 768 (by decide +kernel) rfl) (TG_tab 485 (by decide +kernel) rfl) (TG_tab 486 (by decide +kernel) rfl) (TG_tab 2 (by decide +kernel) rfl) kc_X1_decidedColor kd_X1_decidedColor
theorem lk_X1_98 : LkV RX1 98 yX0_lengthenLast cX0_lengthenLast 2 none 1 := LkV.of (TG_tab 769 (by decide +kernel) rfl) (TG_tab 770 (by decide +kernel) rfl) (TG_tab 771 (by decide +kernel) rfl) (TG_tab 3 (by decide +kernel) rfl) kc_X0_lengthenLast kd_X0_lengthenLast
theorem lk_X1_101 : LkV RX1 101 yX0_append cX0_append 5 none 3 := LkV.of (TG_tab 773 (by decide +kernel) rfl) (TG_tab 405 (by decide +kernel) rfl) (TG_tab 406 (by decide +kernel) rfl) (TG_tab 3 (by decide +kernel) rfl) kc_X0_append kd_X0_append
theorem fp_X2_17 : FP RX2 17 2 1 .int := ⟨RX2, TX2, 3, tyX2, rfl, by decide, in_X2, Or.inl (TG_tab 85 (by decide +kernel) rfl), tyX2_ok, nmX2, rfl, by decide +kernel⟩
theorem fp_X2_21 : FP RX2 21 2 2 .int := ⟨RX2, TX2, 3, tyX2, rfl, by decide, in_X2, Or.inl (TG_tab 86 (by decide +kernel) rfl), tyX2_ok, nmX2, rfl, by decide +kernel⟩
theorem fl_X2_11 : FL RX2 11 2 0 := ⟨RX2, TX2, 3, rfl, by decide, in_X2, Or.inl (TG_tab 84 (by decide +kernel) rfl)⟩
theorem lk_X2_24 : LkI RX2 24 yX1_init cX1_init 1 0 := LkI.of (Or.inr ⟨"NonogramSolver", List.mem_of_getElem? (i := 83) (by decide +kernel)⟩) (TG_tab 27 (by decide +kernel) rfl) (TG_tab 2 (by decide +kernel) rfl) kc_X1_init rfl kd_X1_init
theorem fl_X2_17 : FL RX2 17 2 1 := ⟨RX2, TX2, 3, rfl, by decide, in_X2, Or.inl (TG_tab 85 (by decide +kernel) rfl)⟩
theorem lk_X2_25 : LkV RX2 25 yX1_copyFrom cX1_copyFrom 2 none 1 := LkV.of (TG_tab 389 (by decide +kernel) rfl) (TG_tab 390 (by decide +kernel) rfl) (TG_tab 391 (by decide +kernel) rfl) (TG_tab 2 (by decide +kernel) rfl) kc_X1_copyFrom kd_X1_copyFrom
theorem fl_X2_21 : FL RX2 21 2 2 := ⟨RX2, TX2, 3, rfl, by decide, in_X2, Or.inl (TG_tab 86 (by decide +kernel) rfl)⟩
theorem lk_X2_29 : LkS RX2 29 yJ9_min_7cf53 cJ9_min_7cf53 2 (some .int) 2 := LkS.of (TG_tab 401 (by decide +kernel) rfl) (TG_tab 402 (by decide +kernel) rfl) (TG_tab 10 (by decide +kernel) rfl) kc_J9_min_7cf53 kd_J9_min_7cf53
theorem fp_X3_9 : FP RX3 9 3 0 .int := ⟨RX3, TX3, 12, tyX3, rfl, by decide, in_X3, Or.inl (TG_tab 101 (by decide +kernel) rfl), tyX3_ok, nmX3, rfl, by decide +kernel⟩
theorem fp_X3_15 : FP RX3 15 3 1 .int := ⟨RX3, TX3, 12, tyX3, rfl, by decide, in_X3, Or.inl (TG_tab 102 (by decide +kernel) rfl), tyX3_ok, nmX3, rfl, by decide +kernel⟩
theorem fp_X3_43 : FP RX3 43 3 10 .int := ⟨RX3, TX3, 12, tyX3, rfl, by decide, in_X3, Or.inl (TG_tab 111 (by decide +kernel) rfl), tyX3_ok, nmX3, rfl, by decide +kernel⟩
theorem fp_X3_46 : FP RX3 46 3 11 .int := ⟨RX3, TX3, 12, tyX3, rfl, by decide, in_X3, Or.inl (TG_tab 114 (by decide +kernel) rfl), tyX3_ok, nmX3, rfl, by decide +kernel⟩
theorem lk_X3_49 : LkV RX3 49 yX1_lineLength cX1_lineLength 2 (some .int) 1 := LkV.of (TG_tab 542 (by decide +kernel) rfl) (TG_tab 527 (by decide +kernel) rfl) (TG_tab 528 (by decide +kernel) rfl) (TG_tab 2 (by decide +kernel) rfl) kc_X1_lineLength kd_X1_lineLength
theorem fl_X3_55 : FL RX3 55 1 3 := ⟨RX1, TX1, 5, rfl, by decide, in_X1, Or.inr ⟨"NonogramSolver", List.mem_of_getElem? (i := 57) (by decide +kernel)⟩⟩
theorem lk_X3_59 : LkV RX3 59 yX0_runsOf cX0_runsOf 2 (some .int) 1 := LkV.of (TG_tab 543 (by decide +kernel) rfl) (TG_tab 410 (by decide +kernel) rfl) (TG_tab 411 (by decide +kernel) rfl) (TG_tab 3 (by decide +kernel) rfl) kc_X0_runsOf kd_X0_runsOf
theorem lk_X3_64 : LkV RX3 64 yX3_loadCandidates cX3_loadCandidates 6 none 2 := LkV.of (TG_tab 544 (by decide +kernel) rfl) (TG_tab 546 (by decide +kernel) rfl) (TG_sel (q := (yX3_loadCandidates, 12)) 4 (by decide +kernel)) (TG_tab 5 (by decide +kernel) rfl) kc_X3_loadCandidates kd_X3_loadCandidates
theorem lk_X3_68 : LkV RX3 68 yX3_loadRuns cX3_loadRuns 5 none 2 := LkV.of (TG_tab 550 (by decide +kernel) rfl) (TG_tab 552 (by decide +kernel) rfl) (TG_sel (q := (yX3_loadRuns, 12)) 5 (by decide +kernel)) (TG_tab 5 (by decide +kernel) rfl) kc_X3_loadRuns kd_X3_loadRuns
theorem lk_X3_72 : LkV RX3 72 yX3_countWays cX3_countWays 4 none 0 := LkV.of (TG_tab 560 (by decide +kernel) rfl) (TG_tab 562 (by decide +kernel) rfl) (TG_sel (q := (yX3_countWays, 12)) 6 (by decide +kernel)) (TG_tab 5 (by decide +kernel) rfl) kc_X3_countWays kd_X3_countWays
theorem fl_X3_31 : FL RX3 31 3 6 := ⟨RX3, TX3, 12, rfl, by decide, in_X3, Or.inl (TG_tab 107 (by decide +kernel) rfl)⟩
theorem lk_X3_75 : LkS RX3 75 yJ7_fill_53178 cJ7_fill_53178 4 none 2 := LkS.of (TG_tab 548 (by decide +kernel) rfl) (TG_tab 284 (by decide +kernel) rfl) (TG_tab 12 (by decide +kernel) rfl) kc_J7_fill_53178 kd_J7_fill_53178
theorem fl_X3_9 : FL RX3 9 3 0 := ⟨RX3, TX3, 12, rfl, by decide, in_X3, Or.inl (TG_tab 101 (by decide +kernel) rfl)⟩
theorem fl_X3_81 : FL RX3 81 1 4 := ⟨RX1, TX1, 5, rfl, by decide, in_X1, Or.inr ⟨"NonogramSolver", List.mem_of_getElem? (i := 60) (by decide +kernel)⟩⟩
theorem lk_X3_84 : LkV RX3 84 yX1_lineCell cX1_lineCell 3 (some .int) 2 := LkV.of (TG_tab 549 (by decide +kernel) rfl) (TG_tab 531 (by decide +kernel) rfl) (TG_tab 532 (by decide +kernel) rfl) (TG_tab 2 (by decide +kernel) rfl) kc_X1_lineCell kd_X1_lineCell
theorem fl_X3_15 : FL RX3 15 3 1 := ⟨RX3, TX3, 12, rfl, by decide, in_X3, Or.inl (TG_tab 102 (by decide +kernel) rfl)⟩
theorem lk_X3_88 : LkV RX3 88 yX0_needsGapBehind cX0_needsGapBehind 4 (some .boolean) 2 := LkV.of (TG_tab 554 (by decide +kernel) rfl) (TG_tab 455 (by decide +kernel) rfl) (TG_tab 456 (by decide +kernel) rfl) (TG_tab 3 (by decide +kernel) rfl) kc_X0_needsGapBehind kd_X0_needsGapBehind
theorem fl_X3_18 : FL RX3 18 3 2 := ⟨RX3, TX3, 12, rfl, by decide, in_X3, Or.inl (TG_tab 103 (by decide +kernel) rfl)⟩
theorem lk_X3_92 : LkV RX3 92 yX0_lengthOf cX0_lengthOf 3 (some .int) 2 := LkV.of (TG_tab 555 (by decide +kernel) rfl) (TG_tab 434 (by decide +kernel) rfl) (TG_tab 435 (by decide +kernel) rfl) (TG_tab 3 (by decide +kernel) rfl) kc_X0_lengthOf kd_X0_lengthOf
theorem fl_X3_22 : FL RX3 22 3 3 := ⟨RX3, TX3, 12, rfl, by decide, in_X3, Or.inl (TG_tab 104 (by decide +kernel) rfl)⟩
theorem lk_X3_95 : LkV RX3 95 yX0_colorOf cX0_colorOf 3 (some .int) 2 := LkV.of (TG_tab 556 (by decide +kernel) rfl) (TG_tab 442 (by decide +kernel) rfl) (TG_tab 443 (by decide +kernel) rfl) (TG_tab 3 (by decide +kernel) rfl) kc_X0_colorOf kd_X0_colorOf
theorem fl_X3_25 : FL RX3 25 3 4 := ⟨RX3, TX3, 12, rfl, by decide, in_X3, Or.inl (TG_tab 105 (by decide +kernel) rfl)⟩
theorem fl_X3_28 : FL RX3 28 3 5 := ⟨RX3, TX3, 12, rfl, by decide, in_X3, Or.inl (TG_tab 106 (by decide +kernel) rfl)⟩
theorem lk_X3_98 : LkS RX3 98 yX3_startsOf cX3_startsOf 4 (some .int) 2 := LkS.of (TG_tab 557 (by decide +kernel) rfl) (TG_tab 558 (by decide +kernel) rfl) (TG_tab 5 (by decide +kernel) rfl) kc_X3_startsOf kd_X3_startsOf
theorem fl_X3_40 : FL RX3 40 3 9 := ⟨RX3, TX3, 12, rfl, by decide, in_X3, Or.inl (TG_tab 110 (by decide +kernel) rfl)⟩
theorem lk_X3_101 : LkV RX3 101 yX3_whiteWays cX3_whiteWays 4 (some .int) 2 := LkV.of (TG_tab 564 (by decide +kernel) rfl) (TG_tab 566 (by decide +kernel) rfl) (TG_sel (q := (yX3_whiteWays, 12)) 7 (by decide +kernel)) (TG_tab 5 (by decide +kernel) rfl) kc_X3_whiteWays kd_X3_whiteWays
theorem lk_X3_104 : LkV RX3 104 yX3_runWays cX3_runWays 4 (some .int) 2 := LkV.of (TG_tab 568 (by decide +kernel) rfl) (TG_tab 570 (by decide +kernel) rfl) (TG_sel (q := (yX3_runWays, 12)) 8 (by decide +kernel)) (TG_tab 5 (by decide +kernel) rfl) kc_X3_runWays kd_X3_runWays
theorem lk_X3_107 : LkV RX3 107 yX3_load cX3_load 3 none 2 := LkV.of (TG_tab 593 (by decide +kernel) rfl) (TG_tab 539 (by decide +kernel) rfl) (TG_tab 540 (by decide +kernel) rfl) (TG_tab 5 (by decide +kernel) rfl) kc_X3_load kd_X3_load
theorem lk_X3_110 : LkV RX3 110 yX3_total cX3_total 1 (some .int) 0 := LkV.of (TG_tab 594 (by decide +kernel) rfl) (TG_tab 573 (by decide +kernel) rfl) (TG_tab 574 (by decide +kernel) rfl) (TG_tab 5 (by decide +kernel) rfl) kc_X3_total kd_X3_total
theorem lk_X3_114 : LkV RX3 114 yX3_findSeen cX3_findSeen 4 none 0 := LkV.of (TG_tab 595 (by decide +kernel) rfl) (TG_tab 597 (by decide +kernel) rfl) (TG_sel (q := (yX3_findSeen, 12)) 9 (by decide +kernel)) (TG_tab 5 (by decide +kernel) rfl) kc_X3_findSeen kd_X3_findSeen
theorem lk_X3_117 : LkV RX3 117 yX3_seenAt cX3_seenAt 4 (some .int) 1 := LkV.of (TG_tab 603 (by decide +kernel) rfl) (TG_tab 605 (by decide +kernel) rfl) (TG_sel (q := (yX3_seenAt, 12)) 11 (by decide +kernel)) (TG_tab 5 (by decide +kernel) rfl) kc_X3_seenAt kd_X3_seenAt
theorem fl_X3_43 : FL RX3 43 3 10 := ⟨RX3, TX3, 12, rfl, by decide, in_X3, Or.inl (TG_tab 111 (by decide +kernel) rfl)⟩
theorem lk_X3_120 : LkS RX3 120 yJ6_bitCount_0f7a4 cJ6_bitCount_0f7a4 1 (some .int) 1 := LkS.of (TG_tab 607 (by decide +kernel) rfl) (TG_tab 479 (by decide +kernel) rfl) (TG_tab 15 (by decide +kernel) rfl) kc_J6_bitCount_0f7a4 kd_J6_bitCount_0f7a4
theorem fl_X3_46 : FL RX3 46 3 11 := ⟨RX3, TX3, 12, rfl, by decide, in_X3, Or.inl (TG_tab 114 (by decide +kernel) rfl)⟩
theorem fl_X3_125 : FL RX3 125 1 0 := ⟨RX1, TX1, 5, rfl, by decide, in_X1, Or.inr ⟨"NonogramSolver", List.mem_of_getElem? (i := 49) (by decide +kernel)⟩⟩
theorem fl_X3_34 : FL RX3 34 3 7 := ⟨RX3, TX3, 12, rfl, by decide, in_X3, Or.inl (TG_tab 108 (by decide +kernel) rfl)⟩
theorem fl_X3_37 : FL RX3 37 3 8 := ⟨RX3, TX3, 12, rfl, by decide, in_X3, Or.inl (TG_tab 109 (by decide +kernel) rfl)⟩
theorem lk_X3_128 : LkV RX3 128 yX3_seeRun cX3_seeRun 4 none 2 := LkV.of (TG_tab 599 (by decide +kernel) rfl) (TG_tab 601 (by decide +kernel) rfl) (TG_sel (q := (yX3_seeRun, 12)) 10 (by decide +kernel)) (TG_tab 5 (by decide +kernel) rfl) kc_X3_seeRun kd_X3_seeRun
theorem lk_X4_9 : LkI RX4 9 yX1_init cX1_init 1 0 := LkI.of (Or.inr ⟨"NonogramSolver", List.mem_of_getElem? (i := 173) (by decide +kernel)⟩) (TG_tab 27 (by decide +kernel) rfl) (TG_tab 2 (by decide +kernel) rfl) kc_X1_init rfl kd_X1_init
theorem lk_X4_18 : LkI RX4 18 yX5_init cX5_init 1 0 := LkI.of (Or.inr ⟨"NonogramSolver", List.mem_of_getElem? (i := 175) (by decide +kernel)⟩) (TG_tab 144 (by decide +kernel) rfl) (TG_tab 6 (by decide +kernel) rfl) kc_X5_init rfl kd_X5_init
theorem fp_X4_23 : FP RX4 23 4 2 .int := ⟨RX4, TX4, 4, tyX4, rfl, by decide, in_X4, Or.inl (TG_tab 178 (by decide +kernel) rfl), tyX4_ok, nmX4, rfl, by decide +kernel⟩
theorem fp_X4_27 : FP RX4 27 4 3 .int := ⟨RX4, TX4, 4, tyX4, rfl, by decide, in_X4, Or.inl (TG_tab 180 (by decide +kernel) rfl), tyX4_ok, nmX4, rfl, by decide +kernel⟩
theorem lk_X4_30 : LkV RX4 30 yX1_allLines cX1_allLines 1 (some .int) 0 := LkV.of (TG_tab 646 (by decide +kernel) rfl) (TG_tab 621 (by decide +kernel) rfl) (TG_tab 622 (by decide +kernel) rfl) (TG_tab 2 (by decide +kernel) rfl) kc_X1_allLines kd_X1_allLines
theorem lk_X4_34 : LkV RX4 34 yX4_settle cX4_settle 4 (some .boolean) 2 := LkV.of (TG_tab 647 (by decide +kernel) rfl) (TG_tab 649 (by decide +kernel) rfl) (TG_sel (q := (yX4_settle, 4)) 14 (by decide +kernel)) (TG_tab 7 (by decide +kernel) rfl) kc_X4_settle kd_X4_settle
theorem lk_X4_38 : LkV RX4 38 yX1_cellTotal cX1_cellTotal 1 (some .int) 0 := LkV.of (TG_tab 656 (by decide +kernel) rfl) (TG_tab 518 (by decide +kernel) rfl) (TG_tab 519 (by decide +kernel) rfl) (TG_tab 2 (by decide +kernel) rfl) kc_X1_cellTotal kd_X1_cellTotal
theorem fl_X4_41 : FL RX4 41 1 2 := ⟨RX1, TX1, 5, rfl, by decide, in_X1, Or.inr ⟨"NonogramSolver", List.mem_of_getElem? (i := 53) (by decide +kernel)⟩⟩
theorem lk_X4_44 : LkV RX4 44 yX1_hasCandidate cX1_hasCandidate 3 (some .boolean) 2 := LkV.of (TG_tab 657 (by decide +kernel) rfl) (TG_tab 497 (by decide +kernel) rfl) (TG_tab 498 (by decide +kernel) rfl) (TG_tab 2 (by decide +kernel) rfl) kc_X1_hasCandidate kd_X1_hasCandidate
theorem lk_X4_48 : LkV RX4 48 yX1_isDecided cX1_isDecided 2 (some .boolean) 1 := LkV.of (TG_tab 658 (by decide +kernel) rfl) (TG_tab 475 (by decide +kernel) rfl) (TG_tab 476 (by decide +kernel) rfl) (TG_tab 2 (by decide +kernel) rfl) kc_X1_isDecided kd_X1_isDecided
theorem lk_X4_52 : LkV RX4 52 yX4_failsWith cX4_failsWith 4 (some .boolean) 3 := LkV.of (TG_tab 659 (by decide +kernel) rfl) (TG_tab 661 (by decide +kernel) rfl) (TG_sel (q := (yX4_failsWith, 4)) 15 (by decide +kernel)) (TG_tab 7 (by decide +kernel) rfl) kc_X4_failsWith kd_X4_failsWith
theorem fl_X4_23 : FL RX4 23 4 2 := ⟨RX4, TX4, 4, rfl, by decide, in_X4, Or.inl (TG_tab 178 (by decide +kernel) rfl)⟩
theorem fl_X4_56 : FL RX4 56 1 4 := ⟨RX1, TX1, 5, rfl, by decide, in_X1, Or.inr ⟨"NonogramSolver", List.mem_of_getElem? (i := 61) (by decide +kernel)⟩⟩
theorem lk_X4_60 : LkV RX4 60 yX1_linesThrough cX1_linesThrough 2 (some .int) 1 := LkV.of (TG_tab 664 (by decide +kernel) rfl) (TG_tab 665 (by decide +kernel) rfl) (TG_tab 666 (by decide +kernel) rfl) (TG_tab 2 (by decide +kernel) rfl) kc_X1_linesThrough kd_X1_linesThrough
theorem fl_X4_10 : FL RX4 10 4 0 := ⟨RX4, TX4, 4, rfl, by decide, in_X4, Or.inl (TG_tab 176 (by decide +kernel) rfl)⟩
theorem lk_X4_64 : LkV RX4 64 yX1_copyFrom cX1_copyFrom 2 none 1 := LkV.of (TG_tab 663 (by decide +kernel) rfl) (TG_tab 390 (by decide +kernel) rfl) (TG_tab 391 (by decide +kernel) rfl) (TG_tab 2 (by decide +kernel) rfl) kc_X1_copyFrom kd_X1_copyFrom
theorem fl_X4_19 : FL RX4 19 4 1 := ⟨RX4, TX4, 4, rfl, by decide, in_X4, Or.inl (TG_tab 177 (by decide +kernel) rfl)⟩
theorem lk_X4_68 : LkV RX4 68 yX5_settle cX5_settle 7 (some .boolean) 2 := LkV.of (TG_tab 651 (by decide +kernel) rfl) (TG_tab 625 (by decide +kernel) rfl) (TG_tab 626 (by decide +kernel) rfl) (TG_tab 6 (by decide +kernel) rfl) kc_X5_settle kd_X5_settle
theorem fl_X4_69 : FL RX4 69 5 3 := ⟨RX5, TX5, 4, rfl, by decide, in_X5, Or.inr ⟨"NonogramSolver", List.mem_of_getElem? (i := 155) (by decide +kernel)⟩⟩
theorem lk_X5_11 : LkI RX5 11 yX3_init cX3_init 1 0 := LkI.of (Or.inr ⟨"NonogramSolver", List.mem_of_getElem? (i := 148) (by decide +kernel)⟩) (TG_tab 98 (by decide +kernel) rfl) (TG_tab 5 (by decide +kernel) rfl) kc_X3_init rfl kd_X3_init
theorem fp_X5_18 : FP RX5 18 5 1 .int := ⟨RX5, TX5, 4, tyX5, rfl, by decide, in_X5, Or.inl (TG_tab 150 (by decide +kernel) rfl), tyX5_ok, nmX5, rfl, by decide +kernel⟩
theorem fp_X5_22 : FP RX5 22 5 2 .int := ⟨RX5, TX5, 4, tyX5, rfl, by decide, in_X5, Or.inl (TG_tab 152 (by decide +kernel) rfl), tyX5_ok, nmX5, rfl, by decide +kernel⟩
theorem fp_X5_25 : FP RX5 25 5 3 .int := ⟨RX5, TX5, 4, tyX5, rfl, by decide, in_X5, Or.inl (TG_tab 154 (by decide +kernel) rfl), tyX5_ok, nmX5, rfl, by decide +kernel⟩
theorem fl_X5_22 : FL RX5 22 5 2 := ⟨RX5, TX5, 4, rfl, by decide, in_X5, Or.inl (TG_tab 152 (by decide +kernel) rfl)⟩
theorem fl_X5_18 : FL RX5 18 5 1 := ⟨RX5, TX5, 4, rfl, by decide, in_X5, Or.inl (TG_tab 150 (by decide +kernel) rfl)⟩
theorem lk_X5_28 : LkV RX5 28 yX1_lineTotal cX1_lineTotal 1 (some .int) 0 := LkV.of (TG_tab 628 (by decide +kernel) rfl) (TG_tab 356 (by decide +kernel) rfl) (TG_tab 357 (by decide +kernel) rfl) (TG_tab 2 (by decide +kernel) rfl) kc_X1_lineTotal kd_X1_lineTotal
theorem fl_X5_12 : FL RX5 12 5 0 := ⟨RX5, TX5, 4, rfl, by decide, in_X5, Or.inl (TG_tab 149 (by decide +kernel) rfl)⟩
theorem lk_X5_34 : LkV RX5 34 yX3_solve cX3_solve 6 (some .boolean) 2 := LkV.of (TG_tab 629 (by decide +kernel) rfl) (TG_tab 590 (by decide +kernel) rfl) (TG_tab 591 (by decide +kernel) rfl) (TG_tab 5 (by decide +kernel) rfl) kc_X3_solve kd_X3_solve
theorem fl_X5_38 : FL RX5 38 3 10 := ⟨RX3, TX3, 12, rfl, by decide, in_X3, Or.inr ⟨"NonogramSolver", List.mem_of_getElem? (i := 112) (by decide +kernel)⟩⟩
theorem fl_X5_39 : FL RX5 39 3 11 := ⟨RX3, TX3, 12, rfl, by decide, in_X3, Or.inr ⟨"NonogramSolver", List.mem_of_getElem? (i := 115) (by decide +kernel)⟩⟩
theorem lk_X6_11 : LkI RX6 11 yX1_init cX1_init 1 0 := LkI.of (Or.inr ⟨"NonogramSolver", List.mem_of_getElem? (i := 198) (by decide +kernel)⟩) (TG_tab 27 (by decide +kernel) rfl) (TG_tab 2 (by decide +kernel) rfl) kc_X1_init rfl kd_X1_init
theorem lk_X6_20 : LkI RX6 20 yX5_init cX5_init 1 0 := LkI.of (Or.inr ⟨"NonogramSolver", List.mem_of_getElem? (i := 200) (by decide +kernel)⟩) (TG_tab 144 (by decide +kernel) rfl) (TG_tab 6 (by decide +kernel) rfl) kc_X5_init rfl kd_X5_init
theorem fp_X6_35 : FP RX6 35 6 5 .int := ⟨RX6, TX6, 10, tyX6, rfl, by decide, in_X6, Or.inl (TG_tab 206 (by decide +kernel) rfl), tyX6_ok, nmX6, rfl, by decide +kernel⟩
theorem fp_X6_39 : FP RX6 39 6 6 .int := ⟨RX6, TX6, 10, tyX6, rfl, by decide, in_X6, Or.inl (TG_tab 207 (by decide +kernel) rfl), tyX6_ok, nmX6, rfl, by decide +kernel⟩
theorem fp_X6_42 : FP RX6 42 6 7 .int := ⟨RX6, TX6, 10, tyX6, rfl, by decide, in_X6, Or.inl (TG_tab 208 (by decide +kernel) rfl), tyX6_ok, nmX6, rfl, by decide +kernel⟩
theorem fp_X6_45 : FP RX6 45 6 8 .int := ⟨RX6, TX6, 10, tyX6, rfl, by decide, in_X6, Or.inl (TG_tab 210 (by decide +kernel) rfl), tyX6_ok, nmX6, rfl, by decide +kernel⟩
theorem fp_X6_48 : FP RX6 48 6 9 .boolean := ⟨RX6, TX6, 10, tyX6, rfl, by decide, in_X6, Or.inl (TG_tab 212 (by decide +kernel) rfl), tyX6_ok, nmX6, rfl, by decide +kernel⟩
theorem fl_X6_12 : FL RX6 12 6 0 := ⟨RX6, TX6, 10, rfl, by decide, in_X6, Or.inl (TG_tab 201 (by decide +kernel) rfl)⟩
theorem lk_X6_52 : LkV RX6 52 yX1_copyFrom cX1_copyFrom 2 none 1 := LkV.of (TG_tab 696 (by decide +kernel) rfl) (TG_tab 390 (by decide +kernel) rfl) (TG_tab 391 (by decide +kernel) rfl) (TG_tab 2 (by decide +kernel) rfl) kc_X1_copyFrom kd_X1_copyFrom
theorem lk_X6_56 : LkV RX6 56 yX1_allLines cX1_allLines 1 (some .int) 0 := LkV.of (TG_tab 697 (by decide +kernel) rfl) (TG_tab 621 (by decide +kernel) rfl) (TG_tab 622 (by decide +kernel) rfl) (TG_tab 2 (by decide +kernel) rfl) kc_X1_allLines kd_X1_allLines
theorem lk_X6_60 : LkV RX6 60 yX6_visit cX6_visit 2 none 1 := LkV.of (TG_tab 698 (by decide +kernel) rfl) (TG_tab 700 (by decide +kernel) rfl) (TG_sel (q := (yX6_visit, 10)) 16 (by decide +kernel)) (TG_tab 8 (by decide +kernel) rfl) kc_X6_visit kd_X6_visit
theorem fl_X6_35 : FL RX6 35 6 5 := ⟨RX6, TX6, 10, rfl, by decide, in_X6, Or.inl (TG_tab 206 (by decide +kernel) rfl)⟩
theorem fl_X6_45 : FL RX6 45 6 8 := ⟨RX6, TX6, 10, rfl, by decide, in_X6, Or.inl (TG_tab 210 (by decide +kernel) rfl)⟩
theorem fl_X6_48 : FL RX6 48 6 9 := ⟨RX6, TX6, 10, rfl, by decide, in_X6, Or.inl (TG_tab 212 (by decide +kernel) rfl)⟩
theorem lk_X6_64 : LkV RX6 64 yX6_makeNextChild cX6_makeNextChild 4 (some .boolean) 0 := LkV.of (TG_tab 728 (by decide +kernel) rfl) (TG_tab 730 (by decide +kernel) rfl) (TG_sel (q := (yX6_makeNextChild, 10)) 19 (by decide +kernel)) (TG_tab 8 (by decide +kernel) rfl) kc_X6_makeNextChild kd_X6_makeNextChild
theorem fl_X6_29 : FL RX6 29 6 3 := ⟨RX6, TX6, 10, rfl, by decide, in_X6, Or.inl (TG_tab 204 (by decide +kernel) rfl)⟩
theorem lk_X6_68 : LkV RX6 68 yX1_linesThrough cX1_linesThrough 2 (some .int) 1 := LkV.of (TG_tab 733 (by decide +kernel) rfl) (TG_tab 665 (by decide +kernel) rfl) (TG_tab 666 (by decide +kernel) rfl) (TG_tab 2 (by decide +kernel) rfl) kc_X1_linesThrough kd_X1_linesThrough
theorem lk_X6_72 : LkV RX6 72 yX1_decidedColor cX1_decidedColor 2 (some .int) 1 := LkV.of (TG_tab 742 (by decide +kernel) rfl) (TG_tab 485 (by decide +kernel) rfl) (TG_tab 486 (by decide +kernel) rfl) (TG_tab 2 (by decide +kernel) rfl) kc_X1_decidedColor kd_X1_decidedColor
theorem fl_X6_25 : FL RX6 25 6 2 := ⟨RX6, TX6, 10, rfl, by decide, in_X6, Or.inl (TG_tab 203 (by decide +kernel) rfl)⟩
theorem fl_X6_75 : FL RX6 75 1 4 := ⟨RX1, TX1, 5, rfl, by decide, in_X1, Or.inr ⟨"NonogramSolver", List.mem_of_getElem? (i := 62) (by decide +kernel)⟩⟩
theorem lc_X6_78 : LC RX6 78 := ⟨(TG_tab 708 (by decide +kernel) rfl), (TG_tab 399 (by decide +kernel) rfl), (TG_tab 398 (by decide +kernel) rfl), (TG_tab 14 (by decide +kernel) rfl)⟩
theorem fl_X6_32 : FL RX6 32 6 4 := ⟨RX6, TX6, 10, rfl, by decide, in_X6, Or.inl (TG_tab 205 (by decide +kernel) rfl)⟩
theorem fl_X6_84 : FL RX6 84 1 2 := ⟨RX1, TX1, 5, rfl, by decide, in_X1, Or.inr ⟨"NonogramSolver", List.mem_of_getElem? (i := 54) (by decide +kernel)⟩⟩
theorem lk_X6_87 : LkV RX6 87 yX1_hasCandidate cX1_hasCandidate 3 (some .boolean) 2 := LkV.of (TG_tab 732 (by decide +kernel) rfl) (TG_tab 497 (by decide +kernel) rfl) (TG_tab 498 (by decide +kernel) rfl) (TG_tab 2 (by decide +kernel) rfl) kc_X1_hasCandidate kd_X1_hasCandidate
theorem fl_X6_42 : FL RX6 42 6 7 := ⟨RX6, TX6, 10, rfl, by decide, in_X6, Or.inl (TG_tab 208 (by decide +kernel) rfl)⟩
theorem fl_X6_21 : FL RX6 21 6 1 := ⟨RX6, TX6, 10, rfl, by decide, in_X6, Or.inl (TG_tab 202 (by decide +kernel) rfl)⟩
theorem lk_X6_91 : LkV RX6 91 yX5_settle cX5_settle 7 (some .boolean) 2 := LkV.of (TG_tab 702 (by decide +kernel) rfl) (TG_tab 625 (by decide +kernel) rfl) (TG_tab 626 (by decide +kernel) rfl) (TG_tab 6 (by decide +kernel) rfl) kc_X5_settle kd_X5_settle
theorem lk_X6_95 : LkV RX6 95 yX1_isAllDecided cX1_isAllDecided 1 (some .boolean) 0 := LkV.of (TG_tab 703 (by decide +kernel) rfl) (TG_tab 704 (by decide +kernel) rfl) (TG_tab 705 (by decide +kernel) rfl) (TG_tab 2 (by decide +kernel) rfl) kc_X1_isAllDecided kd_X1_isAllDecided
theorem lk_X6_98 : LkV RX6 98 yX6_selectCell cX6_selectCell 4 (some .int) 0 := LkV.of (TG_tab 709 (by decide +kernel) rfl) (TG_tab 711 (by decide +kernel) rfl) (TG_sel (q := (yX6_selectCell, 10)) 17 (by decide +kernel)) (TG_tab 8 (by decide +kernel) rfl) kc_X6_selectCell kd_X6_selectCell
theorem lk_X6_101 : LkV RX6 101 yX1_cellTotal cX1_cellTotal 1 (some .int) 0 := LkV.of (TG_tab 713 (by decide +kernel) rfl) (TG_tab 518 (by decide +kernel) rfl) (TG_tab 519 (by decide +kernel) rfl) (TG_tab 2 (by decide +kernel) rfl) kc_X1_cellTotal kd_X1_cellTotal
theorem lk_X6_104 : LkV RX6 104 yX1_isDecided cX1_isDecided 2 (some .boolean) 1 := LkV.of (TG_tab 714 (by decide +kernel) rfl) (TG_tab 475 (by decide +kernel) rfl) (TG_tab 476 (by decide +kernel) rfl) (TG_tab 2 (by decide +kernel) rfl) kc_X1_isDecided kd_X1_isDecided
theorem lk_X6_108 : LkV RX6 108 yX6_score cX6_score 2 (some .int) 1 := LkV.of (TG_tab 715 (by decide +kernel) rfl) (TG_tab 717 (by decide +kernel) rfl) (TG_sel (q := (yX6_score, 10)) 18 (by decide +kernel)) (TG_tab 8 (by decide +kernel) rfl) kc_X6_score kd_X6_score
theorem fl_X6_39 : FL RX6 39 6 6 := ⟨RX6, TX6, 10, rfl, by decide, in_X6, Or.inl (TG_tab 207 (by decide +kernel) rfl)⟩
theorem lk_X6_111 : LkS RX6 111 yJ6_bitCount_0f7a4 cJ6_bitCount_0f7a4 1 (some .int) 1 := LkS.of (TG_tab 719 (by decide +kernel) rfl) (TG_tab 479 (by decide +kernel) rfl) (TG_tab 15 (by decide +kernel) rfl) kc_J6_bitCount_0f7a4 kd_J6_bitCount_0f7a4
theorem lk_X6_116 : LkV RX6 116 yX1_rowLine cX1_rowLine 2 (some .int) 1 := LkV.of (TG_tab 720 (by decide +kernel) rfl) (TG_tab 669 (by decide +kernel) rfl) (TG_tab 670 (by decide +kernel) rfl) (TG_tab 2 (by decide +kernel) rfl) kc_X1_rowLine kd_X1_rowLine
theorem lk_X6_119 : LkV RX6 119 yX1_decidedInLine cX1_decidedInLine 4 (some .int) 1 := LkV.of (TG_tab 721 (by decide +kernel) rfl) (TG_tab 722 (by decide +kernel) rfl) (TG_tab 723 (by decide +kernel) rfl) (TG_tab 2 (by decide +kernel) rfl) kc_X1_decidedInLine kd_X1_decidedInLine
theorem lk_X6_122 : LkV RX6 122 yX1_columnLine cX1_columnLine 2 (some .int) 1 := LkV.of (TG_tab 727 (by decide +kernel) rfl) (TG_tab 673 (by decide +kernel) rfl) (TG_tab 674 (by decide +kernel) rfl) (TG_tab 2 (by decide +kernel) rfl) kc_X1_columnLine kd_X1_columnLine
theorem fp_X7_15 : FP RX7 15 7 1 .int := ⟨RX7, TX7, 3, tyX7, rfl, by decide, in_X7, Or.inl (TG_tab 264 (by decide +kernel) rfl), tyX7_ok, nmX7, rfl, by decide +kernel⟩
theorem fp_X7_19 : FP RX7 19 7 2 .int := ⟨RX7, TX7, 3, tyX7, rfl, by decide, in_X7, Or.inl (TG_tab 266 (by decide +kernel) rfl), tyX7_ok, nmX7, rfl, by decide +kernel⟩
theorem fl_X7_9 : FL RX7 9 7 0 := ⟨RX7, TX7, 3, rfl, by decide, in_X7, Or.inl (TG_tab 262 (by decide +kernel) rfl)⟩
theorem lk_X7_22 : LkS RX7 22 yJ7_fill_53178 cJ7_fill_53178 4 none 2 := LkS.of (TG_tab 846 (by decide +kernel) rfl) (TG_tab 284 (by decide +kernel) rfl) (TG_tab 12 (by decide +kernel) rfl) kc_J7_fill_53178 kd_J7_fill_53178
theorem fl_X7_15 : FL RX7 15 7 1 := ⟨RX7, TX7, 3, rfl, by decide, in_X7, Or.inl (TG_tab 264 (by decide +kernel) rfl)⟩
theorem fp_X8_7 : FP RX8 7 8 1 .int := ⟨RX8, TX8, 2, tyX8, rfl, by decide, in_X8, Or.inl (TG_tab 246 (by decide +kernel) rfl), tyX8_ok, nmX8, rfl, by decide +kernel⟩
theorem lk_X8_13 : LkS RX8 13 yJ9_max_7cf53 cJ9_max_7cf53 2 (some .int) 2 := LkS.of (TG_tab 241 (by decide +kernel) rfl) (TG_tab 242 (by decide +kernel) rfl) (TG_tab 10 (by decide +kernel) rfl) kc_J9_max_7cf53 kd_J9_max_7cf53
theorem fl_X8_7 : FL RX8 7 8 1 := ⟨RX8, TX8, 2, rfl, by decide, in_X8, Or.inl (TG_tab 246 (by decide +kernel) rfl)⟩
theorem fl_X8_19 : FL RX8 19 8 0 := ⟨RX8, TX8, 2, rfl, by decide, in_X8, Or.inl (TG_tab 244 (by decide +kernel) rfl)⟩
theorem lk_X9_11 : LkI RX9 11 yX1_init cX1_init 1 0 := LkI.of (Or.inr ⟨"NonogramSolver", List.mem_of_getElem? (i := 26) (by decide +kernel)⟩) (TG_tab 27 (by decide +kernel) rfl) (TG_tab 2 (by decide +kernel) rfl) kc_X1_init rfl kd_X1_init
theorem fp_X9_22 : FP RX9 22 9 3 .boolean := ⟨RX9, TX9, 16, tyX9, rfl, by decide, in_X9, Or.inl (TG_tab 294 (by decide +kernel) rfl), tyX9_ok, nmX9, rfl, by decide +kernel⟩
theorem lk_X9_28 : LkI RX9 28 yX2_init cX2_init 2 0 := LkI.of (Or.inl (TG_tab 77 (by decide +kernel) rfl)) (TG_tab 78 (by decide +kernel) rfl) (TG_tab 4 (by decide +kernel) rfl) kc_X2_init rfl kd_X2_init
theorem lk_X9_35 : LkI RX9 35 yX3_init cX3_init 1 0 := LkI.of (Or.inr ⟨"NonogramSolver", List.mem_of_getElem? (i := 97) (by decide +kernel)⟩) (TG_tab 98 (by decide +kernel) rfl) (TG_tab 5 (by decide +kernel) rfl) kc_X3_init rfl kd_X3_init
theorem lk_X9_42 : LkI RX9 42 yX5_init cX5_init 1 0 := LkI.of (Or.inr ⟨"NonogramSolver", List.mem_of_getElem? (i := 143) (by decide +kernel)⟩) (TG_tab 144 (by decide +kernel) rfl) (TG_tab 6 (by decide +kernel) rfl) kc_X5_init rfl kd_X5_init
theorem lk_X9_49 : LkI RX9 49 yX4_init cX4_init 1 0 := LkI.of (Or.inr ⟨"NonogramSolver", List.mem_of_getElem? (i := 168) (by decide +kernel)⟩) (TG_tab 169 (by decide +kernel) rfl) (TG_tab 7 (by decide +kernel) rfl) kc_X4_init rfl kd_X4_init
theorem lk_X9_56 : LkI RX9 56 yX6_init cX6_init 1 0 := LkI.of (Or.inr ⟨"NonogramSolver", List.mem_of_getElem? (i := 193) (by decide +kernel)⟩) (TG_tab 194 (by decide +kernel) rfl) (TG_tab 8 (by decide +kernel) rfl) kc_X6_init rfl kd_X6_init
theorem fp_X9_61 : FP RX9 61 9 9 .int := ⟨RX9, TX9, 16, tyX9, rfl, by decide, in_X9, Or.inl (TG_tab 300 (by decide +kernel) rfl), tyX9_ok, nmX9, rfl, by decide +kernel⟩
theorem fp_X9_65 : FP RX9 65 9 10 .int := ⟨RX9, TX9, 16, tyX9, rfl, by decide, in_X9, Or.inl (TG_tab 301 (by decide +kernel) rfl), tyX9_ok, nmX9, rfl, by decide +kernel⟩
theorem fp_X9_68 : FP RX9 68 9 11 .int := ⟨RX9, TX9, 16, tyX9, rfl, by decide, in_X9, Or.inl (TG_tab 302 (by decide +kernel) rfl), tyX9_ok, nmX9, rfl, by decide +kernel⟩
theorem lk_X9_73 : LkI RX9 73 yX8_init cX8_init 2 1 := LkI.of (Or.inl (TG_tab 237 (by decide +kernel) rfl)) (TG_tab 238 (by decide +kernel) rfl) (TG_tab 9 (by decide +kernel) rfl) kc_X8_init rfl kd_X8_init
theorem lk_X9_85 : LkI RX9 85 yX0_init cX0_init 1 0 := LkI.of (Or.inr ⟨"NonogramSolver", List.mem_of_getElem? (i := 254) (by decide +kernel)⟩) (TG_tab 33 (by decide +kernel) rfl) (TG_tab 3 (by decide +kernel) rfl) kc_X0_init rfl kd_X0_init
theorem lk_X9_92 : LkI RX9 92 yX7_init cX7_init 1 0 := LkI.of (Or.inr ⟨"NonogramSolver", List.mem_of_getElem? (i := 258) (by decide +kernel)⟩) (TG_tab 259 (by decide +kernel) rfl) (TG_tab 11 (by decide +kernel) rfl) kc_X7_init rfl kd_X7_init
theorem fl_X9_12 : FL RX9 12 9 0 := ⟨RX9, TX9, 16, rfl, by decide, in_X9, Or.inl (TG_tab 291 (by decide +kernel) rfl)⟩
theorem lk_X9_97 : LkV RX9 97 yX1_start cX1_start 4 none 3 := LkV.of (TG_tab 275 (by decide +kernel) rfl) (TG_tab 276 (by decide +kernel) rfl) (TG_tab 277 (by decide +kernel) rfl) (TG_tab 2 (by decide +kernel) rfl) kc_X1_start kd_X1_start
theorem lk_X9_101 : LkS RX9 101 yX9_isWithin cX9_isWithin 3 (some .boolean) 3 := LkS.of (TG_tab 344 (by decide +kernel) rfl) (TG_tab 345 (by decide +kernel) rfl) (TG_tab 1 (by decide +kernel) rfl) kc_X9_isWithin kd_X9_isWithin
theorem fl_X9_29 : FL RX9 29 9 4 := ⟨RX9, TX9, 16, rfl, by decide, in_X9, Or.inl (TG_tab 295 (by decide +kernel) rfl)⟩
theorem lk_X9_105 : LkV RX9 105 yX2_forget cX2_forget 1 none 0 := LkV.of (TG_tab 347 (by decide +kernel) rfl) (TG_tab 348 (by decide +kernel) rfl) (TG_tab 349 (by decide +kernel) rfl) (TG_tab 4 (by decide +kernel) rfl) kc_X2_forget kd_X2_forget
theorem lk_X9_108 : LkV RX9 108 yX9_forgetContradiction cX9_forgetContradiction 1 none 0 := LkV.of (TG_tab 351 (by decide +kernel) rfl) (TG_tab 353 (by decide +kernel) rfl) (TG_sel (q := (yX9_forgetContradiction, 16)) 0 (by decide +kernel)) (TG_tab 1 (by decide +kernel) rfl) kc_X9_forgetContradiction kd_X9_forgetContradiction
theorem lk_X9_111 : LkV RX9 111 yX1_lineTotal cX1_lineTotal 1 (some .int) 0 := LkV.of (TG_tab 355 (by decide +kernel) rfl) (TG_tab 356 (by decide +kernel) rfl) (TG_tab 357 (by decide +kernel) rfl) (TG_tab 2 (by decide +kernel) rfl) kc_X1_lineTotal kd_X1_lineTotal
theorem fl_X9_115 : FL RX9 115 1 0 := ⟨RX1, TX1, 5, rfl, by decide, in_X1, Or.inr ⟨"NonogramSolver", List.mem_of_getElem? (i := 48) (by decide +kernel)⟩⟩
theorem fl_X9_118 : FL RX9 118 1 1 := ⟨RX1, TX1, 5, rfl, by decide, in_X1, Or.inr ⟨"NonogramSolver", List.mem_of_getElem? (i := 51) (by decide +kernel)⟩⟩
theorem fl_X9_121 : FL RX9 121 1 2 := ⟨RX1, TX1, 5, rfl, by decide, in_X1, Or.inr ⟨"NonogramSolver", List.mem_of_getElem? (i := 55) (by decide +kernel)⟩⟩
theorem lk_X9_124 : LkV RX9 124 yX1_hasLine cX1_hasLine 2 (some .boolean) 1 := LkV.of (TG_tab 375 (by decide +kernel) rfl) (TG_tab 376 (by decide +kernel) rfl) (TG_tab 377 (by decide +kernel) rfl) (TG_tab 2 (by decide +kernel) rfl) kc_X1_hasLine kd_X1_hasLine
theorem fl_X9_128 : FL RX9 128 1 3 := ⟨RX1, TX1, 5, rfl, by decide, in_X1, Or.inr ⟨"NonogramSolver", List.mem_of_getElem? (i := 58) (by decide +kernel)⟩⟩
theorem lk_X9_131 : LkV RX9 131 yX0_isFull cX0_isFull 2 (some .boolean) 1 := LkV.of (TG_tab 381 (by decide +kernel) rfl) (TG_tab 382 (by decide +kernel) rfl) (TG_tab 383 (by decide +kernel) rfl) (TG_tab 3 (by decide +kernel) rfl) kc_X0_isFull kd_X0_isFull
theorem lk_X9_134 : LkV RX9 134 yX2_push cX2_push 2 none 1 := LkV.of (TG_tab 385 (by decide +kernel) rfl) (TG_tab 386 (by decide +kernel) rfl) (TG_tab 387 (by decide +kernel) rfl) (TG_tab 4 (by decide +kernel) rfl) kc_X2_push kd_X2_push
theorem lk_X9_138 : LkV RX9 138 yX0_append cX0_append 5 none 3 := LkV.of (TG_tab 404 (by decide +kernel) rfl) (TG_tab 405 (by decide +kernel) rfl) (TG_tab 406 (by decide +kernel) rfl) (TG_tab 3 (by decide +kernel) rfl) kc_X0_append kd_X0_append
theorem lk_X9_141 : LkV RX9 141 yX0_runsOf cX0_runsOf 2 (some .int) 1 := LkV.of (TG_tab 409 (by decide +kernel) rfl) (TG_tab 410 (by decide +kernel) rfl) (TG_tab 411 (by decide +kernel) rfl) (TG_tab 3 (by decide +kernel) rfl) kc_X0_runsOf kd_X0_runsOf
theorem lk_X9_145 : LkV RX9 145 yX0_empty cX0_empty 2 none 1 := LkV.of (TG_tab 417 (by decide +kernel) rfl) (TG_tab 418 (by decide +kernel) rfl) (TG_tab 419 (by decide +kernel) rfl) (TG_tab 3 (by decide +kernel) rfl) kc_X0_empty kd_X0_empty
theorem lk_X9_148 : LkV RX9 148 yX9_hasRun cX9_hasRun 3 (some .boolean) 2 := LkV.of (TG_tab 429 (by decide +kernel) rfl) (TG_tab 431 (by decide +kernel) rfl) (TG_sel (q := (yX9_hasRun, 16)) 1 (by decide +kernel)) (TG_tab 1 (by decide +kernel) rfl) kc_X9_hasRun kd_X9_hasRun
theorem lk_X9_152 : LkV RX9 152 yX0_lengthOf cX0_lengthOf 3 (some .int) 2 := LkV.of (TG_tab 433 (by decide +kernel) rfl) (TG_tab 434 (by decide +kernel) rfl) (TG_tab 435 (by decide +kernel) rfl) (TG_tab 3 (by decide +kernel) rfl) kc_X0_lengthOf kd_X0_lengthOf
theorem lk_X9_156 : LkV RX9 156 yX0_colorOf cX0_colorOf 3 (some .int) 2 := LkV.of (TG_tab 441 (by decide +kernel) rfl) (TG_tab 442 (by decide +kernel) rfl) (TG_tab 443 (by decide +kernel) rfl) (TG_tab 3 (by decide +kernel) rfl) kc_X0_colorOf kd_X0_colorOf
theorem lk_X9_159 : LkV RX9 159 yX0_cellsNeeded cX0_cellsNeeded 4 (some .int) 1 := LkV.of (TG_tab 449 (by decide +kernel) rfl) (TG_tab 450 (by decide +kernel) rfl) (TG_tab 451 (by decide +kernel) rfl) (TG_tab 3 (by decide +kernel) rfl) kc_X0_cellsNeeded kd_X0_cellsNeeded
theorem lk_X9_162 : LkV RX9 162 yX1_hasCell cX1_hasCell 3 (some .boolean) 2 := LkV.of (TG_tab 462 (by decide +kernel) rfl) (TG_tab 463 (by decide +kernel) rfl) (TG_tab 464 (by decide +kernel) rfl) (TG_tab 2 (by decide +kernel) rfl) kc_X1_hasCell kd_X1_hasCell
theorem fl_X9_165 : FL RX9 165 1 4 := ⟨RX1, TX1, 5, rfl, by decide, in_X1, Or.inr ⟨"NonogramSolver", List.mem_of_getElem? (i := 63) (by decide +kernel)⟩⟩
theorem lk_X9_169 : LkV RX9 169 yX1_cellAt cX1_cellAt 3 (some .int) 2 := LkV.of (TG_tab 466 (by decide +kernel) rfl) (TG_tab 467 (by decide +kernel) rfl) (TG_tab 468 (by decide +kernel) rfl) (TG_tab 2 (by decide +kernel) rfl) kc_X1_cellAt kd_X1_cellAt
theorem lk_X9_172 : LkV RX9 172 yX1_isDecided cX1_isDecided 2 (some .boolean) 1 := LkV.of (TG_tab 474 (by decide +kernel) rfl) (TG_tab 475 (by decide +kernel) rfl) (TG_tab 476 (by decide +kernel) rfl) (TG_tab 2 (by decide +kernel) rfl) kc_X1_isDecided kd_X1_isDecided
theorem lk_X9_175 : LkV RX9 175 yX1_decidedColor cX1_decidedColor 2 (some .int) 1 := LkV.of (TG_tab 484 (by decide +kernel) rfl) (TG_tab 485 (by decide +kernel) rfl) (TG_tab 486 (by decide +kernel) rfl) (TG_tab 2 (by decide +kernel) rfl) kc_X1_decidedColor kd_X1_decidedColor
theorem lk_X9_178 : LkV RX9 178 yX9_candidateError cX9_candidateError 4 (some .int) 3 := LkV.of (TG_tab 492 (by decide +kernel) rfl) (TG_tab 494 (by decide +kernel) rfl) (TG_sel (q := (yX9_candidateError, 16)) 2 (by decide +kernel)) (TG_tab 1 (by decide +kernel) rfl) kc_X9_candidateError kd_X9_candidateError
theorem lk_X9_182 : LkS RX9 182 yJ6_bitCount_0f7a4 cJ6_bitCount_0f7a4 1 (some .int) 1 := LkS.of (TG_tab 500 (by decide +kernel) rfl) (TG_tab 479 (by decide +kernel) rfl) (TG_tab 15 (by decide +kernel) rfl) kc_J6_bitCount_0f7a4 kd_J6_bitCount_0f7a4
theorem lk_X9_187 : LkV RX9 187 yX9_otherCandidatesError cX9_otherCandidatesError 5 (some .int) 3 := LkV.of (TG_tab 505 (by decide +kernel) rfl) (TG_tab 507 (by decide +kernel) rfl) (TG_sel (q := (yX9_otherCandidatesError, 16)) 3 (by decide +kernel)) (TG_tab 1 (by decide +kernel) rfl) kc_X9_otherCandidatesError kd_X9_otherCandidatesError
theorem lk_X9_190 : LkV RX9 190 yX1_decidedTotal cX1_decidedTotal 3 (some .int) 0 := LkV.of (TG_tab 513 (by decide +kernel) rfl) (TG_tab 514 (by decide +kernel) rfl) (TG_tab 515 (by decide +kernel) rfl) (TG_tab 2 (by decide +kernel) rfl) kc_X1_decidedTotal kd_X1_decidedTotal
theorem lk_X9_193 : LkV RX9 193 yX1_lineLength cX1_lineLength 2 (some .int) 1 := LkV.of (TG_tab 526 (by decide +kernel) rfl) (TG_tab 527 (by decide +kernel) rfl) (TG_tab 528 (by decide +kernel) rfl) (TG_tab 2 (by decide +kernel) rfl) kc_X1_lineLength kd_X1_lineLength
theorem lk_X9_196 : LkV RX9 196 yX1_lineCell cX1_lineCell 3 (some .int) 2 := LkV.of (TG_tab 530 (by decide +kernel) rfl) (TG_tab 531 (by decide +kernel) rfl) (TG_tab 532 (by decide +kernel) rfl) (TG_tab 2 (by decide +kernel) rfl) kc_X1_lineCell kd_X1_lineCell
theorem fl_X9_36 : FL RX9 36 9 5 := ⟨RX9, TX9, 16, rfl, by decide, in_X9, Or.inl (TG_tab 296 (by decide +kernel) rfl)⟩
theorem lk_X9_199 : LkV RX9 199 yX3_load cX3_load 3 none 2 := LkV.of (TG_tab 538 (by decide +kernel) rfl) (TG_tab 539 (by decide +kernel) rfl) (TG_tab 540 (by decide +kernel) rfl) (TG_tab 5 (by decide +kernel) rfl) kc_X3_load kd_X3_load
theorem lk_X9_203 : LkV RX9 203 yX3_total cX3_total 1 (some .int) 0 := LkV.of (TG_tab 572 (by decide +kernel) rfl) (TG_tab 573 (by decide +kernel) rfl) (TG_tab 574 (by decide +kernel) rfl) (TG_tab 5 (by decide +kernel) rfl) kc_X3_total kd_X3_total
theorem lk_X9_206 : LkV RX9 206 yX3_colorIn cX3_colorIn 8 (some .int) 2 := LkV.of (TG_tab 580 (by decide +kernel) rfl) (TG_tab 581 (by decide +kernel) rfl) (TG_tab 582 (by decide +kernel) rfl) (TG_tab 5 (by decide +kernel) rfl) kc_X3_colorIn kd_X3_colorIn
theorem fl_X9_16 : FL RX9 16 9 1 := ⟨RX9, TX9, 16, rfl, by decide, in_X9, Or.inl (TG_tab 292 (by decide +kernel) rfl)⟩
theorem lk_X9_209 : LkV RX9 209 yX1_copyFrom cX1_copyFrom 2 none 1 := LkV.of (TG_tab 588 (by decide +kernel) rfl) (TG_tab 390 (by decide +kernel) rfl) (TG_tab 391 (by decide +kernel) rfl) (TG_tab 2 (by decide +kernel) rfl) kc_X1_copyFrom kd_X1_copyFrom
theorem lk_X9_212 : LkV RX9 212 yX3_solve cX3_solve 6 (some .boolean) 2 := LkV.of (TG_tab 589 (by decide +kernel) rfl) (TG_tab 590 (by decide +kernel) rfl) (TG_tab 591 (by decide +kernel) rfl) (TG_tab 5 (by decide +kernel) rfl) kc_X3_solve kd_X3_solve
theorem lk_X9_216 : LkV RX9 216 yX9_remember cX9_remember 3 (some .int) 2 := LkV.of (TG_tab 608 (by decide +kernel) rfl) (TG_tab 610 (by decide +kernel) rfl) (TG_sel (q := (yX9_remember, 16)) 12 (by decide +kernel)) (TG_tab 1 (by decide +kernel) rfl) kc_X9_remember kd_X9_remember
theorem lk_X9_219 : LkV RX9 219 yX9_commitWork cX9_commitWork 1 none 0 := LkV.of (TG_tab 612 (by decide +kernel) rfl) (TG_tab 614 (by decide +kernel) rfl) (TG_sel (q := (yX9_commitWork, 16)) 13 (by decide +kernel)) (TG_tab 1 (by decide +kernel) rfl) kc_X9_commitWork kd_X9_commitWork
theorem fl_X9_222 : FL RX9 222 3 10 := ⟨RX3, TX3, 12, rfl, by decide, in_X3, Or.inr ⟨"NonogramSolver", List.mem_of_getElem? (i := 113) (by decide +kernel)⟩⟩
theorem fl_X9_43 : FL RX9 43 9 6 := ⟨RX9, TX9, 16, rfl, by decide, in_X9, Or.inl (TG_tab 297 (by decide +kernel) rfl)⟩
theorem lk_X9_225 : LkV RX9 225 yX1_allLines cX1_allLines 1 (some .int) 0 := LkV.of (TG_tab 620 (by decide +kernel) rfl) (TG_tab 621 (by decide +kernel) rfl) (TG_tab 622 (by decide +kernel) rfl) (TG_tab 2 (by decide +kernel) rfl) kc_X1_allLines kd_X1_allLines
theorem lk_X9_228 : LkV RX9 228 yX5_settle cX5_settle 7 (some .boolean) 2 := LkV.of (TG_tab 624 (by decide +kernel) rfl) (TG_tab 625 (by decide +kernel) rfl) (TG_tab 626 (by decide +kernel) rfl) (TG_tab 6 (by decide +kernel) rfl) kc_X5_settle kd_X5_settle
theorem fl_X9_231 : FL RX9 231 5 3 := ⟨RX5, TX5, 4, rfl, by decide, in_X5, Or.inr ⟨"NonogramSolver", List.mem_of_getElem? (i := 156) (by decide +kernel)⟩⟩
theorem fl_X9_234 : FL RX9 234 5 2 := ⟨RX5, TX5, 4, rfl, by decide, in_X5, Or.inr ⟨"NonogramSolver", List.mem_of_getElem? (i := 153) (by decide +kernel)⟩⟩
theorem fl_X9_235 : FL RX9 235 5 1 := ⟨RX5, TX5, 4, rfl, by decide, in_X5, Or.inr ⟨"NonogramSolver", List.mem_of_getElem? (i := 151) (by decide +kernel)⟩⟩
theorem fl_X9_50 : FL RX9 50 9 7 := ⟨RX9, TX9, 16, rfl, by decide, in_X9, Or.inl (TG_tab 298 (by decide +kernel) rfl)⟩
theorem lk_X9_238 : LkV RX9 238 yX4_begin cX4_begin 2 (some .boolean) 1 := LkV.of (TG_tab 642 (by decide +kernel) rfl) (TG_tab 643 (by decide +kernel) rfl) (TG_tab 644 (by decide +kernel) rfl) (TG_tab 7 (by decide +kernel) rfl) kc_X4_begin kd_X4_begin
theorem fl_X9_242 : FL RX9 242 4 2 := ⟨RX4, TX4, 4, rfl, by decide, in_X4, Or.inr ⟨"NonogramSolver", List.mem_of_getElem? (i := 179) (by decide +kernel)⟩⟩
theorem lk_X9_245 : LkV RX9 245 yX4_probeRound cX4_probeRound 5 (some .boolean) 1 := LkV.of (TG_tab 652 (by decide +kernel) rfl) (TG_tab 653 (by decide +kernel) rfl) (TG_tab 654 (by decide +kernel) rfl) (TG_tab 7 (by decide +kernel) rfl) kc_X4_probeRound kd_X4_probeRound
theorem fl_X9_248 : FL RX9 248 4 3 := ⟨RX4, TX4, 4, rfl, by decide, in_X4, Or.inr ⟨"NonogramSolver", List.mem_of_getElem? (i := 181) (by decide +kernel)⟩⟩
theorem fl_X9_65 : FL RX9 65 9 10 := ⟨RX9, TX9, 16, rfl, by decide, in_X9, Or.inl (TG_tab 301 (by decide +kernel) rfl)⟩
theorem fl_X9_68 : FL RX9 68 9 11 := ⟨RX9, TX9, 16, rfl, by decide, in_X9, Or.inl (TG_tab 302 (by decide +kernel) rfl)⟩
theorem fl_X9_61 : FL RX9 61 9 9 := ⟨RX9, TX9, 16, rfl, by decide, in_X9, Or.inl (TG_tab 300 (by decide +kernel) rfl)⟩
theorem fl_X9_57 : FL RX9 57 9 8 := ⟨RX9, TX9, 16, rfl, by decide, in_X9, Or.inl (TG_tab 299 (by decide +kernel) rfl)⟩
theorem lk_X9_249 : LkV RX9 249 yX6_find cX6_find 5 none 3 := LkV.of (TG_tab 692 (by decide +kernel) rfl) (TG_tab 693 (by decide +kernel) rfl) (TG_tab 694 (by decide +kernel) rfl) (TG_tab 8 (by decide +kernel) rfl) kc_X6_find kd_X6_find
theorem fl_X9_253 : FL RX9 253 6 9 := ⟨RX6, TX6, 10, rfl, by decide, in_X6, Or.inr ⟨"NonogramSolver", List.mem_of_getElem? (i := 213) (by decide +kernel)⟩⟩
theorem fl_X9_256 : FL RX9 256 6 8 := ⟨RX6, TX6, 10, rfl, by decide, in_X6, Or.inr ⟨"NonogramSolver", List.mem_of_getElem? (i := 211) (by decide +kernel)⟩⟩
theorem lk_X9_259 : LkV RX9 259 yX6_lastSolutionColor cX6_lastSolutionColor 2 (some .int) 1 := LkV.of (TG_tab 738 (by decide +kernel) rfl) (TG_tab 739 (by decide +kernel) rfl) (TG_tab 740 (by decide +kernel) rfl) (TG_tab 8 (by decide +kernel) rfl) kc_X6_lastSolutionColor kd_X6_lastSolutionColor
theorem fl_X9_262 : FL RX9 262 6 7 := ⟨RX6, TX6, 10, rfl, by decide, in_X6, Or.inr ⟨"NonogramSolver", List.mem_of_getElem? (i := 209) (by decide +kernel)⟩⟩
theorem lk_X9_265 : LkV RX9 265 yX1_isAllDecided cX1_isAllDecided 1 (some .boolean) 0 := LkV.of (TG_tab 755 (by decide +kernel) rfl) (TG_tab 704 (by decide +kernel) rfl) (TG_tab 705 (by decide +kernel) rfl) (TG_tab 2 (by decide +kernel) rfl) kc_X1_isAllDecided kd_X1_isAllDecided
theorem lk_X9_269 : LkV RX9 269 yX1_describePicture cX1_describePicture 2 none 0 := LkV.of (TG_tab 760 (by decide +kernel) rfl) (TG_tab 761 (by decide +kernel) rfl) (TG_tab 762 (by decide +kernel) rfl) (TG_tab 2 (by decide +kernel) rfl) kc_X1_describePicture kd_X1_describePicture
theorem lk_X9_272 : LkV RX9 272 yX0_runTotal cX0_runTotal 3 (some .int) 0 := LkV.of (TG_tab 774 (by decide +kernel) rfl) (TG_tab 775 (by decide +kernel) rfl) (TG_tab 776 (by decide +kernel) rfl) (TG_tab 3 (by decide +kernel) rfl) kc_X0_runTotal kd_X0_runTotal
theorem lk_X9_275 : LkV RX9 275 yX1_cellTotal cX1_cellTotal 1 (some .int) 0 := LkV.of (TG_tab 782 (by decide +kernel) rfl) (TG_tab 518 (by decide +kernel) rfl) (TG_tab 519 (by decide +kernel) rfl) (TG_tab 2 (by decide +kernel) rfl) kc_X1_cellTotal kd_X1_cellTotal
theorem ko_X9_278 : Cond.constant RX9 278 (1103515245) ∈ TG := (TG_tab 783 (by decide +kernel) rfl)
theorem lk_X9_279 : LkV RX9 279 yX1_fillCandidates cX1_fillCandidates 1 none 0 := LkV.of (TG_tab 788 (by decide +kernel) rfl) (TG_tab 287 (by decide +kernel) rfl) (TG_tab 288 (by decide +kernel) rfl) (TG_tab 2 (by decide +kernel) rfl) kc_X1_fillCandidates kd_X1_fillCandidates
theorem fl_X9_76 : FL RX9 76 9 12 := ⟨RX9, TX9, 16, rfl, by decide, in_X9, Or.inl (TG_tab 303 (by decide +kernel) rfl)⟩
theorem lk_X9_282 : LkV RX9 282 yX8_append cX8_append 2 (some .boolean) 1 := LkV.of (TG_tab 793 (by decide +kernel) rfl) (TG_tab 794 (by decide +kernel) rfl) (TG_tab 795 (by decide +kernel) rfl) (TG_tab 9 (by decide +kernel) rfl) kc_X8_append kd_X8_append
theorem fl_X9_284 : FL RX9 284 8 1 := ⟨RX8, TX8, 2, rfl, by decide, in_X8, Or.inr ⟨"NonogramSolver", List.mem_of_getElem? (i := 247) (by decide +kernel)⟩⟩
theorem lk_X9_287 : LkV RX9 287 yX9_parseText cX9_parseText 6 (some .int) 0 := LkV.of (TG_tab 801 (by decide +kernel) rfl) (TG_tab 803 (by decide +kernel) rfl) (TG_sel (q := (yX9_parseText, 16)) 21 (by decide +kernel)) (TG_tab 1 (by decide +kernel) rfl) kc_X9_parseText kd_X9_parseText
theorem lk_X9_290 : LkV RX9 290 yX8_clear cX8_clear 1 none 0 := LkV.of (TG_tab 806 (by decide +kernel) rfl) (TG_tab 807 (by decide +kernel) rfl) (TG_tab 808 (by decide +kernel) rfl) (TG_tab 9 (by decide +kernel) rfl) kc_X8_clear kd_X8_clear
theorem fl_X9_86 : FL RX9 86 9 14 := ⟨RX9, TX9, 16, rfl, by decide, in_X9, Or.inl (TG_tab 305 (by decide +kernel) rfl)⟩
theorem lk_X9_293 : LkV RX9 293 yX0_copyFrom cX0_copyFrom 2 none 1 := LkV.of (TG_tab 810 (by decide +kernel) rfl) (TG_tab 394 (by decide +kernel) rfl) (TG_tab 395 (by decide +kernel) rfl) (TG_tab 3 (by decide +kernel) rfl) kc_X0_copyFrom kd_X0_copyFrom
theorem fl_X9_80 : FL RX9 80 9 13 := ⟨RX9, TX9, 16, rfl, by decide, in_X9, Or.inl (TG_tab 304 (by decide +kernel) rfl)⟩
theorem fl_X9_296 : FL RX9 296 8 0 := ⟨RX8, TX8, 2, rfl, by decide, in_X8, Or.inr ⟨"NonogramSolver", List.mem_of_getElem? (i := 245) (by decide +kernel)⟩⟩
theorem lk_X9_299 : LkV RX9 299 yX2_pop cX2_pop 2 (some .boolean) 1 := LkV.of (TG_tab 823 (by decide +kernel) rfl) (TG_tab 824 (by decide +kernel) rfl) (TG_tab 825 (by decide +kernel) rfl) (TG_tab 4 (by decide +kernel) rfl) kc_X2_pop kd_X2_pop
theorem fl_X9_302 : FL RX9 302 2 2 := ⟨RX2, TX2, 3, rfl, by decide, in_X2, Or.inr ⟨"NonogramSolver", List.mem_of_getElem? (i := 87) (by decide +kernel)⟩⟩
theorem fl_X9_19 : FL RX9 19 9 2 := ⟨RX9, TX9, 16, rfl, by decide, in_X9, Or.inl (TG_tab 293 (by decide +kernel) rfl)⟩
theorem fl_X9_22 : FL RX9 22 9 3 := ⟨RX9, TX9, 16, rfl, by decide, in_X9, Or.inl (TG_tab 294 (by decide +kernel) rfl)⟩
theorem lk_X9_305 : LkS RX9 305 yX9_hasTable cX9_hasTable 1 (some .boolean) 1 := LkS.of (TG_tab 839 (by decide +kernel) rfl) (TG_tab 840 (by decide +kernel) rfl) (TG_tab 1 (by decide +kernel) rfl) kc_X9_hasTable kd_X9_hasTable
theorem fl_X9_93 : FL RX9 93 9 15 := ⟨RX9, TX9, 16, rfl, by decide, in_X9, Or.inl (TG_tab 306 (by decide +kernel) rfl)⟩
theorem lk_X9_308 : LkV RX9 308 yX7_start cX7_start 3 none 2 := LkV.of (TG_tab 842 (by decide +kernel) rfl) (TG_tab 843 (by decide +kernel) rfl) (TG_tab 844 (by decide +kernel) rfl) (TG_tab 11 (by decide +kernel) rfl) kc_X7_start kd_X7_start
theorem lk_X9_311 : LkV RX9 311 yX9_elementError cX9_elementError 4 (some .int) 2 := LkV.of (TG_tab 851 (by decide +kernel) rfl) (TG_tab 853 (by decide +kernel) rfl) (TG_sel (q := (yX9_elementError, 16)) 22 (by decide +kernel)) (TG_tab 1 (by decide +kernel) rfl) kc_X9_elementError kd_X9_elementError
theorem lk_X9_314 : LkV RX9 314 yX7_store cX7_store 3 none 2 := LkV.of (TG_tab 859 (by decide +kernel) rfl) (TG_tab 860 (by decide +kernel) rfl) (TG_tab 861 (by decide +kernel) rfl) (TG_tab 11 (by decide +kernel) rfl) kc_X7_store kd_X7_store
theorem fl_X9_317 : FL RX9 317 7 0 := ⟨RX7, TX7, 3, rfl, by decide, in_X7, Or.inr ⟨"NonogramSolver", List.mem_of_getElem? (i := 263) (by decide +kernel)⟩⟩
theorem lk_X9_320 : LkV RX9 320 yX9_tableError cX9_tableError 2 (some .int) 1 := LkV.of (TG_tab 855 (by decide +kernel) rfl) (TG_tab 857 (by decide +kernel) rfl) (TG_sel (q := (yX9_tableError, 16)) 23 (by decide +kernel)) (TG_tab 1 (by decide +kernel) rfl) kc_X9_tableError kd_X9_tableError
theorem fl_X9_323 : FL RX9 323 7 1 := ⟨RX7, TX7, 3, rfl, by decide, in_X7, Or.inr ⟨"NonogramSolver", List.mem_of_getElem? (i := 265) (by decide +kernel)⟩⟩
theorem fl_X9_326 : FL RX9 326 7 2 := ⟨RX7, TX7, 3, rfl, by decide, in_X7, Or.inr ⟨"NonogramSolver", List.mem_of_getElem? (i := 267) (by decide +kernel)⟩⟩
theorem lk_X9_327 : LkS RX9 327 yJ9_min_7cf53 cJ9_min_7cf53 2 (some .int) 2 := LkS.of (TG_tab 871 (by decide +kernel) rfl) (TG_tab 402 (by decide +kernel) rfl) (TG_tab 10 (by decide +kernel) rfl) kc_J9_min_7cf53 kd_J9_min_7cf53
theorem lk_X9_332 : LkV RX9 332 yX1_hasCandidate cX1_hasCandidate 3 (some .boolean) 2 := LkV.of (TG_tab 496 (by decide +kernel) rfl) (TG_tab 497 (by decide +kernel) rfl) (TG_tab 498 (by decide +kernel) rfl) (TG_tab 2 (by decide +kernel) rfl) kc_X1_hasCandidate kd_X1_hasCandidate
theorem lk_X9_335 : LkV RX9 335 yX0_emptyAll cX0_emptyAll 1 none 0 := LkV.of (TG_tab 805 (by decide +kernel) rfl) (TG_tab 280 (by decide +kernel) rfl) (TG_tab 281 (by decide +kernel) rfl) (TG_tab 3 (by decide +kernel) rfl) kc_X0_emptyAll kd_X0_emptyAll
theorem fp_X10_7 : FP RX10 7 10 0 .int := ⟨RX10, TX10, 51, tyX10, rfl, by decide, in_X10, Or.inl (TG_tab 890 (by decide +kernel) rfl), tyX10_ok, nmX10, rfl, by decide +kernel⟩
theorem fp_X10_13 : FP RX10 13 10 1 .int := ⟨RX10, TX10, 51, tyX10, rfl, by decide, in_X10, Or.inl (TG_tab 891 (by decide +kernel) rfl), tyX10_ok, nmX10, rfl, by decide +kernel⟩
theorem fp_X10_16 : FP RX10 16 10 2 .int := ⟨RX10, TX10, 51, tyX10, rfl, by decide, in_X10, Or.inl (TG_tab 892 (by decide +kernel) rfl), tyX10_ok, nmX10, rfl, by decide +kernel⟩
theorem fp_X10_19 : FP RX10 19 10 3 .int := ⟨RX10, TX10, 51, tyX10, rfl, by decide, in_X10, Or.inl (TG_tab 893 (by decide +kernel) rfl), tyX10_ok, nmX10, rfl, by decide +kernel⟩
theorem fp_X10_35 : FP RX10 35 10 8 .int := ⟨RX10, TX10, 51, tyX10, rfl, by decide, in_X10, Or.inl (TG_tab 898 (by decide +kernel) rfl), tyX10_ok, nmX10, rfl, by decide +kernel⟩
theorem fp_X10_50 : FP RX10 50 10 13 .int := ⟨RX10, TX10, 51, tyX10, rfl, by decide, in_X10, Or.inl (TG_tab 903 (by decide +kernel) rfl), tyX10_ok, nmX10, rfl, by decide +kernel⟩
theorem fp_X10_53 : FP RX10 53 10 14 .int := ⟨RX10, TX10, 51, tyX10, rfl, by decide, in_X10, Or.inl (TG_tab 904 (by decide +kernel) rfl), tyX10_ok, nmX10, rfl, by decide +kernel⟩
theorem fp_X10_62 : FP RX10 62 10 17 .int := ⟨RX10, TX10, 51, tyX10, rfl, by decide, in_X10, Or.inl (TG_tab 907 (by decide +kernel) rfl), tyX10_ok, nmX10, rfl, by decide +kernel⟩
theorem fp_X10_65 : FP RX10 65 10 18 .int := ⟨RX10, TX10, 51, tyX10, rfl, by decide, in_X10, Or.inl (TG_tab 908 (by decide +kernel) rfl), tyX10_ok, nmX10, rfl, by decide +kernel⟩
theorem fp_X10_68 : FP RX10 68 10 19 .int := ⟨RX10, TX10, 51, tyX10, rfl, by decide, in_X10, Or.inl (TG_tab 909 (by decide +kernel) rfl), tyX10_ok, nmX10, rfl, by decide +kernel⟩
theorem fp_X10_71 : FP RX10 71 10 20 .int := ⟨RX10, TX10, 51, tyX10, rfl, by decide, in_X10, Or.inl (TG_tab 910 (by decide +kernel) rfl), tyX10_ok, nmX10, rfl, by decide +kernel⟩
theorem fp_X10_74 : FP RX10 74 10 21 .int := ⟨RX10, TX10, 51, tyX10, rfl, by decide, in_X10, Or.inl (TG_tab 911 (by decide +kernel) rfl), tyX10_ok, nmX10, rfl, by decide +kernel⟩
theorem fp_X10_77 : FP RX10 77 10 22 .int := ⟨RX10, TX10, 51, tyX10, rfl, by decide, in_X10, Or.inl (TG_tab 912 (by decide +kernel) rfl), tyX10_ok, nmX10, rfl, by decide +kernel⟩
theorem fp_X10_80 : FP RX10 80 10 23 .int := ⟨RX10, TX10, 51, tyX10, rfl, by decide, in_X10, Or.inl (TG_tab 913 (by decide +kernel) rfl), tyX10_ok, nmX10, rfl, by decide +kernel⟩
theorem fp_X10_83 : FP RX10 83 10 24 .int := ⟨RX10, TX10, 51, tyX10, rfl, by decide, in_X10, Or.inl (TG_tab 914 (by decide +kernel) rfl), tyX10_ok, nmX10, rfl, by decide +kernel⟩
theorem fp_X10_86 : FP RX10 86 10 25 .int := ⟨RX10, TX10, 51, tyX10, rfl, by decide, in_X10, Or.inl (TG_tab 915 (by decide +kernel) rfl), tyX10_ok, nmX10, rfl, by decide +kernel⟩
theorem fp_X10_92 : FP RX10 92 10 27 .int := ⟨RX10, TX10, 51, tyX10, rfl, by decide, in_X10, Or.inl (TG_tab 917 (by decide +kernel) rfl), tyX10_ok, nmX10, rfl, by decide +kernel⟩
theorem fp_X10_95 : FP RX10 95 10 28 .int := ⟨RX10, TX10, 51, tyX10, rfl, by decide, in_X10, Or.inl (TG_tab 918 (by decide +kernel) rfl), tyX10_ok, nmX10, rfl, by decide +kernel⟩
theorem fp_X10_98 : FP RX10 98 10 29 .int := ⟨RX10, TX10, 51, tyX10, rfl, by decide, in_X10, Or.inl (TG_tab 919 (by decide +kernel) rfl), tyX10_ok, nmX10, rfl, by decide +kernel⟩
theorem fp_X10_101 : FP RX10 101 10 30 .boolean := ⟨RX10, TX10, 51, tyX10, rfl, by decide, in_X10, Or.inl (TG_tab 920 (by decide +kernel) rfl), tyX10_ok, nmX10, rfl, by decide +kernel⟩
theorem fp_X10_117 : FP RX10 117 10 35 .int := ⟨RX10, TX10, 51, tyX10, rfl, by decide, in_X10, Or.inl (TG_tab 925 (by decide +kernel) rfl), tyX10_ok, nmX10, rfl, by decide +kernel⟩
theorem fp_X10_120 : FP RX10 120 10 36 .int := ⟨RX10, TX10, 51, tyX10, rfl, by decide, in_X10, Or.inl (TG_tab 926 (by decide +kernel) rfl), tyX10_ok, nmX10, rfl, by decide +kernel⟩
theorem fp_X10_132 : FP RX10 132 10 40 .boolean := ⟨RX10, TX10, 51, tyX10, rfl, by decide, in_X10, Or.inl (TG_tab 930 (by decide +kernel) rfl), tyX10_ok, nmX10, rfl, by decide +kernel⟩
theorem fp_X10_135 : FP RX10 135 10 41 .int := ⟨RX10, TX10, 51, tyX10, rfl, by decide, in_X10, Or.inl (TG_tab 931 (by decide +kernel) rfl), tyX10_ok, nmX10, rfl, by decide +kernel⟩
theorem fp_X10_138 : FP RX10 138 10 42 .int := ⟨RX10, TX10, 51, tyX10, rfl, by decide, in_X10, Or.inl (TG_tab 932 (by decide +kernel) rfl), tyX10_ok, nmX10, rfl, by decide +kernel⟩
theorem fp_X10_141 : FP RX10 141 10 43 .int := ⟨RX10, TX10, 51, tyX10, rfl, by decide, in_X10, Or.inl (TG_tab 933 (by decide +kernel) rfl), tyX10_ok, nmX10, rfl, by decide +kernel⟩
theorem lk_X10_165 : LkV RX10 165 yX10_open cX10_open 2 none 0 := LkV.of (TG_tab 886 (by decide +kernel) rfl) (TG_tab 888 (by decide +kernel) rfl) (TG_sel (q := (yX10_open, 51)) 24 (by decide +kernel)) (TG_tab 13 (by decide +kernel) rfl) kc_X10_open kd_X10_open
theorem fl_X10_22 : FL RX10 22 10 4 := ⟨RX10, TX10, 51, rfl, by decide, in_X10, Or.inl (TG_tab 894 (by decide +kernel) rfl)⟩
theorem fl_X10_16 : FL RX10 16 10 2 := ⟨RX10, TX10, 51, rfl, by decide, in_X10, Or.inl (TG_tab 892 (by decide +kernel) rfl)⟩
theorem fl_X10_7 : FL RX10 7 10 0 := ⟨RX10, TX10, 51, rfl, by decide, in_X10, Or.inl (TG_tab 890 (by decide +kernel) rfl)⟩
theorem fl_X10_13 : FL RX10 13 10 1 := ⟨RX10, TX10, 51, rfl, by decide, in_X10, Or.inl (TG_tab 891 (by decide +kernel) rfl)⟩
theorem lk_X10_168 : LkV RX10 168 yX10_lines cX10_lines 1 (some .int) 0 := LkV.of (TG_tab 1060 (by decide +kernel) rfl) (TG_tab 1062 (by decide +kernel) rfl) (TG_sel (q := (yX10_lines, 51)) 26 (by decide +kernel)) (TG_tab 13 (by decide +kernel) rfl) kc_X10_lines kd_X10_lines
theorem lk_X10_172 : LkV RX10 172 yX10_within cX10_within 4 (some .boolean) 3 := LkV.of (TG_tab 1056 (by decide +kernel) rfl) (TG_tab 1058 (by decide +kernel) rfl) (TG_sel (q := (yX10_within, 51)) 25 (by decide +kernel)) (TG_tab 13 (by decide +kernel) rfl) kc_X10_within kd_X10_within
theorem fl_X10_38 : FL RX10 38 10 9 := ⟨RX10, TX10, 51, rfl, by decide, in_X10, Or.inl (TG_tab 899 (by decide +kernel) rfl)⟩
theorem fl_X10_41 : FL RX10 41 10 10 := ⟨RX10, TX10, 51, rfl, by decide, in_X10, Or.inl (TG_tab 900 (by decide +kernel) rfl)⟩
theorem fl_X10_44 : FL RX10 44 10 11 := ⟨RX10, TX10, 51, rfl, by decide, in_X10, Or.inl (TG_tab 901 (by decide +kernel) rfl)⟩
theorem fl_X10_47 : FL RX10 47 10 12 := ⟨RX10, TX10, 51, rfl, by decide, in_X10, Or.inl (TG_tab 902 (by decide +kernel) rfl)⟩
theorem fl_X10_35 : FL RX10 35 10 8 := ⟨RX10, TX10, 51, rfl, by decide, in_X10, Or.inl (TG_tab 898 (by decide +kernel) rfl)⟩
theorem lk_X10_176 : LkV RX10 176 yX10_move cX10_move 4 none 2 := LkV.of (TG_tab 1088 (by decide +kernel) rfl) (TG_tab 1090 (by decide +kernel) rfl) (TG_sel (q := (yX10_move, 51)) 29 (by decide +kernel)) (TG_tab 13 (by decide +kernel) rfl) kc_X10_move kd_X10_move
theorem fl_X10_26 : FL RX10 26 10 5 := ⟨RX10, TX10, 51, rfl, by decide, in_X10, Or.inl (TG_tab 895 (by decide +kernel) rfl)⟩
theorem fl_X10_29 : FL RX10 29 10 6 := ⟨RX10, TX10, 51, rfl, by decide, in_X10, Or.inl (TG_tab 896 (by decide +kernel) rfl)⟩
theorem fl_X10_32 : FL RX10 32 10 7 := ⟨RX10, TX10, 51, rfl, by decide, in_X10, Or.inl (TG_tab 897 (by decide +kernel) rfl)⟩
theorem lk_X10_180 : LkV RX10 180 yX10_isLine cX10_isLine 2 (some .boolean) 1 := LkV.of (TG_tab 1080 (by decide +kernel) rfl) (TG_tab 1082 (by decide +kernel) rfl) (TG_sel (q := (yX10_isLine, 51)) 27 (by decide +kernel)) (TG_tab 13 (by decide +kernel) rfl) kc_X10_isLine kd_X10_isLine
theorem lk_X10_184 : LkV RX10 184 yX10_keep cX10_keep 2 none 0 := LkV.of (TG_tab 1084 (by decide +kernel) rfl) (TG_tab 1086 (by decide +kernel) rfl) (TG_sel (q := (yX10_keep, 51)) 28 (by decide +kernel)) (TG_tab 13 (by decide +kernel) rfl) kc_X10_keep kd_X10_keep
theorem lk_X10_187 : LkV RX10 187 yX10_push cX10_push 4 none 3 := LkV.of (TG_tab 1092 (by decide +kernel) rfl) (TG_tab 1094 (by decide +kernel) rfl) (TG_sel (q := (yX10_push, 51)) 30 (by decide +kernel)) (TG_tab 13 (by decide +kernel) rfl) kc_X10_push kd_X10_push
theorem lk_X10_191 : LkV RX10 191 yX10_isRun cX10_isRun 3 (some .boolean) 2 := LkV.of (TG_tab 1108 (by decide +kernel) rfl) (TG_tab 1110 (by decide +kernel) rfl) (TG_sel (q := (yX10_isRun, 51)) 31 (by decide +kernel)) (TG_tab 13 (by decide +kernel) rfl) kc_X10_isRun kd_X10_isRun
theorem lk_X10_195 : LkV RX10 195 yX10_isCell cX10_isCell 3 (some .boolean) 2 := LkV.of (TG_tab 1124 (by decide +kernel) rfl) (TG_tab 1126 (by decide +kernel) rfl) (TG_sel (q := (yX10_isCell, 51)) 32 (by decide +kernel)) (TG_tab 13 (by decide +kernel) rfl) kc_X10_isCell kd_X10_isCell
theorem lk_X10_198 : LkV RX10 198 yX10_isDecided cX10_isDecided 2 (some .boolean) 1 := LkV.of (TG_tab 1132 (by decide +kernel) rfl) (TG_tab 1134 (by decide +kernel) rfl) (TG_sel (q := (yX10_isDecided, 51)) 33 (by decide +kernel)) (TG_tab 13 (by decide +kernel) rfl) kc_X10_isDecided kd_X10_isDecided
theorem lk_X10_201 : LkV RX10 201 yX10_colorAt cX10_colorAt 3 (some .int) 1 := LkV.of (TG_tab 1136 (by decide +kernel) rfl) (TG_tab 1138 (by decide +kernel) rfl) (TG_sel (q := (yX10_colorAt, 51)) 34 (by decide +kernel)) (TG_tab 13 (by decide +kernel) rfl) kc_X10_colorAt kd_X10_colorAt
theorem lk_X10_205 : LkV RX10 205 yX10_isColor cX10_isColor 2 (some .boolean) 1 := LkV.of (TG_tab 1144 (by decide +kernel) rfl) (TG_tab 1146 (by decide +kernel) rfl) (TG_sel (q := (yX10_isColor, 51)) 35 (by decide +kernel)) (TG_tab 13 (by decide +kernel) rfl) kc_X10_isColor kd_X10_isColor
theorem lk_X10_208 : LkV RX10 208 yX10_ones cX10_ones 4 (some .int) 1 := LkV.of (TG_tab 1148 (by decide +kernel) rfl) (TG_tab 1150 (by decide +kernel) rfl) (TG_sel (q := (yX10_ones, 51)) 36 (by decide +kernel)) (TG_tab 13 (by decide +kernel) rfl) kc_X10_ones kd_X10_ones
theorem lk_X10_211 : LkV RX10 211 yX10_decidedIn cX10_decidedIn 5 (some .int) 1 := LkV.of (TG_tab 1160 (by decide +kernel) rfl) (TG_tab 1162 (by decide +kernel) rfl) (TG_sel (q := (yX10_decidedIn, 51)) 37 (by decide +kernel)) (TG_tab 13 (by decide +kernel) rfl) kc_X10_decidedIn kd_X10_decidedIn
theorem lk_X10_214 : LkV RX10 214 yX10_size cX10_size 2 (some .int) 1 := LkV.of (TG_tab 1168 (by decide +kernel) rfl) (TG_tab 1170 (by decide +kernel) rfl) (TG_sel (q := (yX10_size, 51)) 38 (by decide +kernel)) (TG_tab 13 (by decide +kernel) rfl) kc_X10_size kd_X10_size
theorem lk_X10_217 : LkV RX10 217 yX10_cellOf cX10_cellOf 3 (some .int) 2 := LkV.of (TG_tab 1172 (by decide +kernel) rfl) (TG_tab 1174 (by decide +kernel) rfl) (TG_sel (q := (yX10_cellOf, 51)) 39 (by decide +kernel)) (TG_tab 13 (by decide +kernel) rfl) kc_X10_cellOf kd_X10_cellOf
theorem fl_X10_65 : FL RX10 65 10 18 := ⟨RX10, TX10, 51, rfl, by decide, in_X10, Or.inl (TG_tab 908 (by decide +kernel) rfl)⟩
theorem fl_X10_59 : FL RX10 59 10 16 := ⟨RX10, TX10, 51, rfl, by decide, in_X10, Or.inl (TG_tab 906 (by decide +kernel) rfl)⟩
theorem fl_X10_56 : FL RX10 56 10 15 := ⟨RX10, TX10, 51, rfl, by decide, in_X10, Or.inl (TG_tab 905 (by decide +kernel) rfl)⟩
theorem fl_X10_68 : FL RX10 68 10 19 := ⟨RX10, TX10, 51, rfl, by decide, in_X10, Or.inl (TG_tab 909 (by decide +kernel) rfl)⟩
theorem fl_X10_71 : FL RX10 71 10 20 := ⟨RX10, TX10, 51, rfl, by decide, in_X10, Or.inl (TG_tab 910 (by decide +kernel) rfl)⟩
theorem fl_X10_74 : FL RX10 74 10 21 := ⟨RX10, TX10, 51, rfl, by decide, in_X10, Or.inl (TG_tab 911 (by decide +kernel) rfl)⟩
theorem fl_X10_62 : FL RX10 62 10 17 := ⟨RX10, TX10, 51, rfl, by decide, in_X10, Or.inl (TG_tab 907 (by decide +kernel) rfl)⟩
theorem lk_X10_221 : LkV RX10 221 yX10_assign cX10_assign 8 none 3 := LkV.of (TG_tab 1184 (by decide +kernel) rfl) (TG_tab 1186 (by decide +kernel) rfl) (TG_sel (q := (yX10_assign, 51)) 41 (by decide +kernel)) (TG_tab 13 (by decide +kernel) rfl) kc_X10_assign kd_X10_assign
theorem lk_X10_224 : LkV RX10 224 yX10_assignAll cX10_assignAll 4 none 2 := LkV.of (TG_tab 1180 (by decide +kernel) rfl) (TG_tab 1182 (by decide +kernel) rfl) (TG_sel (q := (yX10_assignAll, 51)) 40 (by decide +kernel)) (TG_tab 13 (by decide +kernel) rfl) kc_X10_assignAll kd_X10_assignAll
theorem fl_X10_77 : FL RX10 77 10 22 := ⟨RX10, TX10, 51, rfl, by decide, in_X10, Or.inl (TG_tab 912 (by decide +kernel) rfl)⟩
theorem fl_X10_80 : FL RX10 80 10 23 := ⟨RX10, TX10, 51, rfl, by decide, in_X10, Or.inl (TG_tab 913 (by decide +kernel) rfl)⟩
theorem lk_X10_227 : LkV RX10 227 yX10_solve cX10_solve 6 (some .int) 2 := LkV.of (TG_tab 1200 (by decide +kernel) rfl) (TG_tab 1202 (by decide +kernel) rfl) (TG_sel (q := (yX10_solve, 51)) 43 (by decide +kernel)) (TG_tab 13 (by decide +kernel) rfl) kc_X10_solve kd_X10_solve
theorem lk_X10_230 : LkV RX10 230 yX10_copy cX10_copy 4 none 2 := LkV.of (TG_tab 1196 (by decide +kernel) rfl) (TG_tab 1198 (by decide +kernel) rfl) (TG_sel (q := (yX10_copy, 51)) 42 (by decide +kernel)) (TG_tab 13 (by decide +kernel) rfl) kc_X10_copy kd_X10_copy
theorem lk_X10_233 : LkV RX10 233 yX10_contradiction cX10_contradiction 3 (some .int) 2 := LkV.of (TG_tab 1204 (by decide +kernel) rfl) (TG_tab 1206 (by decide +kernel) rfl) (TG_sel (q := (yX10_contradiction, 51)) 44 (by decide +kernel)) (TG_tab 13 (by decide +kernel) rfl) kc_X10_contradiction kd_X10_contradiction
theorem lk_X10_236 : LkV RX10 236 yX10_takeOver cX10_takeOver 2 (some .int) 1 := LkV.of (TG_tab 1208 (by decide +kernel) rfl) (TG_tab 1210 (by decide +kernel) rfl) (TG_sel (q := (yX10_takeOver, 51)) 45 (by decide +kernel)) (TG_tab 13 (by decide +kernel) rfl) kc_X10_takeOver kd_X10_takeOver
theorem lk_X10_239 : LkV RX10 239 yX10_spread cX10_spread 6 (some .int) 1 := LkV.of (TG_tab 1216 (by decide +kernel) rfl) (TG_tab 1218 (by decide +kernel) rfl) (TG_sel (q := (yX10_spread, 51)) 46 (by decide +kernel)) (TG_tab 13 (by decide +kernel) rfl) kc_X10_spread kd_X10_spread
theorem fl_X10_83 : FL RX10 83 10 24 := ⟨RX10, TX10, 51, rfl, by decide, in_X10, Or.inl (TG_tab 914 (by decide +kernel) rfl)⟩
theorem lk_X10_242 : LkV RX10 242 yX10_fails cX10_fails 4 (some .boolean) 3 := LkV.of (TG_tab 1228 (by decide +kernel) rfl) (TG_tab 1230 (by decide +kernel) rfl) (TG_sel (q := (yX10_fails, 51)) 47 (by decide +kernel)) (TG_tab 13 (by decide +kernel) rfl) kc_X10_fails kd_X10_fails
theorem fl_X10_86 : FL RX10 86 10 25 := ⟨RX10, TX10, 51, rfl, by decide, in_X10, Or.inl (TG_tab 915 (by decide +kernel) rfl)⟩
theorem lk_X10_245 : LkV RX10 245 yX10_probeRound cX10_probeRound 4 (some .boolean) 0 := LkV.of (TG_tab 1236 (by decide +kernel) rfl) (TG_tab 1238 (by decide +kernel) rfl) (TG_sel (q := (yX10_probeRound, 51)) 48 (by decide +kernel)) (TG_tab 13 (by decide +kernel) rfl) kc_X10_probeRound kd_X10_probeRound
theorem fl_X10_50 : FL RX10 50 10 13 := ⟨RX10, TX10, 51, rfl, by decide, in_X10, Or.inl (TG_tab 903 (by decide +kernel) rfl)⟩
theorem fl_X10_53 : FL RX10 53 10 14 := ⟨RX10, TX10, 51, rfl, by decide, in_X10, Or.inl (TG_tab 904 (by decide +kernel) rfl)⟩
theorem fl_X10_19 : FL RX10 19 10 3 := ⟨RX10, TX10, 51, rfl, by decide, in_X10, Or.inl (TG_tab 893 (by decide +kernel) rfl)⟩
theorem lk_X10_249 : LkV RX10 249 yX10_rank cX10_rank 5 (some .int) 2 := LkV.of (TG_tab 1268 (by decide +kernel) rfl) (TG_tab 1270 (by decide +kernel) rfl) (TG_sel (q := (yX10_rank, 51)) 52 (by decide +kernel)) (TG_tab 13 (by decide +kernel) rfl) kc_X10_rank kd_X10_rank
theorem fl_X10_92 : FL RX10 92 10 27 := ⟨RX10, TX10, 51, rfl, by decide, in_X10, Or.inl (TG_tab 917 (by decide +kernel) rfl)⟩
theorem lk_X10_252 : LkV RX10 252 yX10_select cX10_select 6 (some .int) 1 := LkV.of (TG_tab 1264 (by decide +kernel) rfl) (TG_tab 1266 (by decide +kernel) rfl) (TG_sel (q := (yX10_select, 51)) 51 (by decide +kernel)) (TG_tab 13 (by decide +kernel) rfl) kc_X10_select kd_X10_select
theorem fl_X10_95 : FL RX10 95 10 28 := ⟨RX10, TX10, 51, rfl, by decide, in_X10, Or.inl (TG_tab 918 (by decide +kernel) rfl)⟩
theorem fl_X10_89 : FL RX10 89 10 26 := ⟨RX10, TX10, 51, rfl, by decide, in_X10, Or.inl (TG_tab 916 (by decide +kernel) rfl)⟩
theorem fl_X10_101 : FL RX10 101 10 30 := ⟨RX10, TX10, 51, rfl, by decide, in_X10, Or.inl (TG_tab 920 (by decide +kernel) rfl)⟩
theorem fl_X10_98 : FL RX10 98 10 29 := ⟨RX10, TX10, 51, rfl, by decide, in_X10, Or.inl (TG_tab 919 (by decide +kernel) rfl)⟩
theorem lk_X10_255 : LkV RX10 255 yX10_visit cX10_visit 5 none 1 := LkV.of (TG_tab 1260 (by decide +kernel) rfl) (TG_tab 1262 (by decide +kernel) rfl) (TG_sel (q := (yX10_visit, 51)) 50 (by decide +kernel)) (TG_tab 13 (by decide +kernel) rfl) kc_X10_visit kd_X10_visit
theorem lk_X10_259 : LkV RX10 259 yX10_search cX10_search 2 (some .boolean) 1 := LkV.of (TG_tab 1256 (by decide +kernel) rfl) (TG_tab 1258 (by decide +kernel) rfl) (TG_sel (q := (yX10_search, 51)) 49 (by decide +kernel)) (TG_tab 13 (by decide +kernel) rfl) kc_X10_search kd_X10_search
theorem fl_X10_105 : FL RX10 105 10 31 := ⟨RX10, TX10, 51, rfl, by decide, in_X10, Or.inl (TG_tab 921 (by decide +kernel) rfl)⟩
theorem fl_X10_108 : FL RX10 108 10 32 := ⟨RX10, TX10, 51, rfl, by decide, in_X10, Or.inl (TG_tab 922 (by decide +kernel) rfl)⟩
theorem lk_X10_262 : LkV RX10 262 yX10_blocks cX10_blocks 6 (some .int) 1 := LkV.of (TG_tab 1288 (by decide +kernel) rfl) (TG_tab 1290 (by decide +kernel) rfl) (TG_sel (q := (yX10_blocks, 51)) 53 (by decide +kernel)) (TG_tab 13 (by decide +kernel) rfl) kc_X10_blocks kd_X10_blocks
theorem lk_X10_265 : LkV RX10 265 yX10_take cX10_take 5 (some .int) 0 := LkV.of (TG_tab 1296 (by decide +kernel) rfl) (TG_tab 1298 (by decide +kernel) rfl) (TG_sel (q := (yX10_take, 51)) 54 (by decide +kernel)) (TG_tab 13 (by decide +kernel) rfl) kc_X10_take kd_X10_take
theorem ko_X10_268 : Cond.constant RX10 268 (1103515245) ∈ TG := (TG_tab 1304 (by decide +kernel) rfl)
theorem fl_X10_117 : FL RX10 117 10 35 := ⟨RX10, TX10, 51, rfl, by decide, in_X10, Or.inl (TG_tab 925 (by decide +kernel) rfl)⟩
theorem fl_X10_111 : FL RX10 111 10 33 := ⟨RX10, TX10, 51, rfl, by decide, in_X10, Or.inl (TG_tab 923 (by decide +kernel) rfl)⟩
theorem fl_X10_123 : FL RX10 123 10 37 := ⟨RX10, TX10, 51, rfl, by decide, in_X10, Or.inl (TG_tab 927 (by decide +kernel) rfl)⟩
theorem fl_X10_126 : FL RX10 126 10 38 := ⟨RX10, TX10, 51, rfl, by decide, in_X10, Or.inl (TG_tab 928 (by decide +kernel) rfl)⟩
theorem fl_X10_129 : FL RX10 129 10 39 := ⟨RX10, TX10, 51, rfl, by decide, in_X10, Or.inl (TG_tab 929 (by decide +kernel) rfl)⟩
theorem lk_X10_269 : LkV RX10 269 yX10_read cX10_read 6 (some .int) 1 := LkV.of (TG_tab 1317 (by decide +kernel) rfl) (TG_tab 1319 (by decide +kernel) rfl) (TG_sel (q := (yX10_read, 51)) 55 (by decide +kernel)) (TG_tab 13 (by decide +kernel) rfl) kc_X10_read kd_X10_read
theorem fl_X10_114 : FL RX10 114 10 34 := ⟨RX10, TX10, 51, rfl, by decide, in_X10, Or.inl (TG_tab 924 (by decide +kernel) rfl)⟩
theorem fl_X10_120 : FL RX10 120 10 36 := ⟨RX10, TX10, 51, rfl, by decide, in_X10, Or.inl (TG_tab 926 (by decide +kernel) rfl)⟩
theorem lk_X10_272 : LkV RX10 272 yX10_say cX10_say 2 none 1 := LkV.of (TG_tab 1325 (by decide +kernel) rfl) (TG_tab 1327 (by decide +kernel) rfl) (TG_sel (q := (yX10_say, 51)) 56 (by decide +kernel)) (TG_tab 13 (by decide +kernel) rfl) kc_X10_say kd_X10_say
theorem fl_X10_144 : FL RX10 144 10 44 := ⟨RX10, TX10, 51, rfl, by decide, in_X10, Or.inl (TG_tab 934 (by decide +kernel) rfl)⟩
theorem fl_X10_147 : FL RX10 147 10 45 := ⟨RX10, TX10, 51, rfl, by decide, in_X10, Or.inl (TG_tab 935 (by decide +kernel) rfl)⟩
theorem fl_X10_150 : FL RX10 150 10 46 := ⟨RX10, TX10, 51, rfl, by decide, in_X10, Or.inl (TG_tab 936 (by decide +kernel) rfl)⟩
theorem fl_X10_153 : FL RX10 153 10 47 := ⟨RX10, TX10, 51, rfl, by decide, in_X10, Or.inl (TG_tab 937 (by decide +kernel) rfl)⟩
theorem fl_X10_132 : FL RX10 132 10 40 := ⟨RX10, TX10, 51, rfl, by decide, in_X10, Or.inl (TG_tab 930 (by decide +kernel) rfl)⟩
theorem fl_X10_135 : FL RX10 135 10 41 := ⟨RX10, TX10, 51, rfl, by decide, in_X10, Or.inl (TG_tab 931 (by decide +kernel) rfl)⟩
theorem fl_X10_138 : FL RX10 138 10 42 := ⟨RX10, TX10, 51, rfl, by decide, in_X10, Or.inl (TG_tab 932 (by decide +kernel) rfl)⟩
theorem fl_X10_141 : FL RX10 141 10 43 := ⟨RX10, TX10, 51, rfl, by decide, in_X10, Or.inl (TG_tab 933 (by decide +kernel) rfl)⟩
theorem lk_X10_275 : LkV RX10 275 yX10_isTable cX10_isTable 2 (some .boolean) 1 := LkV.of (TG_tab 1345 (by decide +kernel) rfl) (TG_tab 1347 (by decide +kernel) rfl) (TG_sel (q := (yX10_isTable, 51)) 57 (by decide +kernel)) (TG_tab 13 (by decide +kernel) rfl) kc_X10_isTable kd_X10_isTable
theorem fl_X10_156 : FL RX10 156 10 48 := ⟨RX10, TX10, 51, rfl, by decide, in_X10, Or.inl (TG_tab 938 (by decide +kernel) rfl)⟩
theorem fl_X10_159 : FL RX10 159 10 49 := ⟨RX10, TX10, 51, rfl, by decide, in_X10, Or.inl (TG_tab 939 (by decide +kernel) rfl)⟩
theorem fl_X10_162 : FL RX10 162 10 50 := ⟨RX10, TX10, 51, rfl, by decide, in_X10, Or.inl (TG_tab 940 (by decide +kernel) rfl)⟩
theorem lk_X10_278 : LkV RX10 278 yX10_lay cX10_lay 4 none 3 := LkV.of (TG_tab 1353 (by decide +kernel) rfl) (TG_tab 1355 (by decide +kernel) rfl) (TG_sel (q := (yX10_lay, 51)) 58 (by decide +kernel)) (TG_tab 13 (by decide +kernel) rfl) kc_X10_lay kd_X10_lay
theorem lk_X10_281 : LkV RX10 281 yX10_cellAt cX10_cellAt 2 (some .int) 1 := LkV.of (TG_tab 1365 (by decide +kernel) rfl) (TG_tab 1367 (by decide +kernel) rfl) (TG_sel (q := (yX10_cellAt, 51)) 59 (by decide +kernel)) (TG_tab 13 (by decide +kernel) rfl) kc_X10_cellAt kd_X10_cellAt
theorem ko_J6_265 : Cond.constant RJ6 265 (1431655765) ∈ TG := (TG_tab 481 (by decide +kernel) rfl)
theorem ko_J6_266 : Cond.constant RJ6 266 (858993459) ∈ TG := (TG_tab 482 (by decide +kernel) rfl)
theorem ko_J6_267 : Cond.constant RJ6 267 (252645135) ∈ TG := (TG_tab 483 (by decide +kernel) rfl)
theorem lk_L_9 : LkI RL 9 yX9_init cX9_init 1 0 := LkI.of (Or.inl (TG_tab 18 (by decide +kernel) rfl)) (TG_tab 19 (by decide +kernel) rfl) (TG_tab 1 (by decide +kernel) rfl) kc_X9_init rfl kd_X9_init
theorem lk_L_12 : LkI RL 12 yX10_init cX10_init 1 0 := LkI.of (Or.inl (TG_tab 882 (by decide +kernel) rfl)) (TG_tab 883 (by decide +kernel) rfl) (TG_tab 13 (by decide +kernel) rfl) kc_X10_init rfl kd_X10_init
theorem lk_L_13 : LkV RL 13 yX9_reset cX9_reset 4 (some .int) 3 := LkV.of (TG_tab 340 (by decide +kernel) rfl) (TG_tab 341 (by decide +kernel) rfl) (TG_tab 342 (by decide +kernel) rfl) (TG_tab 1 (by decide +kernel) rfl) kc_X9_reset kd_X9_reset
theorem lk_L_17 : LkV RL 17 yX10_reset cX10_reset 5 (some .int) 3 := LkV.of (TG_tab 1052 (by decide +kernel) rfl) (TG_tab 1053 (by decide +kernel) rfl) (TG_tab 1054 (by decide +kernel) rfl) (TG_tab 13 (by decide +kernel) rfl) kc_X10_reset kd_X10_reset
theorem lk_L_18 : LkV RL 18 yX9_rowCount cX9_rowCount 1 (some .int) 0 := LkV.of (TG_tab 359 (by decide +kernel) rfl) (TG_tab 360 (by decide +kernel) rfl) (TG_tab 361 (by decide +kernel) rfl) (TG_tab 1 (by decide +kernel) rfl) kc_X9_rowCount kd_X9_rowCount
theorem lk_L_22 : LkV RL 22 yX10_rowCount cX10_rowCount 1 (some .int) 0 := LkV.of (TG_tab 1064 (by decide +kernel) rfl) (TG_tab 1065 (by decide +kernel) rfl) (TG_tab 1066 (by decide +kernel) rfl) (TG_tab 13 (by decide +kernel) rfl) kc_X10_rowCount kd_X10_rowCount
theorem lk_L_23 : LkV RL 23 yX9_columnCount cX9_columnCount 1 (some .int) 0 := LkV.of (TG_tab 363 (by decide +kernel) rfl) (TG_tab 364 (by decide +kernel) rfl) (TG_tab 365 (by decide +kernel) rfl) (TG_tab 1 (by decide +kernel) rfl) kc_X9_columnCount kd_X9_columnCount
theorem lk_L_26 : LkV RL 26 yX10_columnCount cX10_columnCount 1 (some .int) 0 := LkV.of (TG_tab 1068 (by decide +kernel) rfl) (TG_tab 1069 (by decide +kernel) rfl) (TG_tab 1070 (by decide +kernel) rfl) (TG_tab 13 (by decide +kernel) rfl) kc_X10_columnCount kd_X10_columnCount
theorem lk_L_27 : LkV RL 27 yX9_colorCount cX9_colorCount 1 (some .int) 0 := LkV.of (TG_tab 367 (by decide +kernel) rfl) (TG_tab 368 (by decide +kernel) rfl) (TG_tab 369 (by decide +kernel) rfl) (TG_tab 1 (by decide +kernel) rfl) kc_X9_colorCount kd_X9_colorCount
theorem lk_L_30 : LkV RL 30 yX10_colorCount cX10_colorCount 1 (some .int) 0 := LkV.of (TG_tab 1072 (by decide +kernel) rfl) (TG_tab 1073 (by decide +kernel) rfl) (TG_tab 1074 (by decide +kernel) rfl) (TG_tab 13 (by decide +kernel) rfl) kc_X10_colorCount kd_X10_colorCount
theorem lk_L_31 : LkV RL 31 yX9_addRun cX9_addRun 4 (some .int) 3 := LkV.of (TG_tab 371 (by decide +kernel) rfl) (TG_tab 372 (by decide +kernel) rfl) (TG_tab 373 (by decide +kernel) rfl) (TG_tab 1 (by decide +kernel) rfl) kc_X9_addRun kd_X9_addRun
theorem lk_L_34 : LkV RL 34 yX10_addRun cX10_addRun 4 (some .int) 3 := LkV.of (TG_tab 1076 (by decide +kernel) rfl) (TG_tab 1077 (by decide +kernel) rfl) (TG_tab 1078 (by decide +kernel) rfl) (TG_tab 13 (by decide +kernel) rfl) kc_X10_addRun kd_X10_addRun
theorem lk_L_35 : LkV RL 35 yX9_clearClue cX9_clearClue 3 (some .int) 1 := LkV.of (TG_tab 413 (by decide +kernel) rfl) (TG_tab 414 (by decide +kernel) rfl) (TG_tab 415 (by decide +kernel) rfl) (TG_tab 1 (by decide +kernel) rfl) kc_X9_clearClue kd_X9_clearClue
theorem lk_L_39 : LkV RL 39 yX10_clearClue cX10_clearClue 3 (some .int) 1 := LkV.of (TG_tab 1096 (by decide +kernel) rfl) (TG_tab 1097 (by decide +kernel) rfl) (TG_tab 1098 (by decide +kernel) rfl) (TG_tab 13 (by decide +kernel) rfl) kc_X10_clearClue kd_X10_clearClue
theorem lk_L_40 : LkV RL 40 yX9_runCount cX9_runCount 2 (some .int) 1 := LkV.of (TG_tab 421 (by decide +kernel) rfl) (TG_tab 422 (by decide +kernel) rfl) (TG_tab 423 (by decide +kernel) rfl) (TG_tab 1 (by decide +kernel) rfl) kc_X9_runCount kd_X9_runCount
theorem lk_L_43 : LkV RL 43 yX10_runCount cX10_runCount 2 (some .int) 1 := LkV.of (TG_tab 1100 (by decide +kernel) rfl) (TG_tab 1101 (by decide +kernel) rfl) (TG_tab 1102 (by decide +kernel) rfl) (TG_tab 13 (by decide +kernel) rfl) kc_X10_runCount kd_X10_runCount
theorem lk_L_44 : LkV RL 44 yX9_runLength cX9_runLength 3 (some .int) 2 := LkV.of (TG_tab 425 (by decide +kernel) rfl) (TG_tab 426 (by decide +kernel) rfl) (TG_tab 427 (by decide +kernel) rfl) (TG_tab 1 (by decide +kernel) rfl) kc_X9_runLength kd_X9_runLength
theorem lk_L_48 : LkV RL 48 yX10_runLength cX10_runLength 3 (some .int) 2 := LkV.of (TG_tab 1104 (by decide +kernel) rfl) (TG_tab 1105 (by decide +kernel) rfl) (TG_tab 1106 (by decide +kernel) rfl) (TG_tab 13 (by decide +kernel) rfl) kc_X10_runLength kd_X10_runLength
theorem lk_L_49 : LkV RL 49 yX9_runColor cX9_runColor 3 (some .int) 2 := LkV.of (TG_tab 437 (by decide +kernel) rfl) (TG_tab 438 (by decide +kernel) rfl) (TG_tab 439 (by decide +kernel) rfl) (TG_tab 1 (by decide +kernel) rfl) kc_X9_runColor kd_X9_runColor
theorem lk_L_52 : LkV RL 52 yX10_runColor cX10_runColor 3 (some .int) 2 := LkV.of (TG_tab 1112 (by decide +kernel) rfl) (TG_tab 1113 (by decide +kernel) rfl) (TG_tab 1114 (by decide +kernel) rfl) (TG_tab 13 (by decide +kernel) rfl) kc_X10_runColor kd_X10_runColor
theorem lk_L_53 : LkV RL 53 yX9_minimumLength cX9_minimumLength 2 (some .int) 1 := LkV.of (TG_tab 445 (by decide +kernel) rfl) (TG_tab 446 (by decide +kernel) rfl) (TG_tab 447 (by decide +kernel) rfl) (TG_tab 1 (by decide +kernel) rfl) kc_X9_minimumLength kd_X9_minimumLength
theorem lk_L_56 : LkV RL 56 yX10_minimumLength cX10_minimumLength 4 (some .int) 1 := LkV.of (TG_tab 1116 (by decide +kernel) rfl) (TG_tab 1117 (by decide +kernel) rfl) (TG_tab 1118 (by decide +kernel) rfl) (TG_tab 13 (by decide +kernel) rfl) kc_X10_minimumLength kd_X10_minimumLength
theorem lk_L_57 : LkV RL 57 yX9_candidates cX9_candidates 3 (some .int) 2 := LkV.of (TG_tab 458 (by decide +kernel) rfl) (TG_tab 459 (by decide +kernel) rfl) (TG_tab 460 (by decide +kernel) rfl) (TG_tab 1 (by decide +kernel) rfl) kc_X9_candidates kd_X9_candidates
theorem lk_L_60 : LkV RL 60 yX10_candidates cX10_candidates 3 (some .int) 2 := LkV.of (TG_tab 1120 (by decide +kernel) rfl) (TG_tab 1121 (by decide +kernel) rfl) (TG_tab 1122 (by decide +kernel) rfl) (TG_tab 13 (by decide +kernel) rfl) kc_X10_candidates kd_X10_candidates
theorem lk_L_61 : LkV RL 61 yX9_color cX9_color 4 (some .int) 2 := LkV.of (TG_tab 470 (by decide +kernel) rfl) (TG_tab 471 (by decide +kernel) rfl) (TG_tab 472 (by decide +kernel) rfl) (TG_tab 1 (by decide +kernel) rfl) kc_X9_color kd_X9_color
theorem lk_L_64 : LkV RL 64 yX10_color cX10_color 3 (some .int) 2 := LkV.of (TG_tab 1128 (by decide +kernel) rfl) (TG_tab 1129 (by decide +kernel) rfl) (TG_tab 1130 (by decide +kernel) rfl) (TG_tab 13 (by decide +kernel) rfl) kc_X10_color kd_X10_color
theorem lk_L_65 : LkV RL 65 yX9_keepOnly cX9_keepOnly 7 (some .int) 3 := LkV.of (TG_tab 488 (by decide +kernel) rfl) (TG_tab 489 (by decide +kernel) rfl) (TG_tab 490 (by decide +kernel) rfl) (TG_tab 1 (by decide +kernel) rfl) kc_X9_keepOnly kd_X9_keepOnly
theorem lk_L_68 : LkV RL 68 yX10_keepOnly cX10_keepOnly 5 (some .int) 3 := LkV.of (TG_tab 1140 (by decide +kernel) rfl) (TG_tab 1141 (by decide +kernel) rfl) (TG_tab 1142 (by decide +kernel) rfl) (TG_tab 13 (by decide +kernel) rfl) kc_X10_keepOnly kd_X10_keepOnly
theorem lk_L_69 : LkV RL 69 yX9_eliminate cX9_eliminate 6 (some .int) 3 := LkV.of (TG_tab 501 (by decide +kernel) rfl) (TG_tab 502 (by decide +kernel) rfl) (TG_tab 503 (by decide +kernel) rfl) (TG_tab 1 (by decide +kernel) rfl) kc_X9_eliminate kd_X9_eliminate
theorem lk_L_72 : LkV RL 72 yX10_eliminate cX10_eliminate 5 (some .int) 3 := LkV.of (TG_tab 1152 (by decide +kernel) rfl) (TG_tab 1153 (by decide +kernel) rfl) (TG_tab 1154 (by decide +kernel) rfl) (TG_tab 13 (by decide +kernel) rfl) kc_X10_eliminate kd_X10_eliminate
theorem lk_L_73 : LkV RL 73 yX9_decidedCount cX9_decidedCount 1 (some .int) 0 := LkV.of (TG_tab 509 (by decide +kernel) rfl) (TG_tab 510 (by decide +kernel) rfl) (TG_tab 511 (by decide +kernel) rfl) (TG_tab 1 (by decide +kernel) rfl) kc_X9_decidedCount kd_X9_decidedCount
theorem lk_L_76 : LkV RL 76 yX10_decidedCount cX10_decidedCount 1 (some .int) 0 := LkV.of (TG_tab 1156 (by decide +kernel) rfl) (TG_tab 1157 (by decide +kernel) rfl) (TG_tab 1158 (by decide +kernel) rfl) (TG_tab 13 (by decide +kernel) rfl) kc_X10_decidedCount kd_X10_decidedCount
theorem lk_L_77 : LkV RL 77 yX9_averageCandidates cX9_averageCandidates 6 (some .int) 1 := LkV.of (TG_tab 522 (by decide +kernel) rfl) (TG_tab 523 (by decide +kernel) rfl) (TG_tab 524 (by decide +kernel) rfl) (TG_tab 1 (by decide +kernel) rfl) kc_X9_averageCandidates kd_X9_averageCandidates
theorem lk_L_80 : LkV RL 80 yX10_averageCandidates cX10_averageCandidates 6 (some .int) 1 := LkV.of (TG_tab 1164 (by decide +kernel) rfl) (TG_tab 1165 (by decide +kernel) rfl) (TG_tab 1166 (by decide +kernel) rfl) (TG_tab 13 (by decide +kernel) rfl) kc_X10_averageCandidates kd_X10_averageCandidates
theorem lk_L_81 : LkV RL 81 yX9_assignmentCount cX9_assignmentCount 2 (some .int) 1 := LkV.of (TG_tab 534 (by decide +kernel) rfl) (TG_tab 535 (by decide +kernel) rfl) (TG_tab 536 (by decide +kernel) rfl) (TG_tab 1 (by decide +kernel) rfl) kc_X9_assignmentCount kd_X9_assignmentCount
theorem lk_L_84 : LkV RL 84 yX10_assignmentCount cX10_assignmentCount 2 (some .int) 1 := LkV.of (TG_tab 1176 (by decide +kernel) rfl) (TG_tab 1177 (by decide +kernel) rfl) (TG_tab 1178 (by decide +kernel) rfl) (TG_tab 13 (by decide +kernel) rfl) kc_X10_assignmentCount kd_X10_assignmentCount
theorem lk_L_85 : LkV RL 85 yX9_assignmentColor cX9_assignmentColor 4 (some .int) 3 := LkV.of (TG_tab 576 (by decide +kernel) rfl) (TG_tab 577 (by decide +kernel) rfl) (TG_tab 578 (by decide +kernel) rfl) (TG_tab 1 (by decide +kernel) rfl) kc_X9_assignmentColor kd_X9_assignmentColor
theorem lk_L_88 : LkV RL 88 yX10_assignmentColor cX10_assignmentColor 4 (some .int) 3 := LkV.of (TG_tab 1188 (by decide +kernel) rfl) (TG_tab 1189 (by decide +kernel) rfl) (TG_tab 1190 (by decide +kernel) rfl) (TG_tab 13 (by decide +kernel) rfl) kc_X10_assignmentColor kd_X10_assignmentColor
theorem lk_L_89 : LkV RL 89 yX9_solveLine cX9_solveLine 2 (some .int) 1 := LkV.of (TG_tab 584 (by decide +kernel) rfl) (TG_tab 585 (by decide +kernel) rfl) (TG_tab 586 (by decide +kernel) rfl) (TG_tab 1 (by decide +kernel) rfl) kc_X9_solveLine kd_X9_solveLine
theorem lk_L_92 : LkV RL 92 yX10_solveLine cX10_solveLine 3 (some .int) 1 := LkV.of (TG_tab 1192 (by decide +kernel) rfl) (TG_tab 1193 (by decide +kernel) rfl) (TG_tab 1194 (by decide +kernel) rfl) (TG_tab 13 (by decide +kernel) rfl) kc_X10_solveLine kd_X10_solveLine
theorem lk_L_93 : LkV RL 93 yX9_propagate cX9_propagate 1 (some .int) 0 := LkV.of (TG_tab 616 (by decide +kernel) rfl) (TG_tab 617 (by decide +kernel) rfl) (TG_tab 618 (by decide +kernel) rfl) (TG_tab 1 (by decide +kernel) rfl) kc_X9_propagate kd_X9_propagate
theorem lk_L_96 : LkV RL 96 yX10_propagate cX10_propagate 2 (some .int) 0 := LkV.of (TG_tab 1212 (by decide +kernel) rfl) (TG_tab 1213 (by decide +kernel) rfl) (TG_tab 1214 (by decide +kernel) rfl) (TG_tab 13 (by decide +kernel) rfl) kc_X10_propagate kd_X10_propagate
theorem lk_L_97 : LkV RL 97 yX9_passCount cX9_passCount 1 (some .int) 0 := LkV.of (TG_tab 630 (by decide +kernel) rfl) (TG_tab 631 (by decide +kernel) rfl) (TG_tab 632 (by decide +kernel) rfl) (TG_tab 1 (by decide +kernel) rfl) kc_X9_passCount kd_X9_passCount
theorem lk_L_100 : LkV RL 100 yX10_passCount cX10_passCount 1 (some .int) 0 := LkV.of (TG_tab 1220 (by decide +kernel) rfl) (TG_tab 1221 (by decide +kernel) rfl) (TG_tab 1222 (by decide +kernel) rfl) (TG_tab 13 (by decide +kernel) rfl) kc_X10_passCount kd_X10_passCount
theorem lk_L_101 : LkV RL 101 yX9_probe cX9_probe 5 (some .int) 3 := LkV.of (TG_tab 634 (by decide +kernel) rfl) (TG_tab 635 (by decide +kernel) rfl) (TG_tab 636 (by decide +kernel) rfl) (TG_tab 1 (by decide +kernel) rfl) kc_X9_probe kd_X9_probe
theorem lk_L_104 : LkV RL 104 yX10_probe cX10_probe 5 (some .int) 3 := LkV.of (TG_tab 1224 (by decide +kernel) rfl) (TG_tab 1225 (by decide +kernel) rfl) (TG_tab 1226 (by decide +kernel) rfl) (TG_tab 13 (by decide +kernel) rfl) kc_X10_probe kd_X10_probe
theorem lk_L_105 : LkV RL 105 yX9_probeAll cX9_probeAll 5 (some .int) 0 := LkV.of (TG_tab 638 (by decide +kernel) rfl) (TG_tab 639 (by decide +kernel) rfl) (TG_tab 640 (by decide +kernel) rfl) (TG_tab 1 (by decide +kernel) rfl) kc_X9_probeAll kd_X9_probeAll
theorem lk_L_108 : LkV RL 108 yX10_probeAll cX10_probeAll 2 (some .int) 0 := LkV.of (TG_tab 1232 (by decide +kernel) rfl) (TG_tab 1233 (by decide +kernel) rfl) (TG_tab 1234 (by decide +kernel) rfl) (TG_tab 13 (by decide +kernel) rfl) kc_X10_probeAll kd_X10_probeAll
theorem lk_L_109 : LkV RL 109 yX9_contradictionLine cX9_contradictionLine 1 (some .int) 0 := LkV.of (TG_tab 676 (by decide +kernel) rfl) (TG_tab 677 (by decide +kernel) rfl) (TG_tab 678 (by decide +kernel) rfl) (TG_tab 1 (by decide +kernel) rfl) kc_X9_contradictionLine kd_X9_contradictionLine
theorem lk_L_112 : LkV RL 112 yX10_contradictionLine cX10_contradictionLine 1 (some .int) 0 := LkV.of (TG_tab 1240 (by decide +kernel) rfl) (TG_tab 1241 (by decide +kernel) rfl) (TG_tab 1242 (by decide +kernel) rfl) (TG_tab 13 (by decide +kernel) rfl) kc_X10_contradictionLine kd_X10_contradictionLine
theorem lk_L_113 : LkV RL 113 yX9_contradictionDepth cX9_contradictionDepth 1 (some .int) 0 := LkV.of (TG_tab 680 (by decide +kernel) rfl) (TG_tab 681 (by decide +kernel) rfl) (TG_tab 682 (by decide +kernel) rfl) (TG_tab 1 (by decide +kernel) rfl) kc_X9_contradictionDepth kd_X9_contradictionDepth
theorem lk_L_116 : LkV RL 116 yX10_contradictionDepth cX10_contradictionDepth 1 (some .int) 0 := LkV.of (TG_tab 1244 (by decide +kernel) rfl) (TG_tab 1245 (by decide +kernel) rfl) (TG_tab 1246 (by decide +kernel) rfl) (TG_tab 13 (by decide +kernel) rfl) kc_X10_contradictionDepth kd_X10_contradictionDepth
theorem lk_L_117 : LkV RL 117 yX9_setRule cX9_setRule 3 (some .int) 1 := LkV.of (TG_tab 684 (by decide +kernel) rfl) (TG_tab 685 (by decide +kernel) rfl) (TG_tab 686 (by decide +kernel) rfl) (TG_tab 1 (by decide +kernel) rfl) kc_X9_setRule kd_X9_setRule
theorem lk_L_120 : LkV RL 120 yX10_setRule cX10_setRule 3 (some .int) 1 := LkV.of (TG_tab 1248 (by decide +kernel) rfl) (TG_tab 1249 (by decide +kernel) rfl) (TG_tab 1250 (by decide +kernel) rfl) (TG_tab 13 (by decide +kernel) rfl) kc_X10_setRule kd_X10_setRule
theorem lk_L_121 : LkV RL 121 yX9_countSolutions cX9_countSolutions 2 (some .int) 1 := LkV.of (TG_tab 688 (by decide +kernel) rfl) (TG_tab 689 (by decide +kernel) rfl) (TG_tab 690 (by decide +kernel) rfl) (TG_tab 1 (by decide +kernel) rfl) kc_X9_countSolutions kd_X9_countSolutions
theorem lk_L_124 : LkV RL 124 yX10_countSolutions cX10_countSolutions 2 (some .int) 1 := LkV.of (TG_tab 1252 (by decide +kernel) rfl) (TG_tab 1253 (by decide +kernel) rfl) (TG_tab 1254 (by decide +kernel) rfl) (TG_tab 13 (by decide +kernel) rfl) kc_X10_countSolutions kd_X10_countSolutions
theorem lk_L_125 : LkV RL 125 yX9_solutionColor cX9_solutionColor 4 (some .int) 3 := LkV.of (TG_tab 734 (by decide +kernel) rfl) (TG_tab 735 (by decide +kernel) rfl) (TG_tab 736 (by decide +kernel) rfl) (TG_tab 1 (by decide +kernel) rfl) kc_X9_solutionColor kd_X9_solutionColor
theorem lk_L_128 : LkV RL 128 yX10_solutionColor cX10_solutionColor 5 (some .int) 3 := LkV.of (TG_tab 1272 (by decide +kernel) rfl) (TG_tab 1273 (by decide +kernel) rfl) (TG_tab 1274 (by decide +kernel) rfl) (TG_tab 13 (by decide +kernel) rfl) kc_X10_solutionColor kd_X10_solutionColor
theorem lk_L_129 : LkV RL 129 yX9_searchNodes cX9_searchNodes 2 (some .int) 1 := LkV.of (TG_tab 743 (by decide +kernel) rfl) (TG_tab 744 (by decide +kernel) rfl) (TG_tab 745 (by decide +kernel) rfl) (TG_tab 1 (by decide +kernel) rfl) kc_X9_searchNodes kd_X9_searchNodes
theorem lk_L_132 : LkV RL 132 yX10_searchNodes cX10_searchNodes 2 (some .int) 1 := LkV.of (TG_tab 1276 (by decide +kernel) rfl) (TG_tab 1277 (by decide +kernel) rfl) (TG_tab 1278 (by decide +kernel) rfl) (TG_tab 13 (by decide +kernel) rfl) kc_X10_searchNodes kd_X10_searchNodes
theorem lk_L_133 : LkV RL 133 yX9_isUnique cX9_isUnique 1 (some .int) 0 := LkV.of (TG_tab 747 (by decide +kernel) rfl) (TG_tab 748 (by decide +kernel) rfl) (TG_tab 749 (by decide +kernel) rfl) (TG_tab 1 (by decide +kernel) rfl) kc_X9_isUnique kd_X9_isUnique
theorem lk_L_136 : LkV RL 136 yX10_isUnique cX10_isUnique 1 (some .int) 0 := LkV.of (TG_tab 1280 (by decide +kernel) rfl) (TG_tab 1281 (by decide +kernel) rfl) (TG_tab 1282 (by decide +kernel) rfl) (TG_tab 13 (by decide +kernel) rfl) kc_X10_isUnique kd_X10_isUnique
theorem lk_L_137 : LkV RL 137 yX9_firstMismatch cX9_firstMismatch 2 (some .int) 0 := LkV.of (TG_tab 751 (by decide +kernel) rfl) (TG_tab 752 (by decide +kernel) rfl) (TG_tab 753 (by decide +kernel) rfl) (TG_tab 1 (by decide +kernel) rfl) kc_X9_firstMismatch kd_X9_firstMismatch
theorem lk_L_140 : LkV RL 140 yX10_firstMismatch cX10_firstMismatch 5 (some .int) 0 := LkV.of (TG_tab 1284 (by decide +kernel) rfl) (TG_tab 1285 (by decide +kernel) rfl) (TG_tab 1286 (by decide +kernel) rfl) (TG_tab 13 (by decide +kernel) rfl) kc_X10_firstMismatch kd_X10_firstMismatch
theorem lk_L_141 : LkV RL 141 yX9_takeClues cX9_takeClues 1 (some .int) 0 := LkV.of (TG_tab 756 (by decide +kernel) rfl) (TG_tab 757 (by decide +kernel) rfl) (TG_tab 758 (by decide +kernel) rfl) (TG_tab 1 (by decide +kernel) rfl) kc_X9_takeClues kd_X9_takeClues
theorem lk_L_144 : LkV RL 144 yX10_takeClues cX10_takeClues 1 (some .int) 0 := LkV.of (TG_tab 1292 (by decide +kernel) rfl) (TG_tab 1293 (by decide +kernel) rfl) (TG_tab 1294 (by decide +kernel) rfl) (TG_tab 13 (by decide +kernel) rfl) kc_X10_takeClues kd_X10_takeClues
theorem lk_L_145 : LkV RL 145 yX9_drawPicture cX9_drawPicture 7 (some .int) 1 := LkV.of (TG_tab 778 (by decide +kernel) rfl) (TG_tab 779 (by decide +kernel) rfl) (TG_tab 780 (by decide +kernel) rfl) (TG_tab 1 (by decide +kernel) rfl) kc_X9_drawPicture kd_X9_drawPicture
theorem lk_L_148 : LkV RL 148 yX10_drawPicture cX10_drawPicture 7 (some .int) 1 := LkV.of (TG_tab 1300 (by decide +kernel) rfl) (TG_tab 1301 (by decide +kernel) rfl) (TG_tab 1302 (by decide +kernel) rfl) (TG_tab 13 (by decide +kernel) rfl) kc_X10_drawPicture kd_X10_drawPicture
theorem lk_L_149 : LkV RL 149 yX9_clearCells cX9_clearCells 2 (some .int) 0 := LkV.of (TG_tab 784 (by decide +kernel) rfl) (TG_tab 785 (by decide +kernel) rfl) (TG_tab 786 (by decide +kernel) rfl) (TG_tab 1 (by decide +kernel) rfl) kc_X9_clearCells kd_X9_clearCells
theorem lk_L_152 : LkV RL 152 yX10_clearCells cX10_clearCells 2 (some .int) 0 := LkV.of (TG_tab 1305 (by decide +kernel) rfl) (TG_tab 1306 (by decide +kernel) rfl) (TG_tab 1307 (by decide +kernel) rfl) (TG_tab 13 (by decide +kernel) rfl) kc_X10_clearCells kd_X10_clearCells
theorem lk_L_153 : LkV RL 153 yX9_appendText cX9_appendText 2 (some .int) 1 := LkV.of (TG_tab 789 (by decide +kernel) rfl) (TG_tab 790 (by decide +kernel) rfl) (TG_tab 791 (by decide +kernel) rfl) (TG_tab 1 (by decide +kernel) rfl) kc_X9_appendText kd_X9_appendText
theorem lk_L_156 : LkV RL 156 yX10_appendText cX10_appendText 2 (some .int) 1 := LkV.of (TG_tab 1309 (by decide +kernel) rfl) (TG_tab 1310 (by decide +kernel) rfl) (TG_tab 1311 (by decide +kernel) rfl) (TG_tab 13 (by decide +kernel) rfl) kc_X10_appendText kd_X10_appendText
theorem lk_L_157 : LkV RL 157 yX9_parseClues cX9_parseClues 2 (some .int) 0 := LkV.of (TG_tab 797 (by decide +kernel) rfl) (TG_tab 798 (by decide +kernel) rfl) (TG_tab 799 (by decide +kernel) rfl) (TG_tab 1 (by decide +kernel) rfl) kc_X9_parseClues kd_X9_parseClues
theorem lk_L_160 : LkV RL 160 yX10_parseClues cX10_parseClues 5 (some .int) 0 := LkV.of (TG_tab 1313 (by decide +kernel) rfl) (TG_tab 1314 (by decide +kernel) rfl) (TG_tab 1315 (by decide +kernel) rfl) (TG_tab 13 (by decide +kernel) rfl) kc_X10_parseClues kd_X10_parseClues
theorem lk_L_161 : LkV RL 161 yX9_formatClues cX9_formatClues 3 (some .int) 0 := LkV.of (TG_tab 811 (by decide +kernel) rfl) (TG_tab 812 (by decide +kernel) rfl) (TG_tab 813 (by decide +kernel) rfl) (TG_tab 1 (by decide +kernel) rfl) kc_X9_formatClues kd_X9_formatClues
theorem lk_L_164 : LkV RL 164 yX10_formatClues cX10_formatClues 3 (some .int) 0 := LkV.of (TG_tab 1321 (by decide +kernel) rfl) (TG_tab 1322 (by decide +kernel) rfl) (TG_tab 1323 (by decide +kernel) rfl) (TG_tab 13 (by decide +kernel) rfl) kc_X10_formatClues kd_X10_formatClues
theorem lk_L_165 : LkV RL 165 yX9_formattedCharacter cX9_formattedCharacter 2 (some .int) 1 := LkV.of (TG_tab 815 (by decide +kernel) rfl) (TG_tab 816 (by decide +kernel) rfl) (TG_tab 817 (by decide +kernel) rfl) (TG_tab 1 (by decide +kernel) rfl) kc_X9_formattedCharacter kd_X9_formattedCharacter
theorem lk_L_168 : LkV RL 168 yX10_formattedCharacter cX10_formattedCharacter 2 (some .int) 1 := LkV.of (TG_tab 1329 (by decide +kernel) rfl) (TG_tab 1330 (by decide +kernel) rfl) (TG_tab 1331 (by decide +kernel) rfl) (TG_tab 13 (by decide +kernel) rfl) kc_X10_formattedCharacter kd_X10_formattedCharacter
theorem lk_L_169 : LkV RL 169 yX9_undo cX9_undo 1 (some .int) 0 := LkV.of (TG_tab 819 (by decide +kernel) rfl) (TG_tab 820 (by decide +kernel) rfl) (TG_tab 821 (by decide +kernel) rfl) (TG_tab 1 (by decide +kernel) rfl) kc_X9_undo kd_X9_undo
theorem lk_L_172 : LkV RL 172 yX10_undo cX10_undo 2 (some .int) 0 := LkV.of (TG_tab 1044 (by decide +kernel) rfl) (TG_tab 1045 (by decide +kernel) rfl) (TG_tab 1046 (by decide +kernel) rfl) (TG_tab 13 (by decide +kernel) rfl) kc_X10_undo kd_X10_undo
theorem lk_L_173 : LkV RL 173 yX9_save cX9_save 1 (some .int) 0 := LkV.of (TG_tab 827 (by decide +kernel) rfl) (TG_tab 828 (by decide +kernel) rfl) (TG_tab 829 (by decide +kernel) rfl) (TG_tab 1 (by decide +kernel) rfl) kc_X9_save kd_X9_save
theorem lk_L_176 : LkV RL 176 yX10_save cX10_save 2 (some .int) 0 := LkV.of (TG_tab 1333 (by decide +kernel) rfl) (TG_tab 1334 (by decide +kernel) rfl) (TG_tab 1335 (by decide +kernel) rfl) (TG_tab 13 (by decide +kernel) rfl) kc_X10_save kd_X10_save
theorem lk_L_177 : LkV RL 177 yX9_restore cX9_restore 1 (some .int) 0 := LkV.of (TG_tab 831 (by decide +kernel) rfl) (TG_tab 832 (by decide +kernel) rfl) (TG_tab 833 (by decide +kernel) rfl) (TG_tab 1 (by decide +kernel) rfl) kc_X9_restore kd_X9_restore
theorem lk_L_180 : LkV RL 180 yX10_restore cX10_restore 2 (some .int) 0 := LkV.of (TG_tab 1337 (by decide +kernel) rfl) (TG_tab 1338 (by decide +kernel) rfl) (TG_tab 1339 (by decide +kernel) rfl) (TG_tab 13 (by decide +kernel) rfl) kc_X10_restore kd_X10_restore
theorem lk_L_181 : LkV RL 181 yX9_createTable cX9_createTable 4 (some .int) 3 := LkV.of (TG_tab 835 (by decide +kernel) rfl) (TG_tab 836 (by decide +kernel) rfl) (TG_tab 837 (by decide +kernel) rfl) (TG_tab 1 (by decide +kernel) rfl) kc_X9_createTable kd_X9_createTable
theorem lk_L_184 : LkV RL 184 yX10_createTable cX10_createTable 5 (some .int) 3 := LkV.of (TG_tab 1341 (by decide +kernel) rfl) (TG_tab 1342 (by decide +kernel) rfl) (TG_tab 1343 (by decide +kernel) rfl) (TG_tab 13 (by decide +kernel) rfl) kc_X10_createTable kd_X10_createTable
theorem lk_L_185 : LkV RL 185 yX9_writeTable cX9_writeTable 5 (some .int) 3 := LkV.of (TG_tab 847 (by decide +kernel) rfl) (TG_tab 848 (by decide +kernel) rfl) (TG_tab 849 (by decide +kernel) rfl) (TG_tab 1 (by decide +kernel) rfl) kc_X9_writeTable kd_X9_writeTable
theorem lk_L_188 : LkV RL 188 yX10_writeTable cX10_writeTable 4 (some .int) 3 := LkV.of (TG_tab 1349 (by decide +kernel) rfl) (TG_tab 1350 (by decide +kernel) rfl) (TG_tab 1351 (by decide +kernel) rfl) (TG_tab 13 (by decide +kernel) rfl) kc_X10_writeTable kd_X10_writeTable
theorem lk_L_189 : LkV RL 189 yX9_readTable cX9_readTable 4 (some .int) 2 := LkV.of (TG_tab 863 (by decide +kernel) rfl) (TG_tab 864 (by decide +kernel) rfl) (TG_tab 865 (by decide +kernel) rfl) (TG_tab 1 (by decide +kernel) rfl) kc_X9_readTable kd_X9_readTable
theorem lk_L_192 : LkV RL 192 yX10_readTable cX10_readTable 3 (some .int) 2 := LkV.of (TG_tab 1357 (by decide +kernel) rfl) (TG_tab 1358 (by decide +kernel) rfl) (TG_tab 1359 (by decide +kernel) rfl) (TG_tab 13 (by decide +kernel) rfl) kc_X10_readTable kd_X10_readTable
theorem lk_L_193 : LkV RL 193 yX9_exportCandidates cX9_exportCandidates 6 (some .int) 1 := LkV.of (TG_tab 867 (by decide +kernel) rfl) (TG_tab 868 (by decide +kernel) rfl) (TG_tab 869 (by decide +kernel) rfl) (TG_tab 1 (by decide +kernel) rfl) kc_X9_exportCandidates kd_X9_exportCandidates
theorem lk_L_196 : LkV RL 196 yX10_exportCandidates cX10_exportCandidates 4 (some .int) 1 := LkV.of (TG_tab 1361 (by decide +kernel) rfl) (TG_tab 1362 (by decide +kernel) rfl) (TG_tab 1363 (by decide +kernel) rfl) (TG_tab 13 (by decide +kernel) rfl) kc_X10_exportCandidates kd_X10_exportCandidates
theorem lk_L_197 : LkV RL 197 yX9_compareTable cX9_compareTable 6 (some .int) 1 := LkV.of (TG_tab 872 (by decide +kernel) rfl) (TG_tab 873 (by decide +kernel) rfl) (TG_tab 874 (by decide +kernel) rfl) (TG_tab 1 (by decide +kernel) rfl) kc_X9_compareTable kd_X9_compareTable
theorem lk_L_200 : LkV RL 200 yX10_compareTable cX10_compareTable 3 (some .int) 1 := LkV.of (TG_tab 1369 (by decide +kernel) rfl) (TG_tab 1370 (by decide +kernel) rfl) (TG_tab 1371 (by decide +kernel) rfl) (TG_tab 13 (by decide +kernel) rfl) kc_X10_compareTable kd_X10_compareTable
theorem lk_L_201 : LkV RL 201 yX9_undoCount cX9_undoCount 1 (some .int) 0 := LkV.of (TG_tab 876 (by decide +kernel) rfl) (TG_tab 877 (by decide +kernel) rfl) (TG_tab 878 (by decide +kernel) rfl) (TG_tab 1 (by decide +kernel) rfl) kc_X9_undoCount kd_X9_undoCount
theorem lk_L_204 : LkV RL 204 yX10_undoCount cX10_undoCount 1 (some .int) 0 := LkV.of (TG_tab 1048 (by decide +kernel) rfl) (TG_tab 1049 (by decide +kernel) rfl) (TG_tab 1050 (by decide +kernel) rfl) (TG_tab 13 (by decide +kernel) rfl) kc_X10_undoCount kd_X10_undoCount
