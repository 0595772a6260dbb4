theorem in_X0 : ∀ w ∈ u_ws RX0 TX0 3, w ∈ TG := TG_all [38, 40, 42] (by decide +kernel) (by decide +kernel)
theorem in_X1 : ∀ w ∈ u_ws RX1 TX1 5, w ∈ TG := TG_all [62, 64, 66, 68, 70] (by decide +kernel) (by decide +kernel)
theorem in_X2 : ∀ w ∈ u_ws RX2 TX2 3, w ∈ TG := TG_all [85, 87, 89] (by decide +kernel) (by decide +kernel)
theorem in_X3 : ∀ w ∈ u_ws RX3 TX3 12, w ∈ TG := TG_all [112, 114, 116, 118, 120, 122, 124, 126, 128, 130, 132, 134] (by decide +kernel) (by decide +kernel)
theorem in_X4 : ∀ w ∈ u_ws RX4 TX4 4, w ∈ TG := TG_all [177, 179, 181, 183] (by decide +kernel) (by decide +kernel)
theorem in_X5 : ∀ w ∈ u_ws RX5 TX5 4, w ∈ TG := TG_all [152, 154, 156, 158] (by decide +kernel) (by decide +kernel)
theorem in_X6 : ∀ w ∈ u_ws RX6 TX6 10, w ∈ TG := TG_all [208, 210, 212, 214, 216, 218, 220, 222, 224, 226] (by decide +kernel) (by decide +kernel)
theorem in_X7 : ∀ w ∈ u_ws RX7 TX7 3, w ∈ TG := TG_all [257, 259, 261] (by decide +kernel) (by decide +kernel)
theorem in_X8 : ∀ w ∈ u_ws RX8 TX8 2, w ∈ TG := TG_all [240, 242] (by decide +kernel) (by decide +kernel)
theorem in_X9 : ∀ w ∈ u_ws RX9 TX9 16, w ∈ TG := TG_all [296, 298, 300, 302, 304, 306, 308, 310, 312, 314, 316, 318, 320, 322, 324, 326] (by decide +kernel) (by decide +kernel)
theorem kc_X0_init : Cond.code yX0_init cX0_init 1 none ∈ TG := (TG_tab 33 (by decide +kernel) rfl)
theorem kd_X0_init : hnd yX0_init 0 := ⟨by decide +kernel, by decide +kernel, by decide +kernel⟩
theorem kc_X0_runsOf : Cond.code yX0_runsOf cX0_runsOf 2 (some .int) ∈ TG := (TG_tab 432 (by decide +kernel) rfl)
theorem kd_X0_runsOf : hnd yX0_runsOf 1 := ⟨by decide +kernel, by decide +kernel, by decide +kernel⟩
theorem kc_X0_isFull : Cond.code yX0_isFull cX0_isFull 2 (some .boolean) ∈ TG := (TG_tab 671 (by decide +kernel) rfl)
theorem kd_X0_isFull : hnd yX0_isFull 1 := ⟨by decide +kernel, by decide +kernel, by decide +kernel⟩
theorem kc_X0_lengthOf : Cond.code yX0_lengthOf cX0_lengthOf 3 (some .int) ∈ TG := (TG_tab 453 (by decide +kernel) rfl)
theorem kd_X0_lengthOf : hnd yX0_lengthOf 2 := ⟨by decide +kernel, by decide +kernel, by decide +kernel⟩
theorem kc_X0_colorOf : Cond.code yX0_colorOf cX0_colorOf 3 (some .int) ∈ TG := (TG_tab 457 (by decide +kernel) rfl)
theorem kd_X0_colorOf : hnd yX0_colorOf 2 := ⟨by decide +kernel, by decide +kernel, by decide +kernel⟩
theorem kc_X0_needsGapBehind : Cond.code yX0_needsGapBehind cX0_needsGapBehind 4 (some .boolean) ∈ TG := (TG_tab 449 (by decide +kernel) rfl)
theorem kd_X0_needsGapBehind : hnd yX0_needsGapBehind 2 := ⟨by decide +kernel, by decide +kernel, by decide +kernel⟩
theorem kc_X0_append : Cond.code yX0_append cX0_append 5 none ∈ TG := (TG_tab 667 (by decide +kernel) rfl)
theorem kd_X0_append : hnd yX0_append 3 := ⟨by decide +kernel, by decide +kernel, by decide +kernel⟩
theorem kc_X0_lengthenLast : Cond.code yX0_lengthenLast cX0_lengthenLast 2 none ∈ TG := (TG_tab 663 (by decide +kernel) rfl)
theorem kd_X0_lengthenLast : hnd yX0_lengthenLast 1 := ⟨by decide +kernel, by decide +kernel, by decide +kernel⟩
theorem kc_X0_emptyAll : Cond.code yX0_emptyAll cX0_emptyAll 1 none ∈ TG := (TG_tab 271 (by decide +kernel) rfl)
theorem kd_X0_emptyAll : hnd yX0_emptyAll 0 := ⟨by decide +kernel, by decide +kernel, by decide +kernel⟩
theorem kc_X0_copyFrom : Cond.code yX0_copyFrom cX0_copyFrom 2 none ∈ TG := (TG_tab 391 (by decide +kernel) rfl)
theorem kd_X0_copyFrom : hnd yX0_copyFrom 1 := ⟨by decide +kernel, by decide +kernel, by decide +kernel⟩
theorem kc_X1_init : Cond.code yX1_init cX1_init 1 none ∈ TG := (TG_tab 27 (by decide +kernel) rfl)
theorem kd_X1_init : hnd yX1_init 0 := ⟨by decide +kernel, by decide +kernel, by decide +kernel⟩
theorem kc_X1_start : Cond.code yX1_start cX1_start 4 none ∈ TG := (TG_tab 267 (by decide +kernel) rfl)
theorem kd_X1_start : hnd yX1_start 3 := ⟨by decide +kernel, by decide +kernel, by decide +kernel⟩
theorem kc_X1_fillCandidates : Cond.code yX1_fillCandidates cX1_fillCandidates 1 none ∈ TG := (TG_tab 278 (by decide +kernel) rfl)
theorem kd_X1_fillCandidates : hnd yX1_fillCandidates 0 := ⟨by decide +kernel, by decide +kernel, by decide +kernel⟩
theorem kc_X1_copyFrom : Cond.code yX1_copyFrom cX1_copyFrom 2 none ∈ TG := (TG_tab 387 (by decide +kernel) rfl)
theorem kd_X1_copyFrom : hnd yX1_copyFrom 1 := ⟨by decide +kernel, by decide +kernel, by decide +kernel⟩
theorem kc_X1_cellTotal : Cond.code yX1_cellTotal cX1_cellTotal 1 (some .int) ∈ TG := (TG_tab 519 (by decide +kernel) rfl)
theorem kd_X1_cellTotal : hnd yX1_cellTotal 0 := ⟨by decide +kernel, by decide +kernel, by decide +kernel⟩
theorem kc_X1_lineTotal : Cond.code yX1_lineTotal cX1_lineTotal 1 (some .int) ∈ TG := (TG_tab 411 (by decide +kernel) rfl)
theorem kd_X1_lineTotal : hnd yX1_lineTotal 0 := ⟨by decide +kernel, by decide +kernel, by decide +kernel⟩
theorem kc_X1_allLines : Cond.code yX1_allLines cX1_allLines 1 (some .int) ∈ TG := (TG_tab 407 (by decide +kernel) rfl)
theorem kd_X1_allLines : hnd yX1_allLines 0 := ⟨by decide +kernel, by decide +kernel, by decide +kernel⟩
theorem kc_X1_hasCell : Cond.code yX1_hasCell cX1_hasCell 3 (some .boolean) ∈ TG := (TG_tab 344 (by decide +kernel) rfl)
theorem kd_X1_hasCell : hnd yX1_hasCell 2 := ⟨by decide +kernel, by decide +kernel, by decide +kernel⟩
theorem kc_X1_cellAt : Cond.code yX1_cellAt cX1_cellAt 3 (some .int) ∈ TG := (TG_tab 351 (by decide +kernel) rfl)
theorem kd_X1_cellAt : hnd yX1_cellAt 2 := ⟨by decide +kernel, by decide +kernel, by decide +kernel⟩
theorem kc_X1_lineLength : Cond.code yX1_lineLength cX1_lineLength 2 (some .int) ∈ TG := (TG_tab 428 (by decide +kernel) rfl)
theorem kd_X1_lineLength : hnd yX1_lineLength 1 := ⟨by decide +kernel, by decide +kernel, by decide +kernel⟩
theorem kc_X1_lineCell : Cond.code yX1_lineCell cX1_lineCell 3 (some .int) ∈ TG := (TG_tab 441 (by decide +kernel) rfl)
theorem kd_X1_lineCell : hnd yX1_lineCell 2 := ⟨by decide +kernel, by decide +kernel, by decide +kernel⟩
theorem kc_X1_rowLine : Cond.code yX1_rowLine cX1_rowLine 2 (some .int) ∈ TG := (TG_tab 534 (by decide +kernel) rfl)
theorem kd_X1_rowLine : hnd yX1_rowLine 1 := ⟨by decide +kernel, by decide +kernel, by decide +kernel⟩
theorem kc_X1_columnLine : Cond.code yX1_columnLine cX1_columnLine 2 (some .int) ∈ TG := (TG_tab 538 (by decide +kernel) rfl)
theorem kd_X1_columnLine : hnd yX1_columnLine 1 := ⟨by decide +kernel, by decide +kernel, by decide +kernel⟩
theorem kc_X1_linesThrough : Cond.code yX1_linesThrough cX1_linesThrough 2 (some .int) ∈ TG := (TG_tab 530 (by decide +kernel) rfl)
theorem kd_X1_linesThrough : hnd yX1_linesThrough 1 := ⟨by decide +kernel, by decide +kernel, by decide +kernel⟩
theorem kc_X1_hasCandidate : Cond.code yX1_hasCandidate cX1_hasCandidate 3 (some .boolean) ∈ TG := (TG_tab 378 (by decide +kernel) rfl)
theorem kd_X1_hasCandidate : hnd yX1_hasCandidate 2 := ⟨by decide +kernel, by decide +kernel, by decide +kernel⟩
theorem kc_X1_isDecided : Cond.code yX1_isDecided cX1_isDecided 2 (some .boolean) ∈ TG := (TG_tab 355 (by decide +kernel) rfl)
theorem kd_X1_isDecided : hnd yX1_isDecided 1 := ⟨by decide +kernel, by decide +kernel, by decide +kernel⟩
theorem kc_X1_decidedColor : Cond.code yX1_decidedColor cX1_decidedColor 2 (some .int) ∈ TG := (TG_tab 365 (by decide +kernel) rfl)
theorem kd_X1_decidedColor : hnd yX1_decidedColor 1 := ⟨by decide +kernel, by decide +kernel, by decide +kernel⟩
theorem kc_X1_decidedTotal : Cond.code yX1_decidedTotal cX1_decidedTotal 3 (some .int) ∈ TG := (TG_tab 561 (by decide +kernel) rfl)
theorem kd_X1_decidedTotal : hnd yX1_decidedTotal 0 := ⟨by decide +kernel, by decide +kernel, by decide +kernel⟩
theorem kc_X1_isAllDecided : Cond.code yX1_isAllDecided cX1_isAllDecided 1 (some .boolean) ∈ TG := (TG_tab 557 (by decide +kernel) rfl)
theorem kd_X1_isAllDecided : hnd yX1_isAllDecided 0 := ⟨by decide +kernel, by decide +kernel, by decide +kernel⟩
theorem kc_X1_decidedInLine : Cond.code yX1_decidedInLine cX1_decidedInLine 4 (some .int) ∈ TG := (TG_tab 580 (by decide +kernel) rfl)
theorem kd_X1_decidedInLine : hnd yX1_decidedInLine 1 := ⟨by decide +kernel, by decide +kernel, by decide +kernel⟩
theorem kc_X1_describePicture : Cond.code yX1_describePicture cX1_describePicture 2 none ∈ TG := (TG_tab 654 (by decide +kernel) rfl)
theorem kd_X1_describePicture : hnd yX1_describePicture 0 := ⟨by decide +kernel, by decide +kernel, by decide +kernel⟩
theorem kc_X1_describeLine : Cond.code yX1_describeLine cX1_describeLine 5 none ∈ TG := (TG_tab 658 (by decide +kernel) rfl)
theorem kd_X1_describeLine : hnd yX1_describeLine 1 := ⟨by decide +kernel, by decide +kernel, by decide +kernel⟩
theorem kc_X2_init : Cond.code yX2_init cX2_init 2 none ∈ TG := (TG_tab 77 (by decide +kernel) rfl)
theorem kd_X2_init : hnd yX2_init 0 := ⟨by decide +kernel, by decide +kernel, by decide +kernel⟩
theorem kc_X2_forget : Cond.code yX2_forget cX2_forget 1 none ∈ TG := (TG_tab 620 (by decide +kernel) rfl)
theorem kd_X2_forget : hnd yX2_forget 0 := ⟨by decide +kernel, by decide +kernel, by decide +kernel⟩
theorem kc_X2_push : Cond.code yX2_push cX2_push 2 none ∈ TG := (TG_tab 383 (by decide +kernel) rfl)
theorem kd_X2_push : hnd yX2_push 1 := ⟨by decide +kernel, by decide +kernel, by decide +kernel⟩
theorem kc_X3_init : Cond.code yX3_init cX3_init 1 none ∈ TG := (TG_tab 96 (by decide +kernel) rfl)
theorem kd_X3_init : hnd yX3_init 0 := ⟨by decide +kernel, by decide +kernel, by decide +kernel⟩
theorem kc_X3_load : Cond.code yX3_load cX3_load 3 none ∈ TG := (TG_tab 424 (by decide +kernel) rfl)
theorem kd_X3_load : hnd yX3_load 2 := ⟨by decide +kernel, by decide +kernel, by decide +kernel⟩
theorem kc_X3_loadCandidates : Cond.code yX3_loadCandidates cX3_loadCandidates 6 none ∈ TG := (TG_tab 436 (by decide +kernel) rfl)
theorem kd_X3_loadCandidates : hnd yX3_loadCandidates 2 := ⟨by decide +kernel, by decide +kernel, by decide +kernel⟩
theorem kc_X3_loadRuns : Cond.code yX3_loadRuns cX3_loadRuns 5 none ∈ TG := (TG_tab 445 (by decide +kernel) rfl)
theorem kd_X3_loadRuns : hnd yX3_loadRuns 2 := ⟨by decide +kernel, by decide +kernel, by decide +kernel⟩
theorem kc_X3_startsOf : Cond.code yX3_startsOf cX3_startsOf 4 (some .int) ∈ TG := (TG_tab 460 (by decide +kernel) rfl)
theorem kd_X3_startsOf : hnd yX3_startsOf 2 := ⟨by decide +kernel, by decide +kernel, by decide +kernel⟩
theorem kc_X3_countWays : Cond.code yX3_countWays cX3_countWays 4 none ∈ TG := (TG_tab 464 (by decide +kernel) rfl)
theorem kd_X3_countWays : hnd yX3_countWays 0 := ⟨by decide +kernel, by decide +kernel, by decide +kernel⟩
theorem kc_X3_whiteWays : Cond.code yX3_whiteWays cX3_whiteWays 4 (some .int) ∈ TG := (TG_tab 468 (by decide +kernel) rfl)
theorem kd_X3_whiteWays : hnd yX3_whiteWays 2 := ⟨by decide +kernel, by decide +kernel, by decide +kernel⟩
theorem kc_X3_runWays : Cond.code yX3_runWays cX3_runWays 4 (some .int) ∈ TG := (TG_tab 472 (by decide +kernel) rfl)
theorem kd_X3_runWays : hnd yX3_runWays 2 := ⟨by decide +kernel, by decide +kernel, by decide +kernel⟩
theorem kc_X3_total : Cond.code yX3_total cX3_total 1 (some .int) ∈ TG := (TG_tab 476 (by decide +kernel) rfl)
theorem kd_X3_total : hnd yX3_total 0 := ⟨by decide +kernel, by decide +kernel, by decide +kernel⟩
theorem kc_X3_solve : Cond.code yX3_solve cX3_solve 6 (some .boolean) ∈ TG := (TG_tab 420 (by decide +kernel) rfl)
theorem kd_X3_solve : hnd yX3_solve 2 := ⟨by decide +kernel, by decide +kernel, by decide +kernel⟩
theorem kc_X3_findSeen : Cond.code yX3_findSeen cX3_findSeen 4 none ∈ TG := (TG_tab 480 (by decide +kernel) rfl)
theorem kd_X3_findSeen : hnd yX3_findSeen 0 := ⟨by decide +kernel, by decide +kernel, by decide +kernel⟩
theorem kc_X3_seeRun : Cond.code yX3_seeRun cX3_seeRun 4 none ∈ TG := (TG_tab 484 (by decide +kernel) rfl)
theorem kd_X3_seeRun : hnd yX3_seeRun 2 := ⟨by decide +kernel, by decide +kernel, by decide +kernel⟩
theorem kc_X3_seenAt : Cond.code yX3_seenAt cX3_seenAt 4 (some .int) ∈ TG := (TG_tab 488 (by decide +kernel) rfl)
theorem kd_X3_seenAt : hnd yX3_seenAt 1 := ⟨by decide +kernel, by decide +kernel, by decide +kernel⟩
theorem kc_X4_init : Cond.code yX4_init cX4_init 1 none ∈ TG := (TG_tab 165 (by decide +kernel) rfl)
theorem kd_X4_init : hnd yX4_init 0 := ⟨by decide +kernel, by decide +kernel, by decide +kernel⟩
theorem kc_X4_begin : Cond.code yX4_begin cX4_begin 2 (some .boolean) ∈ TG := (TG_tab 505 (by decide +kernel) rfl)
theorem kd_X4_begin : hnd yX4_begin 1 := ⟨by decide +kernel, by decide +kernel, by decide +kernel⟩
theorem kc_X4_probeRound : Cond.code yX4_probeRound cX4_probeRound 5 (some .boolean) ∈ TG := (TG_tab 515 (by decide +kernel) rfl)
theorem kd_X4_probeRound : hnd yX4_probeRound 1 := ⟨by decide +kernel, by decide +kernel, by decide +kernel⟩
theorem kc_X4_failsWith : Cond.code yX4_failsWith cX4_failsWith 4 (some .boolean) ∈ TG := (TG_tab 525 (by decide +kernel) rfl)
theorem kd_X4_failsWith : hnd yX4_failsWith 3 := ⟨by decide +kernel, by decide +kernel, by decide +kernel⟩
theorem kc_X4_settle : Cond.code yX4_settle cX4_settle 4 (some .boolean) ∈ TG := (TG_tab 510 (by decide +kernel) rfl)
theorem kd_X4_settle : hnd yX4_settle 2 := ⟨by decide +kernel, by decide +kernel, by decide +kernel⟩
theorem kc_X5_init : Cond.code yX5_init cX5_init 1 none ∈ TG := (TG_tab 141 (by decide +kernel) rfl)
theorem kd_X5_init : hnd yX5_init 0 := ⟨by decide +kernel, by decide +kernel, by decide +kernel⟩
theorem kc_X5_settle : Cond.code yX5_settle cX5_settle 7 (some .boolean) ∈ TG := (TG_tab 415 (by decide +kernel) rfl)
theorem kd_X5_settle : hnd yX5_settle 2 := ⟨by decide +kernel, by decide +kernel, by decide +kernel⟩
theorem kc_X6_init : Cond.code yX6_init cX6_init 1 none ∈ TG := (TG_tab 190 (by decide +kernel) rfl)
theorem kd_X6_init : hnd yX6_init 0 := ⟨by decide +kernel, by decide +kernel, by decide +kernel⟩
theorem kc_X6_find : Cond.code yX6_find cX6_find 5 none ∈ TG := (TG_tab 546 (by decide +kernel) rfl)
theorem kd_X6_find : hnd yX6_find 3 := ⟨by decide +kernel, by decide +kernel, by decide +kernel⟩
theorem kc_X6_lastSolutionColor : Cond.code yX6_lastSolutionColor cX6_lastSolutionColor 2 (some .int) ∈ TG := (TG_tab 597 (by decide +kernel) rfl)
theorem kd_X6_lastSolutionColor : hnd yX6_lastSolutionColor 1 := ⟨by decide +kernel, by decide +kernel, by decide +kernel⟩
theorem kc_X6_makeNextChild : Cond.code yX6_makeNextChild cX6_makeNextChild 4 (some .boolean) ∈ TG := (TG_tab 587 (by decide +kernel) rfl)
theorem kd_X6_makeNextChild : hnd yX6_makeNextChild 0 := ⟨by decide +kernel, by decide +kernel, by decide +kernel⟩
theorem kc_X6_visit : Cond.code yX6_visit cX6_visit 2 none ∈ TG := (TG_tab 552 (by decide +kernel) rfl)
theorem kd_X6_visit : hnd yX6_visit 1 := ⟨by decide +kernel, by decide +kernel, by decide +kernel⟩
theorem kc_X6_selectCell : Cond.code yX6_selectCell cX6_selectCell 4 (some .int) ∈ TG := (TG_tab 568 (by decide +kernel) rfl)
theorem kd_X6_selectCell : hnd yX6_selectCell 0 := ⟨by decide +kernel, by decide +kernel, by decide +kernel⟩
theorem kc_X6_score : Cond.code yX6_score cX6_score 2 (some .int) ∈ TG := (TG_tab 574 (by decide +kernel) rfl)
theorem kd_X6_score : hnd yX6_score 1 := ⟨by decide +kernel, by decide +kernel, by decide +kernel⟩
theorem kc_X7_init : Cond.code yX7_init cX7_init 1 none ∈ TG := (TG_tab 252 (by decide +kernel) rfl)
theorem kd_X7_init : hnd yX7_init 0 := ⟨by decide +kernel, by decide +kernel, by decide +kernel⟩
theorem kc_X8_init : Cond.code yX8_init cX8_init 2 none ∈ TG := (TG_tab 233 (by decide +kernel) rfl)
theorem kd_X8_init : hnd yX8_init 1 := ⟨by decide +kernel, by decide +kernel, by decide +kernel⟩
theorem kc_X9_init : Cond.code yX9_init cX9_init 1 none ∈ TG := (TG_tab 19 (by decide +kernel) rfl)
theorem kd_X9_init : hnd yX9_init 0 := ⟨by decide +kernel, by decide +kernel, by decide +kernel⟩
theorem kc_X9_reset : Cond.code yX9_reset cX9_reset 4 (some .int) ∈ TG := (TG_tab 640 (by decide +kernel) rfl)
theorem kd_X9_reset : hnd yX9_reset 3 := ⟨by decide +kernel, by decide +kernel, by decide +kernel⟩
theorem kc_X9_rowCount : Cond.code yX9_rowCount cX9_rowCount 1 (some .int) ∈ TG := (TG_tab 332 (by decide +kernel) rfl)
theorem kd_X9_rowCount : hnd yX9_rowCount 0 := ⟨by decide +kernel, by decide +kernel, by decide +kernel⟩
theorem kc_X9_columnCount : Cond.code yX9_columnCount cX9_columnCount 1 (some .int) ∈ TG := (TG_tab 336 (by decide +kernel) rfl)
theorem kd_X9_columnCount : hnd yX9_columnCount 0 := ⟨by decide +kernel, by decide +kernel, by decide +kernel⟩
theorem kc_X9_candidates : Cond.code yX9_candidates cX9_candidates 3 (some .int) ∈ TG := (TG_tab 678 (by decide +kernel) rfl)
theorem kd_X9_candidates : hnd yX9_candidates 2 := ⟨by decide +kernel, by decide +kernel, by decide +kernel⟩
theorem kc_X9_color : Cond.code yX9_color cX9_color 4 (some .int) ∈ TG := (TG_tab 340 (by decide +kernel) rfl)
theorem kd_X9_color : hnd yX9_color 2 := ⟨by decide +kernel, by decide +kernel, by decide +kernel⟩
theorem kc_X9_keepOnly : Cond.code yX9_keepOnly cX9_keepOnly 7 (some .int) ∈ TG := (TG_tab 369 (by decide +kernel) rfl)
theorem kd_X9_keepOnly : hnd yX9_keepOnly 3 := ⟨by decide +kernel, by decide +kernel, by decide +kernel⟩
theorem kc_X9_propagate : Cond.code yX9_propagate cX9_propagate 1 (some .int) ∈ TG := (TG_tab 402 (by decide +kernel) rfl)
theorem kd_X9_propagate : hnd yX9_propagate 0 := ⟨by decide +kernel, by decide +kernel, by decide +kernel⟩
theorem kc_X9_probeAll : Cond.code yX9_probeAll cX9_probeAll 5 (some .int) ∈ TG := (TG_tab 501 (by decide +kernel) rfl)
theorem kd_X9_probeAll : hnd yX9_probeAll 0 := ⟨by decide +kernel, by decide +kernel, by decide +kernel⟩
theorem kc_X9_countSolutions : Cond.code yX9_countSolutions cX9_countSolutions 2 (some .int) ∈ TG := (TG_tab 542 (by decide +kernel) rfl)
theorem kd_X9_countSolutions : hnd yX9_countSolutions 1 := ⟨by decide +kernel, by decide +kernel, by decide +kernel⟩
theorem kc_X9_solutionColor : Cond.code yX9_solutionColor cX9_solutionColor 4 (some .int) ∈ TG := (TG_tab 593 (by decide +kernel) rfl)
theorem kd_X9_solutionColor : hnd yX9_solutionColor 3 := ⟨by decide +kernel, by decide +kernel, by decide +kernel⟩
theorem kc_X9_isUnique : Cond.code yX9_isUnique cX9_isUnique 1 (some .int) ∈ TG := (TG_tab 602 (by decide +kernel) rfl)
theorem kd_X9_isUnique : hnd yX9_isUnique 0 := ⟨by decide +kernel, by decide +kernel, by decide +kernel⟩
theorem kc_X9_firstMismatch : Cond.code yX9_firstMismatch cX9_firstMismatch 2 (some .int) ∈ TG := (TG_tab 606 (by decide +kernel) rfl)
theorem kd_X9_firstMismatch : hnd yX9_firstMismatch 0 := ⟨by decide +kernel, by decide +kernel, by decide +kernel⟩
theorem kc_X9_drawPicture : Cond.code yX9_drawPicture cX9_drawPicture 7 (some .int) ∈ TG := (TG_tab 648 (by decide +kernel) rfl)
theorem kd_X9_drawPicture : hnd yX9_drawPicture 1 := ⟨by decide +kernel, by decide +kernel, by decide +kernel⟩
theorem kc_X9_clearCells : Cond.code yX9_clearCells cX9_clearCells 2 (some .int) ∈ TG := (TG_tab 614 (by decide +kernel) rfl)
theorem kd_X9_clearCells : hnd yX9_clearCells 0 := ⟨by decide +kernel, by decide +kernel, by decide +kernel⟩
theorem kc_X9_isWithin : Cond.code yX9_isWithin cX9_isWithin 3 (some .boolean) ∈ TG := (TG_tab 347 (by decide +kernel) rfl)
theorem kd_X9_isWithin : hnd yX9_isWithin 3 := ⟨by decide +kernel, by decide +kernel, by decide +kernel⟩
theorem kc_X9_candidateError : Cond.code yX9_candidateError cX9_candidateError 4 (some .int) ∈ TG := (TG_tab 373 (by decide +kernel) rfl)
theorem kd_X9_candidateError : hnd yX9_candidateError 3 := ⟨by decide +kernel, by decide +kernel, by decide +kernel⟩
theorem kc_X9_commitWork : Cond.code yX9_commitWork cX9_commitWork 1 none ∈ TG := (TG_tab 497 (by decide +kernel) rfl)
theorem kd_X9_commitWork : hnd yX9_commitWork 0 := ⟨by decide +kernel, by decide +kernel, by decide +kernel⟩
theorem kc_X9_remember : Cond.code yX9_remember cX9_remember 3 (some .int) ∈ TG := (TG_tab 493 (by decide +kernel) rfl)
theorem kd_X9_remember : hnd yX9_remember 2 := ⟨by decide +kernel, by decide +kernel, by decide +kernel⟩
theorem kc_X9_forgetContradiction : Cond.code yX9_forgetContradiction cX9_forgetContradiction 1 none ∈ TG := (TG_tab 644 (by decide +kernel) rfl)
theorem kd_X9_forgetContradiction : hnd yX9_forgetContradiction 0 := ⟨by decide +kernel, by decide +kernel, by decide +kernel⟩
theorem kc_J6_bitCount_0f7a4 : Cond.code yJ6_bitCount_0f7a4 cJ6_bitCount_0f7a4 1 (some .int) ∈ TG := (TG_tab 358 (by decide +kernel) rfl)
theorem kd_J6_bitCount_0f7a4 : hnd yJ6_bitCount_0f7a4 1 := ⟨by decide +kernel, by decide +kernel, by decide +kernel⟩
theorem kc_J9_max_7cf53 : Cond.code yJ9_max_7cf53 cJ9_max_7cf53 2 (some .int) ∈ TG := (TG_tab 237 (by decide +kernel) rfl)
theorem kd_J9_max_7cf53 : hnd yJ9_max_7cf53 2 := ⟨by decide +kernel, by decide +kernel, by decide +kernel⟩
theorem kc_J9_min_7cf53 : Cond.code yJ9_min_7cf53 cJ9_min_7cf53 2 (some .int) ∈ TG := (TG_tab 398 (by decide +kernel) rfl)
theorem kd_J9_min_7cf53 : hnd yJ9_min_7cf53 2 := ⟨by decide +kernel, by decide +kernel, by decide +kernel⟩
theorem kc_J7_fill_53178 : Cond.code yJ7_fill_53178 cJ7_fill_53178 4 none ∈ TG := (TG_tab 274 (by decide +kernel) rfl)
theorem kd_J7_fill_53178 : hnd yJ7_fill_53178 2 := ⟨by decide +kernel, by decide +kernel, by decide +kernel⟩
theorem kc_L_stirred : Cond.code yL_stirred cL_stirred 6 (some .int) ∈ TG := (TG_tab 629 (by decide +kernel) rfl)
theorem kd_L_stirred : hnd yL_stirred 1 := ⟨by decide +kernel, by decide +kernel, by decide +kernel⟩
theorem kc_L_cell : Cond.code yL_cell cL_cell 3 (some .int) ∈ TG := (TG_tab 626 (by decide +kernel) rfl)
theorem kd_L_cell : hnd yL_cell 2 := ⟨by decide +kernel, by decide +kernel, by decide +kernel⟩
theorem kc_L_some : Cond.code yL_some cL_some 3 (some .int) ∈ TG := (TG_tab 623 (by decide +kernel) rfl)
theorem kd_L_some : hnd yL_some 3 := ⟨by decide +kernel, by decide +kernel, by decide +kernel⟩
theorem kc_L_draws : Cond.code yL_draws cL_draws 5 (some .boolean) ∈ TG := (TG_tab 636 (by decide +kernel) rfl)
theorem kd_L_draws : hnd yL_draws 3 := ⟨by decide +kernel, by decide +kernel, by decide +kernel⟩
theorem kc_L_isThere : Cond.code yL_isThere cL_isThere 3 (some .boolean) ∈ TG := (TG_tab 674 (by decide +kernel) rfl)
theorem kd_L_isThere : hnd yL_isThere 2 := ⟨by decide +kernel, by decide +kernel, by decide +kernel⟩
theorem fl_X0_9 : FL RX0 9 0 0 := ⟨RX0, TX0, 3, rfl, by decide, in_X0, Or.inl (TG_tab 35 (by decide +kernel) rfl)⟩
theorem fl_X0_15 : FL RX0 15 0 1 := ⟨RX0, TX0, 3, rfl, by decide, in_X0, Or.inl (TG_tab 36 (by decide +kernel) rfl)⟩
theorem fl_X0_18 : FL RX0 18 0 2 := ⟨RX0, TX0, 3, rfl, by decide, in_X0, Or.inl (TG_tab 37 (by decide +kernel) rfl)⟩
theorem lk_X0_29 : LkV RX0 29 yX0_isFull cX0_isFull 2 (some .boolean) 1 := LkV.of (TG_tab 668 (by decide +kernel) rfl) (TG_tab 669 (by decide +kernel) rfl) (TG_tab 670 (by decide +kernel) rfl) (TG_tab 3 (by decide +kernel) rfl) kc_X0_isFull kd_X0_isFull
theorem lk_X0_33 : LkS RX0 33 yJ7_fill_53178 cJ7_fill_53178 4 none 2 := LkS.of (TG_tab 272 (by decide +kernel) rfl) (TG_tab 273 (by decide +kernel) rfl) (TG_tab 12 (by decide +kernel) rfl) kc_J7_fill_53178 kd_J7_fill_53178
theorem lc_X0_39 : LC RX0 39 := ⟨(TG_tab 392 (by decide +kernel) rfl), (TG_tab 394 (by decide +kernel) rfl), (TG_tab 393 (by decide +kernel) rfl), (TG_tab 14 (by decide +kernel) rfl)⟩
theorem fp_X1_9 : FP RX1 9 1 0 .int := ⟨RX1, TX1, 5, tyX1, rfl, by decide, in_X1, Or.inl (TG_tab 46 (by decide +kernel) rfl), tyX1_ok, nmX1, rfl, by decide +kernel⟩
theorem fp_X1_15 : FP RX1 15 1 1 .int := ⟨RX1, TX1, 5, tyX1, rfl, by decide, in_X1, Or.inl (TG_tab 49 (by decide +kernel) rfl), tyX1_ok, nmX1, rfl, by decide +kernel⟩
theorem fp_X1_18 : FP RX1 18 1 2 .int := ⟨RX1, TX1, 5, tyX1, rfl, by decide, in_X1, Or.inl (TG_tab 51 (by decide +kernel) rfl), tyX1_ok, nmX1, rfl, by decide +kernel⟩
theorem lk_X1_23 : LkI RX1 23 yX0_init cX0_init 1 0 := LkI.of (Or.inr ⟨"NonogramSolver", List.mem_of_getElem? (i := 31) (by decide +kernel)⟩) (TG_tab 32 (by decide +kernel) rfl) (TG_tab 3 (by decide +kernel) rfl) kc_X0_init rfl kd_X0_init
theorem fl_X1_24 : FL RX1 24 1 3 := ⟨RX1, TX1, 5, rfl, by decide, in_X1, Or.inl (TG_tab 55 (by decide +kernel) rfl)⟩
theorem lk_X1_32 : LkV RX1 32 yX0_emptyAll cX0_emptyAll 1 none 0 := LkV.of (TG_tab 268 (by decide +kernel) rfl) (TG_tab 269 (by decide +kernel) rfl) (TG_tab 270 (by decide +kernel) rfl) (TG_tab 3 (by decide +kernel) rfl) kc_X0_emptyAll kd_X0_emptyAll
theorem lk_X1_35 : LkV RX1 35 yX1_fillCandidates cX1_fillCandidates 1 none 0 := LkV.of (TG_tab 275 (by decide +kernel) rfl) (TG_tab 276 (by decide +kernel) rfl) (TG_tab 277 (by decide +kernel) rfl) (TG_tab 2 (by decide +kernel) rfl) kc_X1_fillCandidates kd_X1_fillCandidates
theorem fl_X1_28 : FL RX1 28 1 4 := ⟨RX1, TX1, 5, rfl, by decide, in_X1, Or.inl (TG_tab 57 (by decide +kernel) rfl)⟩
theorem fl_X1_18 : FL RX1 18 1 2 := ⟨RX1, TX1, 5, rfl, by decide, in_X1, Or.inl (TG_tab 51 (by decide +kernel) rfl)⟩
theorem lk_X1_38 : LkS RX1 38 yJ7_fill_53178 cJ7_fill_53178 4 none 2 := LkS.of (TG_tab 279 (by decide +kernel) rfl) (TG_tab 273 (by decide +kernel) rfl) (TG_tab 12 (by decide +kernel) rfl) kc_J7_fill_53178 kd_J7_fill_53178
theorem fl_X1_9 : FL RX1 9 1 0 := ⟨RX1, TX1, 5, rfl, by decide, in_X1, Or.inl (TG_tab 46 (by decide +kernel) rfl)⟩
theorem fl_X1_15 : FL RX1 15 1 1 := ⟨RX1, TX1, 5, rfl, by decide, in_X1, Or.inl (TG_tab 49 (by decide +kernel) rfl)⟩
theorem lk_X1_44 : LkV RX1 44 yX0_copyFrom cX0_copyFrom 2 none 1 := LkV.of (TG_tab 388 (by decide +kernel) rfl) (TG_tab 389 (by decide +kernel) rfl) (TG_tab 390 (by decide +kernel) rfl) (TG_tab 3 (by decide +kernel) rfl) kc_X0_copyFrom kd_X0_copyFrom
theorem lc_X1_48 : LC RX1 48 := ⟨(TG_tab 395 (by decide +kernel) rfl), (TG_tab 394 (by decide +kernel) rfl), (TG_tab 393 (by decide +kernel) rfl), (TG_tab 14 (by decide +kernel) rfl)⟩
theorem lk_X1_54 : LkV RX1 54 yX1_lineTotal cX1_lineTotal 1 (some .int) 0 := LkV.of (TG_tab 408 (by decide +kernel) rfl) (TG_tab 409 (by decide +kernel) rfl) (TG_tab 410 (by decide +kernel) rfl) (TG_tab 2 (by decide +kernel) rfl) kc_X1_lineTotal kd_X1_lineTotal
theorem lk_X1_58 : LkSN RX1 58 yX9_isWithin cX9_isWithin 3 (some .boolean) 3 := LkSN.of (host := "NonogramSolver") (List.mem_of_getElem? (i := 345) (by decide +kernel)) (TG_tab 346 (by decide +kernel) rfl) (TG_tab 1 (by decide +kernel) rfl) kc_X9_isWithin kd_X9_isWithin
theorem lk_X1_62 : LkV RX1 62 yX1_rowLine cX1_rowLine 2 (some .int) 1 := LkV.of (TG_tab 531 (by decide +kernel) rfl) (TG_tab 532 (by decide +kernel) rfl) (TG_tab 533 (by decide +kernel) rfl) (TG_tab 2 (by decide +kernel) rfl) kc_X1_rowLine kd_X1_rowLine
theorem lk_X1_66 : LkV RX1 66 yX1_columnLine cX1_columnLine 2 (some .int) 1 := LkV.of (TG_tab 535 (by decide +kernel) rfl) (TG_tab 536 (by decide +kernel) rfl) (TG_tab 537 (by decide +kernel) rfl) (TG_tab 2 (by decide +kernel) rfl) kc_X1_columnLine kd_X1_columnLine
theorem lk_X1_69 : LkS RX1 69 yJ6_bitCount_0f7a4 cJ6_bitCount_0f7a4 1 (some .int) 1 := LkS.of (TG_tab 356 (by decide +kernel) rfl) (TG_tab 357 (by decide +kernel) rfl) (TG_tab 13 (by decide +kernel) rfl) kc_J6_bitCount_0f7a4 kd_J6_bitCount_0f7a4
theorem lk_X1_74 : LkV RX1 74 yX1_cellTotal cX1_cellTotal 1 (some .int) 0 := LkV.of (TG_tab 562 (by decide +kernel) rfl) (TG_tab 517 (by decide +kernel) rfl) (TG_tab 518 (by decide +kernel) rfl) (TG_tab 2 (by decide +kernel) rfl) kc_X1_cellTotal kd_X1_cellTotal
theorem lk_X1_77 : LkV RX1 77 yX1_isDecided cX1_isDecided 2 (some .boolean) 1 := LkV.of (TG_tab 563 (by decide +kernel) rfl) (TG_tab 353 (by decide +kernel) rfl) (TG_tab 354 (by decide +kernel) rfl) (TG_tab 2 (by decide +kernel) rfl) kc_X1_isDecided kd_X1_isDecided
theorem lk_X1_81 : LkV RX1 81 yX1_decidedTotal cX1_decidedTotal 3 (some .int) 0 := LkV.of (TG_tab 558 (by decide +kernel) rfl) (TG_tab 559 (by decide +kernel) rfl) (TG_tab 560 (by decide +kernel) rfl) (TG_tab 2 (by decide +kernel) rfl) kc_X1_decidedTotal kd_X1_decidedTotal
theorem lk_X1_84 : LkV RX1 84 yX1_lineLength cX1_lineLength 2 (some .int) 1 := LkV.of (TG_tab 581 (by decide +kernel) rfl) (TG_tab 426 (by decide +kernel) rfl) (TG_tab 427 (by decide +kernel) rfl) (TG_tab 2 (by decide +kernel) rfl) kc_X1_lineLength kd_X1_lineLength
theorem lk_X1_87 : LkV RX1 87 yX1_lineCell cX1_lineCell 3 (some .int) 2 := LkV.of (TG_tab 582 (by decide +kernel) rfl) (TG_tab 439 (by decide +kernel) rfl) (TG_tab 440 (by decide +kernel) rfl) (TG_tab 2 (by decide +kernel) rfl) kc_X1_lineCell kd_X1_lineCell
theorem lk_X1_91 : LkV RX1 91 yX1_describeLine cX1_describeLine 5 none 1 := LkV.of (TG_tab 655 (by decide +kernel) rfl) (TG_tab 657 (by decide +kernel) rfl) (TG_sel (q := (yX1_describeLine, 5)) 18 (by decide +kernel)) (TG_tab 2 (by decide +kernel) rfl) kc_X1_describeLine kd_X1_describeLine
theorem lk_X1_95 : LkV RX1 95 yX1_decidedColor cX1_decidedColor 2 (some .int) 1 := LkV.of (TG_tab 659 (by decide +kernel) rfl) (TG_tab 363 (by decide +kernel) rfl) (TG_tab 364 (by decide +kernel) rfl) (TG_tab 2 (by decide +kernel) rfl) kc_X1_decidedColor kd_X1_decidedColor
theorem lk_X1_98 : LkV RX1 98 yX0_lengthenLast cX0_lengthenLast 2 none 1 := LkV.of (TG_tab 660 (by decide +kernel) rfl) (TG_tab 661 (by decide +kernel) rfl) (TG_tab 662 (by decide +kernel) rfl) (TG_tab 3 (by decide +kernel) rfl) kc_X0_lengthenLast kd_X0_lengthenLast
theorem lk_X1_101 : LkV RX1 101 yX0_append cX0_append 5 none 3 := LkV.of (TG_tab 664 (by decide +kernel) rfl) (TG_tab 665 (by decide +kernel) rfl) (TG_tab 666 (by decide +kernel) rfl) (TG_tab 3 (by decide +kernel) rfl) kc_X0_append kd_X0_append
theorem fp_X2_17 : FP RX2 17 2 1 .int := ⟨RX2, TX2, 3, tyX2, rfl, by decide, in_X2, Or.inl (TG_tab 83 (by decide +kernel) rfl), tyX2_ok, nmX2, rfl, by decide +kernel⟩
theorem fp_X2_21 : FP RX2 21 2 2 .int := ⟨RX2, TX2, 3, tyX2, rfl, by decide, in_X2, Or.inl (TG_tab 84 (by decide +kernel) rfl), tyX2_ok, nmX2, rfl, by decide +kernel⟩
theorem fl_X2_11 : FL RX2 11 2 0 := ⟨RX2, TX2, 3, rfl, by decide, in_X2, Or.inl (TG_tab 82 (by decide +kernel) rfl)⟩
theorem lk_X2_24 : LkI RX2 24 yX1_init cX1_init 1 0 := LkI.of (Or.inr ⟨"NonogramSolver", List.mem_of_getElem? (i := 81) (by decide +kernel)⟩) (TG_tab 26 (by decide +kernel) rfl) (TG_tab 2 (by decide +kernel) rfl) kc_X1_init rfl kd_X1_init
theorem fl_X2_17 : FL RX2 17 2 1 := ⟨RX2, TX2, 3, rfl, by decide, in_X2, Or.inl (TG_tab 83 (by decide +kernel) rfl)⟩
theorem lk_X2_25 : LkV RX2 25 yX1_copyFrom cX1_copyFrom 2 none 1 := LkV.of (TG_tab 384 (by decide +kernel) rfl) (TG_tab 385 (by decide +kernel) rfl) (TG_tab 386 (by decide +kernel) rfl) (TG_tab 2 (by decide +kernel) rfl) kc_X1_copyFrom kd_X1_copyFrom
theorem fl_X2_21 : FL RX2 21 2 2 := ⟨RX2, TX2, 3, rfl, by decide, in_X2, Or.inl (TG_tab 84 (by decide +kernel) rfl)⟩
theorem lk_X2_29 : LkS RX2 29 yJ9_min_7cf53 cJ9_min_7cf53 2 (some .int) 2 := LkS.of (TG_tab 396 (by decide +kernel) rfl) (TG_tab 397 (by decide +kernel) rfl) (TG_tab 10 (by decide +kernel) rfl) kc_J9_min_7cf53 kd_J9_min_7cf53
theorem fp_X3_9 : FP RX3 9 3 0 .int := ⟨RX3, TX3, 12, tyX3, rfl, by decide, in_X3, Or.inl (TG_tab 98 (by decide +kernel) rfl), tyX3_ok, nmX3, rfl, by decide +kernel⟩
theorem fp_X3_15 : FP RX3 15 3 1 .int := ⟨RX3, TX3, 12, tyX3, rfl, by decide, in_X3, Or.inl (TG_tab 99 (by decide +kernel) rfl), tyX3_ok, nmX3, rfl, by decide +kernel⟩
theorem fp_X3_43 : FP RX3 43 3 10 .int := ⟨RX3, TX3, 12, tyX3, rfl, by decide, in_X3, Or.inl (TG_tab 108 (by decide +kernel) rfl), tyX3_ok, nmX3, rfl, by decide +kernel⟩
theorem fp_X3_46 : FP RX3 46 3 11 .int := ⟨RX3, TX3, 12, tyX3, rfl, by decide, in_X3, Or.inl (TG_tab 110 (by decide +kernel) rfl), tyX3_ok, nmX3, rfl, by decide +kernel⟩
theorem lk_X3_49 : LkV RX3 49 yX1_lineLength cX1_lineLength 2 (some .int) 1 := LkV.of (TG_tab 425 (by decide +kernel) rfl) (TG_tab 426 (by decide +kernel) rfl) (TG_tab 427 (by decide +kernel) rfl) (TG_tab 2 (by decide +kernel) rfl) kc_X1_lineLength kd_X1_lineLength
theorem fl_X3_55 : FL RX3 55 1 3 := ⟨RX1, TX1, 5, rfl, by decide, in_X1, Or.inr ⟨"NonogramSolver", List.mem_of_getElem? (i := 56) (by decide +kernel)⟩⟩
theorem lk_X3_59 : LkV RX3 59 yX0_runsOf cX0_runsOf 2 (some .int) 1 := LkV.of (TG_tab 429 (by decide +kernel) rfl) (TG_tab 430 (by decide +kernel) rfl) (TG_tab 431 (by decide +kernel) rfl) (TG_tab 3 (by decide +kernel) rfl) kc_X0_runsOf kd_X0_runsOf
theorem lk_X3_64 : LkV RX3 64 yX3_loadCandidates cX3_loadCandidates 6 none 2 := LkV.of (TG_tab 433 (by decide +kernel) rfl) (TG_tab 435 (by decide +kernel) rfl) (TG_sel (q := (yX3_loadCandidates, 12)) 1 (by decide +kernel)) (TG_tab 5 (by decide +kernel) rfl) kc_X3_loadCandidates kd_X3_loadCandidates
theorem lk_X3_68 : LkV RX3 68 yX3_loadRuns cX3_loadRuns 5 none 2 := LkV.of (TG_tab 442 (by decide +kernel) rfl) (TG_tab 444 (by decide +kernel) rfl) (TG_sel (q := (yX3_loadRuns, 12)) 2 (by decide +kernel)) (TG_tab 5 (by decide +kernel) rfl) kc_X3_loadRuns kd_X3_loadRuns
theorem lk_X3_72 : LkV RX3 72 yX3_countWays cX3_countWays 4 none 0 := LkV.of (TG_tab 461 (by decide +kernel) rfl) (TG_tab 463 (by decide +kernel) rfl) (TG_sel (q := (yX3_countWays, 12)) 3 (by decide +kernel)) (TG_tab 5 (by decide +kernel) rfl) kc_X3_countWays kd_X3_countWays
theorem fl_X3_31 : FL RX3 31 3 6 := ⟨RX3, TX3, 12, rfl, by decide, in_X3, Or.inl (TG_tab 104 (by decide +kernel) rfl)⟩
theorem lk_X3_75 : LkS RX3 75 yJ7_fill_53178 cJ7_fill_53178 4 none 2 := LkS.of (TG_tab 437 (by decide +kernel) rfl) (TG_tab 273 (by decide +kernel) rfl) (TG_tab 12 (by decide +kernel) rfl) kc_J7_fill_53178 kd_J7_fill_53178
theorem fl_X3_9 : FL RX3 9 3 0 := ⟨RX3, TX3, 12, rfl, by decide, in_X3, Or.inl (TG_tab 98 (by decide +kernel) rfl)⟩
theorem fl_X3_81 : FL RX3 81 1 4 := ⟨RX1, TX1, 5, rfl, by decide, in_X1, Or.inr ⟨"NonogramSolver", List.mem_of_getElem? (i := 58) (by decide +kernel)⟩⟩
theorem lk_X3_84 : LkV RX3 84 yX1_lineCell cX1_lineCell 3 (some .int) 2 := LkV.of (TG_tab 438 (by decide +kernel) rfl) (TG_tab 439 (by decide +kernel) rfl) (TG_tab 440 (by decide +kernel) rfl) (TG_tab 2 (by decide +kernel) rfl) kc_X1_lineCell kd_X1_lineCell
theorem fl_X3_15 : FL RX3 15 3 1 := ⟨RX3, TX3, 12, rfl, by decide, in_X3, Or.inl (TG_tab 99 (by decide +kernel) rfl)⟩
theorem lk_X3_88 : LkV RX3 88 yX0_needsGapBehind cX0_needsGapBehind 4 (some .boolean) 2 := LkV.of (TG_tab 446 (by decide +kernel) rfl) (TG_tab 447 (by decide +kernel) rfl) (TG_tab 448 (by decide +kernel) rfl) (TG_tab 3 (by decide +kernel) rfl) kc_X0_needsGapBehind kd_X0_needsGapBehind
theorem fl_X3_18 : FL RX3 18 3 2 := ⟨RX3, TX3, 12, rfl, by decide, in_X3, Or.inl (TG_tab 100 (by decide +kernel) rfl)⟩
theorem lk_X3_92 : LkV RX3 92 yX0_lengthOf cX0_lengthOf 3 (some .int) 2 := LkV.of (TG_tab 450 (by decide +kernel) rfl) (TG_tab 451 (by decide +kernel) rfl) (TG_tab 452 (by decide +kernel) rfl) (TG_tab 3 (by decide +kernel) rfl) kc_X0_lengthOf kd_X0_lengthOf
theorem fl_X3_22 : FL RX3 22 3 3 := ⟨RX3, TX3, 12, rfl, by decide, in_X3, Or.inl (TG_tab 101 (by decide +kernel) rfl)⟩
theorem lk_X3_95 : LkV RX3 95 yX0_colorOf cX0_colorOf 3 (some .int) 2 := LkV.of (TG_tab 454 (by decide +kernel) rfl) (TG_tab 455 (by decide +kernel) rfl) (TG_tab 456 (by decide +kernel) rfl) (TG_tab 3 (by decide +kernel) rfl) kc_X0_colorOf kd_X0_colorOf
theorem fl_X3_25 : FL RX3 25 3 4 := ⟨RX3, TX3, 12, rfl, by decide, in_X3, Or.inl (TG_tab 102 (by decide +kernel) rfl)⟩
theorem fl_X3_28 : FL RX3 28 3 5 := ⟨RX3, TX3, 12, rfl, by decide, in_X3, Or.inl (TG_tab 103 (by decide +kernel) rfl)⟩
theorem lk_X3_98 : LkS RX3 98 yX3_startsOf cX3_startsOf 4 (some .int) 2 := LkS.of (TG_tab 458 (by decide +kernel) rfl) (TG_tab 459 (by decide +kernel) rfl) (TG_tab 5 (by decide +kernel) rfl) kc_X3_startsOf kd_X3_startsOf
theorem fl_X3_40 : FL RX3 40 3 9 := ⟨RX3, TX3, 12, rfl, by decide, in_X3, Or.inl (TG_tab 107 (by decide +kernel) rfl)⟩
theorem lk_X3_101 : LkV RX3 101 yX3_whiteWays cX3_whiteWays 4 (some .int) 2 := LkV.of (TG_tab 465 (by decide +kernel) rfl) (TG_tab 467 (by decide +kernel) rfl) (TG_sel (q := (yX3_whiteWays, 12)) 4 (by decide +kernel)) (TG_tab 5 (by decide +kernel) rfl) kc_X3_whiteWays kd_X3_whiteWays
theorem lk_X3_104 : LkV RX3 104 yX3_runWays cX3_runWays 4 (some .int) 2 := LkV.of (TG_tab 469 (by decide +kernel) rfl) (TG_tab 471 (by decide +kernel) rfl) (TG_sel (q := (yX3_runWays, 12)) 5 (by decide +kernel)) (TG_tab 5 (by decide +kernel) rfl) kc_X3_runWays kd_X3_runWays
theorem lk_X3_107 : LkV RX3 107 yX3_load cX3_load 3 none 2 := LkV.of (TG_tab 421 (by decide +kernel) rfl) (TG_tab 422 (by decide +kernel) rfl) (TG_tab 423 (by decide +kernel) rfl) (TG_tab 5 (by decide +kernel) rfl) kc_X3_load kd_X3_load
theorem lk_X3_110 : LkV RX3 110 yX3_total cX3_total 1 (some .int) 0 := LkV.of (TG_tab 473 (by decide +kernel) rfl) (TG_tab 474 (by decide +kernel) rfl) (TG_tab 475 (by decide +kernel) rfl) (TG_tab 5 (by decide +kernel) rfl) kc_X3_total kd_X3_total
theorem lk_X3_114 : LkV RX3 114 yX3_findSeen cX3_findSeen 4 none 0 := LkV.of (TG_tab 477 (by decide +kernel) rfl) (TG_tab 479 (by decide +kernel) rfl) (TG_sel (q := (yX3_findSeen, 12)) 6 (by decide +kernel)) (TG_tab 5 (by decide +kernel) rfl) kc_X3_findSeen kd_X3_findSeen
theorem lk_X3_117 : LkV RX3 117 yX3_seenAt cX3_seenAt 4 (some .int) 1 := LkV.of (TG_tab 485 (by decide +kernel) rfl) (TG_tab 487 (by decide +kernel) rfl) (TG_sel (q := (yX3_seenAt, 12)) 8 (by decide +kernel)) (TG_tab 5 (by decide +kernel) rfl) kc_X3_seenAt kd_X3_seenAt
theorem fl_X3_43 : FL RX3 43 3 10 := ⟨RX3, TX3, 12, rfl, by decide, in_X3, Or.inl (TG_tab 108 (by decide +kernel) rfl)⟩
theorem lk_X3_120 : LkS RX3 120 yJ6_bitCount_0f7a4 cJ6_bitCount_0f7a4 1 (some .int) 1 := LkS.of (TG_tab 489 (by decide +kernel) rfl) (TG_tab 357 (by decide +kernel) rfl) (TG_tab 13 (by decide +kernel) rfl) kc_J6_bitCount_0f7a4 kd_J6_bitCount_0f7a4
theorem fl_X3_46 : FL RX3 46 3 11 := ⟨RX3, TX3, 12, rfl, by decide, in_X3, Or.inl (TG_tab 110 (by decide +kernel) rfl)⟩
theorem fl_X3_125 : FL RX3 125 1 0 := ⟨RX1, TX1, 5, rfl, by decide, in_X1, Or.inr ⟨"NonogramSolver", List.mem_of_getElem? (i := 48) (by decide +kernel)⟩⟩
theorem fl_X3_34 : FL RX3 34 3 7 := ⟨RX3, TX3, 12, rfl, by decide, in_X3, Or.inl (TG_tab 105 (by decide +kernel) rfl)⟩
theorem fl_X3_37 : FL RX3 37 3 8 := ⟨RX3, TX3, 12, rfl, by decide, in_X3, Or.inl (TG_tab 106 (by decide +kernel) rfl)⟩
theorem lk_X3_128 : LkV RX3 128 yX3_seeRun cX3_seeRun 4 none 2 := LkV.of (TG_tab 481 (by decide +kernel) rfl) (TG_tab 483 (by decide +kernel) rfl) (TG_sel (q := (yX3_seeRun, 12)) 7 (by decide +kernel)) (TG_tab 5 (by decide +kernel) rfl) kc_X3_seeRun kd_X3_seeRun
theorem lk_X4_9 : LkI RX4 9 yX1_init cX1_init 1 0 := LkI.of (Or.inr ⟨"NonogramSolver", List.mem_of_getElem? (i := 168) (by decide +kernel)⟩) (TG_tab 26 (by decide +kernel) rfl) (TG_tab 2 (by decide +kernel) rfl) kc_X1_init rfl kd_X1_init
theorem lk_X4_18 : LkI RX4 18 yX5_init cX5_init 1 0 := LkI.of (Or.inr ⟨"NonogramSolver", List.mem_of_getElem? (i := 170) (by decide +kernel)⟩) (TG_tab 140 (by decide +kernel) rfl) (TG_tab 6 (by decide +kernel) rfl) kc_X5_init rfl kd_X5_init
theorem fp_X4_23 : FP RX4 23 4 2 .int := ⟨RX4, TX4, 4, tyX4, rfl, by decide, in_X4, Or.inl (TG_tab 173 (by decide +kernel) rfl), tyX4_ok, nmX4, rfl, by decide +kernel⟩
theorem fp_X4_27 : FP RX4 27 4 3 .int := ⟨RX4, TX4, 4, tyX4, rfl, by decide, in_X4, Or.inl (TG_tab 175 (by decide +kernel) rfl), tyX4_ok, nmX4, rfl, by decide +kernel⟩
theorem lk_X4_30 : LkV RX4 30 yX1_allLines cX1_allLines 1 (some .int) 0 := LkV.of (TG_tab 506 (by decide +kernel) rfl) (TG_tab 405 (by decide +kernel) rfl) (TG_tab 406 (by decide +kernel) rfl) (TG_tab 2 (by decide +kernel) rfl) kc_X1_allLines kd_X1_allLines
theorem lk_X4_34 : LkV RX4 34 yX4_settle cX4_settle 4 (some .boolean) 2 := LkV.of (TG_tab 507 (by decide +kernel) rfl) (TG_tab 509 (by decide +kernel) rfl) (TG_sel (q := (yX4_settle, 4)) 11 (by decide +kernel)) (TG_tab 7 (by decide +kernel) rfl) kc_X4_settle kd_X4_settle
theorem lk_X4_38 : LkV RX4 38 yX1_cellTotal cX1_cellTotal 1 (some .int) 0 := LkV.of (TG_tab 516 (by decide +kernel) rfl) (TG_tab 517 (by decide +kernel) rfl) (TG_tab 518 (by decide +kernel) rfl) (TG_tab 2 (by decide +kernel) rfl) kc_X1_cellTotal kd_X1_cellTotal
theorem fl_X4_41 : FL RX4 41 1 2 := ⟨RX1, TX1, 5, rfl, by decide, in_X1, Or.inr ⟨"NonogramSolver", List.mem_of_getElem? (i := 52) (by decide +kernel)⟩⟩
theorem lk_X4_44 : LkV RX4 44 yX1_hasCandidate cX1_hasCandidate 3 (some .boolean) 2 := LkV.of (TG_tab 520 (by decide +kernel) rfl) (TG_tab 376 (by decide +kernel) rfl) (TG_tab 377 (by decide +kernel) rfl) (TG_tab 2 (by decide +kernel) rfl) kc_X1_hasCandidate kd_X1_hasCandidate
theorem lk_X4_48 : LkV RX4 48 yX1_isDecided cX1_isDecided 2 (some .boolean) 1 := LkV.of (TG_tab 521 (by decide +kernel) rfl) (TG_tab 353 (by decide +kernel) rfl) (TG_tab 354 (by decide +kernel) rfl) (TG_tab 2 (by decide +kernel) rfl) kc_X1_isDecided kd_X1_isDecided
theorem lk_X4_52 : LkV RX4 52 yX4_failsWith cX4_failsWith 4 (some .boolean) 3 := LkV.of (TG_tab 522 (by decide +kernel) rfl) (TG_tab 524 (by decide +kernel) rfl) (TG_sel (q := (yX4_failsWith, 4)) 12 (by decide +kernel)) (TG_tab 7 (by decide +kernel) rfl) kc_X4_failsWith kd_X4_failsWith
theorem fl_X4_23 : FL RX4 23 4 2 := ⟨RX4, TX4, 4, rfl, by decide, in_X4, Or.inl (TG_tab 173 (by decide +kernel) rfl)⟩
theorem fl_X4_56 : FL RX4 56 1 4 := ⟨RX1, TX1, 5, rfl, by decide, in_X1, Or.inr ⟨"NonogramSolver", List.mem_of_getElem? (i := 59) (by decide +kernel)⟩⟩
theorem lk_X4_60 : LkV RX4 60 yX1_linesThrough cX1_linesThrough 2 (some .int) 1 := LkV.of (TG_tab 527 (by decide +kernel) rfl) (TG_tab 528 (by decide +kernel) rfl) (TG_tab 529 (by decide +kernel) rfl) (TG_tab 2 (by decide +kernel) rfl) kc_X1_linesThrough kd_X1_linesThrough
theorem fl_X4_10 : FL RX4 10 4 0 := ⟨RX4, TX4, 4, rfl, by decide, in_X4, Or.inl (TG_tab 171 (by decide +kernel) rfl)⟩
theorem lk_X4_64 : LkV RX4 64 yX1_copyFrom cX1_copyFrom 2 none 1 := LkV.of (TG_tab 526 (by decide +kernel) rfl) (TG_tab 385 (by decide +kernel) rfl) (TG_tab 386 (by decide +kernel) rfl) (TG_tab 2 (by decide +kernel) rfl) kc_X1_copyFrom kd_X1_copyFrom
theorem fl_X4_19 : FL RX4 19 4 1 := ⟨RX4, TX4, 4, rfl, by decide, in_X4, Or.inl (TG_tab 172 (by decide +kernel) rfl)⟩
theorem lk_X4_68 : LkV RX4 68 yX5_settle cX5_settle 7 (some .boolean) 2 := LkV.of (TG_tab 511 (by decide +kernel) rfl) (TG_tab 413 (by decide +kernel) rfl) (TG_tab 414 (by decide +kernel) rfl) (TG_tab 6 (by decide +kernel) rfl) kc_X5_settle kd_X5_settle
theorem fl_X4_69 : FL RX4 69 5 3 := ⟨RX5, TX5, 4, rfl, by decide, in_X5, Or.inr ⟨"NonogramSolver", List.mem_of_getElem? (i := 150) (by decide +kernel)⟩⟩
theorem lk_X5_11 : LkI RX5 11 yX3_init cX3_init 1 0 := LkI.of (Or.inr ⟨"NonogramSolver", List.mem_of_getElem? (i := 144) (by decide +kernel)⟩) (TG_tab 95 (by decide +kernel) rfl) (TG_tab 5 (by decide +kernel) rfl) kc_X3_init rfl kd_X3_init
theorem fp_X5_18 : FP RX5 18 5 1 .int := ⟨RX5, TX5, 4, tyX5, rfl, by decide, in_X5, Or.inl (TG_tab 146 (by decide +kernel) rfl), tyX5_ok, nmX5, rfl, by decide +kernel⟩
theorem fp_X5_22 : FP RX5 22 5 2 .int := ⟨RX5, TX5, 4, tyX5, rfl, by decide, in_X5, Or.inl (TG_tab 147 (by decide +kernel) rfl), tyX5_ok, nmX5, rfl, by decide +kernel⟩
theorem fp_X5_25 : FP RX5 25 5 3 .int := ⟨RX5, TX5, 4, tyX5, rfl, by decide, in_X5, Or.inl (TG_tab 149 (by decide +kernel) rfl), tyX5_ok, nmX5, rfl, by decide +kernel⟩
theorem fl_X5_22 : FL RX5 22 5 2 := ⟨RX5, TX5, 4, rfl, by decide, in_X5, Or.inl (TG_tab 147 (by decide +kernel) rfl)⟩
theorem fl_X5_18 : FL RX5 18 5 1 := ⟨RX5, TX5, 4, rfl, by decide, in_X5, Or.inl (TG_tab 146 (by decide +kernel) rfl)⟩
theorem lk_X5_28 : LkV RX5 28 yX1_lineTotal cX1_lineTotal 1 (some .int) 0 := LkV.of (TG_tab 416 (by decide +kernel) rfl) (TG_tab 409 (by decide +kernel) rfl) (TG_tab 410 (by decide +kernel) rfl) (TG_tab 2 (by decide +kernel) rfl) kc_X1_lineTotal kd_X1_lineTotal
theorem fl_X5_12 : FL RX5 12 5 0 := ⟨RX5, TX5, 4, rfl, by decide, in_X5, Or.inl (TG_tab 145 (by decide +kernel) rfl)⟩
theorem lk_X5_34 : LkV RX5 34 yX3_solve cX3_solve 6 (some .boolean) 2 := LkV.of (TG_tab 417 (by decide +kernel) rfl) (TG_tab 418 (by decide +kernel) rfl) (TG_tab 419 (by decide +kernel) rfl) (TG_tab 5 (by decide +kernel) rfl) kc_X3_solve kd_X3_solve
theorem fl_X5_38 : FL RX5 38 3 10 := ⟨RX3, TX3, 12, rfl, by decide, in_X3, Or.inr ⟨"NonogramSolver", List.mem_of_getElem? (i := 109) (by decide +kernel)⟩⟩
theorem fl_X5_39 : FL RX5 39 3 11 := ⟨RX3, TX3, 12, rfl, by decide, in_X3, Or.inr ⟨"NonogramSolver", List.mem_of_getElem? (i := 111) (by decide +kernel)⟩⟩
theorem lk_X6_11 : LkI RX6 11 yX1_init cX1_init 1 0 := LkI.of (Or.inr ⟨"NonogramSolver", List.mem_of_getElem? (i := 193) (by decide +kernel)⟩) (TG_tab 26 (by decide +kernel) rfl) (TG_tab 2 (by decide +kernel) rfl) kc_X1_init rfl kd_X1_init
theorem lk_X6_20 : LkI RX6 20 yX5_init cX5_init 1 0 := LkI.of (Or.inr ⟨"NonogramSolver", List.mem_of_getElem? (i := 195) (by decide +kernel)⟩) (TG_tab 140 (by decide +kernel) rfl) (TG_tab 6 (by decide +kernel) rfl) kc_X5_init rfl kd_X5_init
theorem fp_X6_35 : FP RX6 35 6 5 .int := ⟨RX6, TX6, 10, tyX6, rfl, by decide, in_X6, Or.inl (TG_tab 201 (by decide +kernel) rfl), tyX6_ok, nmX6, rfl, by decide +kernel⟩
theorem fp_X6_39 : FP RX6 39 6 6 .int := ⟨RX6, TX6, 10, tyX6, rfl, by decide, in_X6, Or.inl (TG_tab 202 (by decide +kernel) rfl), tyX6_ok, nmX6, rfl, by decide +kernel⟩
theorem fp_X6_42 : FP RX6 42 6 7 .int := ⟨RX6, TX6, 10, tyX6, rfl, by decide, in_X6, Or.inl (TG_tab 203 (by decide +kernel) rfl), tyX6_ok, nmX6, rfl, by decide +kernel⟩
theorem fp_X6_45 : FP RX6 45 6 8 .int := ⟨RX6, TX6, 10, tyX6, rfl, by decide, in_X6, Or.inl (TG_tab 204 (by decide +kernel) rfl), tyX6_ok, nmX6, rfl, by decide +kernel⟩
theorem fp_X6_48 : FP RX6 48 6 9 .boolean := ⟨RX6, TX6, 10, tyX6, rfl, by decide, in_X6, Or.inl (TG_tab 206 (by decide +kernel) rfl), tyX6_ok, nmX6, rfl, by decide +kernel⟩
theorem fl_X6_12 : FL RX6 12 6 0 := ⟨RX6, TX6, 10, rfl, by decide, in_X6, Or.inl (TG_tab 196 (by decide +kernel) rfl)⟩
theorem lk_X6_52 : LkV RX6 52 yX1_copyFrom cX1_copyFrom 2 none 1 := LkV.of (TG_tab 547 (by decide +kernel) rfl) (TG_tab 385 (by decide +kernel) rfl) (TG_tab 386 (by decide +kernel) rfl) (TG_tab 2 (by decide +kernel) rfl) kc_X1_copyFrom kd_X1_copyFrom
theorem lk_X6_56 : LkV RX6 56 yX1_allLines cX1_allLines 1 (some .int) 0 := LkV.of (TG_tab 548 (by decide +kernel) rfl) (TG_tab 405 (by decide +kernel) rfl) (TG_tab 406 (by decide +kernel) rfl) (TG_tab 2 (by decide +kernel) rfl) kc_X1_allLines kd_X1_allLines
theorem lk_X6_60 : LkV RX6 60 yX6_visit cX6_visit 2 none 1 := LkV.of (TG_tab 549 (by decide +kernel) rfl) (TG_tab 551 (by decide +kernel) rfl) (TG_sel (q := (yX6_visit, 10)) 13 (by decide +kernel)) (TG_tab 8 (by decide +kernel) rfl) kc_X6_visit kd_X6_visit
theorem fl_X6_35 : FL RX6 35 6 5 := ⟨RX6, TX6, 10, rfl, by decide, in_X6, Or.inl (TG_tab 201 (by decide +kernel) rfl)⟩
theorem fl_X6_45 : FL RX6 45 6 8 := ⟨RX6, TX6, 10, rfl, by decide, in_X6, Or.inl (TG_tab 204 (by decide +kernel) rfl)⟩
theorem fl_X6_48 : FL RX6 48 6 9 := ⟨RX6, TX6, 10, rfl, by decide, in_X6, Or.inl (TG_tab 206 (by decide +kernel) rfl)⟩
theorem lk_X6_64 : LkV RX6 64 yX6_makeNextChild cX6_makeNextChild 4 (some .boolean) 0 := LkV.of (TG_tab 584 (by decide +kernel) rfl) (TG_tab 586 (by decide +kernel) rfl) (TG_sel (q := (yX6_makeNextChild, 10)) 16 (by decide +kernel)) (TG_tab 8 (by decide +kernel) rfl) kc_X6_makeNextChild kd_X6_makeNextChild
theorem fl_X6_29 : FL RX6 29 6 3 := ⟨RX6, TX6, 10, rfl, by decide, in_X6, Or.inl (TG_tab 199 (by decide +kernel) rfl)⟩
theorem lk_X6_68 : LkV RX6 68 yX1_linesThrough cX1_linesThrough 2 (some .int) 1 := LkV.of (TG_tab 589 (by decide +kernel) rfl) (TG_tab 528 (by decide +kernel) rfl) (TG_tab 529 (by decide +kernel) rfl) (TG_tab 2 (by decide +kernel) rfl) kc_X1_linesThrough kd_X1_linesThrough
theorem lk_X6_72 : LkV RX6 72 yX1_decidedColor cX1_decidedColor 2 (some .int) 1 := LkV.of (TG_tab 598 (by decide +kernel) rfl) (TG_tab 363 (by decide +kernel) rfl) (TG_tab 364 (by decide +kernel) rfl) (TG_tab 2 (by decide +kernel) rfl) kc_X1_decidedColor kd_X1_decidedColor
theorem fl_X6_25 : FL RX6 25 6 2 := ⟨RX6, TX6, 10, rfl, by decide, in_X6, Or.inl (TG_tab 198 (by decide +kernel) rfl)⟩
theorem fl_X6_75 : FL RX6 75 1 4 := ⟨RX1, TX1, 5, rfl, by decide, in_X1, Or.inr ⟨"NonogramSolver", List.mem_of_getElem? (i := 60) (by decide +kernel)⟩⟩
theorem lc_X6_78 : LC RX6 78 := ⟨(TG_tab 564 (by decide +kernel) rfl), (TG_tab 394 (by decide +kernel) rfl), (TG_tab 393 (by decide +kernel) rfl), (TG_tab 14 (by decide +kernel) rfl)⟩
theorem fl_X6_32 : FL RX6 32 6 4 := ⟨RX6, TX6, 10, rfl, by decide, in_X6, Or.inl (TG_tab 200 (by decide +kernel) rfl)⟩
theorem fl_X6_84 : FL RX6 84 1 2 := ⟨RX1, TX1, 5, rfl, by decide, in_X1, Or.inr ⟨"NonogramSolver", List.mem_of_getElem? (i := 53) (by decide +kernel)⟩⟩
theorem lk_X6_87 : LkV RX6 87 yX1_hasCandidate cX1_hasCandidate 3 (some .boolean) 2 := LkV.of (TG_tab 588 (by decide +kernel) rfl) (TG_tab 376 (by decide +kernel) rfl) (TG_tab 377 (by decide +kernel) rfl) (TG_tab 2 (by decide +kernel) rfl) kc_X1_hasCandidate kd_X1_hasCandidate
theorem fl_X6_42 : FL RX6 42 6 7 := ⟨RX6, TX6, 10, rfl, by decide, in_X6, Or.inl (TG_tab 203 (by decide +kernel) rfl)⟩
theorem fl_X6_21 : FL RX6 21 6 1 := ⟨RX6, TX6, 10, rfl, by decide, in_X6, Or.inl (TG_tab 197 (by decide +kernel) rfl)⟩
theorem lk_X6_91 : LkV RX6 91 yX5_settle cX5_settle 7 (some .boolean) 2 := LkV.of (TG_tab 553 (by decide +kernel) rfl) (TG_tab 413 (by decide +kernel) rfl) (TG_tab 414 (by decide +kernel) rfl) (TG_tab 6 (by decide +kernel) rfl) kc_X5_settle kd_X5_settle
theorem lk_X6_95 : LkV RX6 95 yX1_isAllDecided cX1_isAllDecided 1 (some .boolean) 0 := LkV.of (TG_tab 554 (by decide +kernel) rfl) (TG_tab 555 (by decide +kernel) rfl) (TG_tab 556 (by decide +kernel) rfl) (TG_tab 2 (by decide +kernel) rfl) kc_X1_isAllDecided kd_X1_isAllDecided
theorem lk_X6_98 : LkV RX6 98 yX6_selectCell cX6_selectCell 4 (some .int) 0 := LkV.of (TG_tab 565 (by decide +kernel) rfl) (TG_tab 567 (by decide +kernel) rfl) (TG_sel (q := (yX6_selectCell, 10)) 14 (by decide +kernel)) (TG_tab 8 (by decide +kernel) rfl) kc_X6_selectCell kd_X6_selectCell
theorem lk_X6_101 : LkV RX6 101 yX1_cellTotal cX1_cellTotal 1 (some .int) 0 := LkV.of (TG_tab 569 (by decide +kernel) rfl) (TG_tab 517 (by decide +kernel) rfl) (TG_tab 518 (by decide +kernel) rfl) (TG_tab 2 (by decide +kernel) rfl) kc_X1_cellTotal kd_X1_cellTotal
theorem lk_X6_104 : LkV RX6 104 yX1_isDecided cX1_isDecided 2 (some .boolean) 1 := LkV.of (TG_tab 570 (by decide +kernel) rfl) (TG_tab 353 (by decide +kernel) rfl) (TG_tab 354 (by decide +kernel) rfl) (TG_tab 2 (by decide +kernel) rfl) kc_X1_isDecided kd_X1_isDecided
theorem lk_X6_108 : LkV RX6 108 yX6_score cX6_score 2 (some .int) 1 := LkV.of (TG_tab 571 (by decide +kernel) rfl) (TG_tab 573 (by decide +kernel) rfl) (TG_sel (q := (yX6_score, 10)) 15 (by decide +kernel)) (TG_tab 8 (by decide +kernel) rfl) kc_X6_score kd_X6_score
theorem fl_X6_39 : FL RX6 39 6 6 := ⟨RX6, TX6, 10, rfl, by decide, in_X6, Or.inl (TG_tab 202 (by decide +kernel) rfl)⟩
theorem lk_X6_111 : LkS RX6 111 yJ6_bitCount_0f7a4 cJ6_bitCount_0f7a4 1 (some .int) 1 := LkS.of (TG_tab 575 (by decide +kernel) rfl) (TG_tab 357 (by decide +kernel) rfl) (TG_tab 13 (by decide +kernel) rfl) kc_J6_bitCount_0f7a4 kd_J6_bitCount_0f7a4
theorem lk_X6_116 : LkV RX6 116 yX1_rowLine cX1_rowLine 2 (some .int) 1 := LkV.of (TG_tab 576 (by decide +kernel) rfl) (TG_tab 532 (by decide +kernel) rfl) (TG_tab 533 (by decide +kernel) rfl) (TG_tab 2 (by decide +kernel) rfl) kc_X1_rowLine kd_X1_rowLine
theorem lk_X6_119 : LkV RX6 119 yX1_decidedInLine cX1_decidedInLine 4 (some .int) 1 := LkV.of (TG_tab 577 (by decide +kernel) rfl) (TG_tab 578 (by decide +kernel) rfl) (TG_tab 579 (by decide +kernel) rfl) (TG_tab 2 (by decide +kernel) rfl) kc_X1_decidedInLine kd_X1_decidedInLine
theorem lk_X6_122 : LkV RX6 122 yX1_columnLine cX1_columnLine 2 (some .int) 1 := LkV.of (TG_tab 583 (by decide +kernel) rfl) (TG_tab 536 (by decide +kernel) rfl) (TG_tab 537 (by decide +kernel) rfl) (TG_tab 2 (by decide +kernel) rfl) kc_X1_columnLine kd_X1_columnLine
theorem fp_X7_15 : FP RX7 15 7 1 .int := ⟨RX7, TX7, 3, tyX7, rfl, by decide, in_X7, Or.inl (TG_tab 255 (by decide +kernel) rfl), tyX7_ok, nmX7, rfl, by decide +kernel⟩
theorem fp_X7_19 : FP RX7 19 7 2 .int := ⟨RX7, TX7, 3, tyX7, rfl, by decide, in_X7, Or.inl (TG_tab 256 (by decide +kernel) rfl), tyX7_ok, nmX7, rfl, by decide +kernel⟩
theorem fp_X8_7 : FP RX8 7 8 1 .int := ⟨RX8, TX8, 2, tyX8, rfl, by decide, in_X8, Or.inl (TG_tab 239 (by decide +kernel) rfl), tyX8_ok, nmX8, rfl, by decide +kernel⟩
theorem lk_X8_13 : LkS RX8 13 yJ9_max_7cf53 cJ9_max_7cf53 2 (some .int) 2 := LkS.of (TG_tab 235 (by decide +kernel) rfl) (TG_tab 236 (by decide +kernel) rfl) (TG_tab 10 (by decide +kernel) rfl) kc_J9_max_7cf53 kd_J9_max_7cf53
theorem lk_X9_11 : LkI RX9 11 yX1_init cX1_init 1 0 := LkI.of (Or.inr ⟨"NonogramSolver", List.mem_of_getElem? (i := 25) (by decide +kernel)⟩) (TG_tab 26 (by decide +kernel) rfl) (TG_tab 2 (by decide +kernel) rfl) kc_X1_init rfl kd_X1_init
theorem fp_X9_22 : FP RX9 22 9 3 .boolean := ⟨RX9, TX9, 16, tyX9, rfl, by decide, in_X9, Or.inl (TG_tab 283 (by decide +kernel) rfl), tyX9_ok, nmX9, rfl, by decide +kernel⟩
theorem lk_X9_28 : LkI RX9 28 yX2_init cX2_init 2 0 := LkI.of (Or.inl (TG_tab 75 (by decide +kernel) rfl)) (TG_tab 76 (by decide +kernel) rfl) (TG_tab 4 (by decide +kernel) rfl) kc_X2_init rfl kd_X2_init
theorem lk_X9_35 : LkI RX9 35 yX3_init cX3_init 1 0 := LkI.of (Or.inr ⟨"NonogramSolver", List.mem_of_getElem? (i := 94) (by decide +kernel)⟩) (TG_tab 95 (by decide +kernel) rfl) (TG_tab 5 (by decide +kernel) rfl) kc_X3_init rfl kd_X3_init
theorem lk_X9_42 : LkI RX9 42 yX5_init cX5_init 1 0 := LkI.of (Or.inr ⟨"NonogramSolver", List.mem_of_getElem? (i := 139) (by decide +kernel)⟩) (TG_tab 140 (by decide +kernel) rfl) (TG_tab 6 (by decide +kernel) rfl) kc_X5_init rfl kd_X5_init
theorem lk_X9_49 : LkI RX9 49 yX4_init cX4_init 1 0 := LkI.of (Or.inr ⟨"NonogramSolver", List.mem_of_getElem? (i := 163) (by decide +kernel)⟩) (TG_tab 164 (by decide +kernel) rfl) (TG_tab 7 (by decide +kernel) rfl) kc_X4_init rfl kd_X4_init
theorem lk_X9_56 : LkI RX9 56 yX6_init cX6_init 1 0 := LkI.of (Or.inr ⟨"NonogramSolver", List.mem_of_getElem? (i := 188) (by decide +kernel)⟩) (TG_tab 189 (by decide +kernel) rfl) (TG_tab 8 (by decide +kernel) rfl) kc_X6_init rfl kd_X6_init
theorem fp_X9_61 : FP RX9 61 9 9 .int := ⟨RX9, TX9, 16, tyX9, rfl, by decide, in_X9, Or.inl (TG_tab 289 (by decide +kernel) rfl), tyX9_ok, nmX9, rfl, by decide +kernel⟩
theorem fp_X9_65 : FP RX9 65 9 10 .int := ⟨RX9, TX9, 16, tyX9, rfl, by decide, in_X9, Or.inl (TG_tab 290 (by decide +kernel) rfl), tyX9_ok, nmX9, rfl, by decide +kernel⟩
theorem fp_X9_68 : FP RX9 68 9 11 .int := ⟨RX9, TX9, 16, tyX9, rfl, by decide, in_X9, Or.inl (TG_tab 291 (by decide +kernel) rfl), tyX9_ok, nmX9, rfl, by decide +kernel⟩
theorem lk_X9_73 : LkI RX9 73 yX8_init cX8_init 2 1 := LkI.of (Or.inl (TG_tab 231 (by decide +kernel) rfl)) (TG_tab 232 (by decide +kernel) rfl) (TG_tab 9 (by decide +kernel) rfl) kc_X8_init rfl kd_X8_init
theorem lk_X9_85 : LkI RX9 85 yX0_init cX0_init 1 0 := LkI.of (Or.inr ⟨"NonogramSolver", List.mem_of_getElem? (i := 246) (by decide +kernel)⟩) (TG_tab 32 (by decide +kernel) rfl) (TG_tab 3 (by decide +kernel) rfl) kc_X0_init rfl kd_X0_init
theorem lk_X9_92 : LkI RX9 92 yX7_init cX7_init 1 0 := LkI.of (Or.inr ⟨"NonogramSolver", List.mem_of_getElem? (i := 250) (by decide +kernel)⟩) (TG_tab 251 (by decide +kernel) rfl) (TG_tab 11 (by decide +kernel) rfl) kc_X7_init rfl kd_X7_init
theorem fl_X9_12 : FL RX9 12 9 0 := ⟨RX9, TX9, 16, rfl, by decide, in_X9, Or.inl (TG_tab 280 (by decide +kernel) rfl)⟩
theorem lk_X9_97 : LkV RX9 97 yX1_start cX1_start 4 none 3 := LkV.of (TG_tab 264 (by decide +kernel) rfl) (TG_tab 265 (by decide +kernel) rfl) (TG_tab 266 (by decide +kernel) rfl) (TG_tab 2 (by decide +kernel) rfl) kc_X1_start kd_X1_start
theorem lk_X9_101 : LkS RX9 101 yX9_isWithin cX9_isWithin 3 (some .boolean) 3 := LkS.of (TG_tab 374 (by decide +kernel) rfl) (TG_tab 346 (by decide +kernel) rfl) (TG_tab 1 (by decide +kernel) rfl) kc_X9_isWithin kd_X9_isWithin
theorem fl_X9_29 : FL RX9 29 9 4 := ⟨RX9, TX9, 16, rfl, by decide, in_X9, Or.inl (TG_tab 284 (by decide +kernel) rfl)⟩
theorem lk_X9_105 : LkV RX9 105 yX2_forget cX2_forget 1 none 0 := LkV.of (TG_tab 617 (by decide +kernel) rfl) (TG_tab 618 (by decide +kernel) rfl) (TG_tab 619 (by decide +kernel) rfl) (TG_tab 4 (by decide +kernel) rfl) kc_X2_forget kd_X2_forget
theorem lk_X9_108 : LkV RX9 108 yX9_forgetContradiction cX9_forgetContradiction 1 none 0 := LkV.of (TG_tab 641 (by decide +kernel) rfl) (TG_tab 643 (by decide +kernel) rfl) (TG_sel (q := (yX9_forgetContradiction, 16)) 17 (by decide +kernel)) (TG_tab 1 (by decide +kernel) rfl) kc_X9_forgetContradiction kd_X9_forgetContradiction
theorem lk_X9_111 : LkV RX9 111 yX1_lineTotal cX1_lineTotal 1 (some .int) 0 := LkV.of (TG_tab 608 (by decide +kernel) rfl) (TG_tab 409 (by decide +kernel) rfl) (TG_tab 410 (by decide +kernel) rfl) (TG_tab 2 (by decide +kernel) rfl) kc_X1_lineTotal kd_X1_lineTotal
theorem fl_X9_115 : FL RX9 115 1 0 := ⟨RX1, TX1, 5, rfl, by decide, in_X1, Or.inr ⟨"NonogramSolver", List.mem_of_getElem? (i := 47) (by decide +kernel)⟩⟩
theorem fl_X9_118 : FL RX9 118 1 1 := ⟨RX1, TX1, 5, rfl, by decide, in_X1, Or.inr ⟨"NonogramSolver", List.mem_of_getElem? (i := 50) (by decide +kernel)⟩⟩
theorem lk_X9_162 : LkV RX9 162 yX1_hasCell cX1_hasCell 3 (some .boolean) 2 := LkV.of (TG_tab 341 (by decide +kernel) rfl) (TG_tab 342 (by decide +kernel) rfl) (TG_tab 343 (by decide +kernel) rfl) (TG_tab 2 (by decide +kernel) rfl) kc_X1_hasCell kd_X1_hasCell
theorem fl_X9_165 : FL RX9 165 1 4 := ⟨RX1, TX1, 5, rfl, by decide, in_X1, Or.inr ⟨"NonogramSolver", List.mem_of_getElem? (i := 61) (by decide +kernel)⟩⟩
theorem lk_X9_169 : LkV RX9 169 yX1_cellAt cX1_cellAt 3 (some .int) 2 := LkV.of (TG_tab 348 (by decide +kernel) rfl) (TG_tab 349 (by decide +kernel) rfl) (TG_tab 350 (by decide +kernel) rfl) (TG_tab 2 (by decide +kernel) rfl) kc_X1_cellAt kd_X1_cellAt
theorem lk_X9_172 : LkV RX9 172 yX1_isDecided cX1_isDecided 2 (some .boolean) 1 := LkV.of (TG_tab 352 (by decide +kernel) rfl) (TG_tab 353 (by decide +kernel) rfl) (TG_tab 354 (by decide +kernel) rfl) (TG_tab 2 (by decide +kernel) rfl) kc_X1_isDecided kd_X1_isDecided
theorem lk_X9_175 : LkV RX9 175 yX1_decidedColor cX1_decidedColor 2 (some .int) 1 := LkV.of (TG_tab 362 (by decide +kernel) rfl) (TG_tab 363 (by decide +kernel) rfl) (TG_tab 364 (by decide +kernel) rfl) (TG_tab 2 (by decide +kernel) rfl) kc_X1_decidedColor kd_X1_decidedColor
theorem lk_X9_178 : LkV RX9 178 yX9_candidateError cX9_candidateError 4 (some .int) 3 := LkV.of (TG_tab 370 (by decide +kernel) rfl) (TG_tab 372 (by decide +kernel) rfl) (TG_sel (q := (yX9_candidateError, 16)) 0 (by decide +kernel)) (TG_tab 1 (by decide +kernel) rfl) kc_X9_candidateError kd_X9_candidateError
theorem lk_X9_182 : LkS RX9 182 yJ6_bitCount_0f7a4 cJ6_bitCount_0f7a4 1 (some .int) 1 := LkS.of (TG_tab 379 (by decide +kernel) rfl) (TG_tab 357 (by decide +kernel) rfl) (TG_tab 13 (by decide +kernel) rfl) kc_J6_bitCount_0f7a4 kd_J6_bitCount_0f7a4
theorem lk_X9_134 : LkV RX9 134 yX2_push cX2_push 2 none 1 := LkV.of (TG_tab 380 (by decide +kernel) rfl) (TG_tab 381 (by decide +kernel) rfl) (TG_tab 382 (by decide +kernel) rfl) (TG_tab 4 (by decide +kernel) rfl) kc_X2_push kd_X2_push
theorem fl_X9_16 : FL RX9 16 9 1 := ⟨RX9, TX9, 16, rfl, by decide, in_X9, Or.inl (TG_tab 281 (by decide +kernel) rfl)⟩
theorem lk_X9_209 : LkV RX9 209 yX1_copyFrom cX1_copyFrom 2 none 1 := LkV.of (TG_tab 403 (by decide +kernel) rfl) (TG_tab 385 (by decide +kernel) rfl) (TG_tab 386 (by decide +kernel) rfl) (TG_tab 2 (by decide +kernel) rfl) kc_X1_copyFrom kd_X1_copyFrom
theorem fl_X9_43 : FL RX9 43 9 6 := ⟨RX9, TX9, 16, rfl, by decide, in_X9, Or.inl (TG_tab 286 (by decide +kernel) rfl)⟩
theorem lk_X9_225 : LkV RX9 225 yX1_allLines cX1_allLines 1 (some .int) 0 := LkV.of (TG_tab 404 (by decide +kernel) rfl) (TG_tab 405 (by decide +kernel) rfl) (TG_tab 406 (by decide +kernel) rfl) (TG_tab 2 (by decide +kernel) rfl) kc_X1_allLines kd_X1_allLines
theorem lk_X9_228 : LkV RX9 228 yX5_settle cX5_settle 7 (some .boolean) 2 := LkV.of (TG_tab 412 (by decide +kernel) rfl) (TG_tab 413 (by decide +kernel) rfl) (TG_tab 414 (by decide +kernel) rfl) (TG_tab 6 (by decide +kernel) rfl) kc_X5_settle kd_X5_settle
theorem fl_X9_231 : FL RX9 231 5 3 := ⟨RX5, TX5, 4, rfl, by decide, in_X5, Or.inr ⟨"NonogramSolver", List.mem_of_getElem? (i := 151) (by decide +kernel)⟩⟩
theorem lk_X9_216 : LkV RX9 216 yX9_remember cX9_remember 3 (some .int) 2 := LkV.of (TG_tab 490 (by decide +kernel) rfl) (TG_tab 492 (by decide +kernel) rfl) (TG_sel (q := (yX9_remember, 16)) 9 (by decide +kernel)) (TG_tab 1 (by decide +kernel) rfl) kc_X9_remember kd_X9_remember
theorem lk_X9_219 : LkV RX9 219 yX9_commitWork cX9_commitWork 1 none 0 := LkV.of (TG_tab 494 (by decide +kernel) rfl) (TG_tab 496 (by decide +kernel) rfl) (TG_sel (q := (yX9_commitWork, 16)) 10 (by decide +kernel)) (TG_tab 1 (by decide +kernel) rfl) kc_X9_commitWork kd_X9_commitWork
theorem fl_X9_234 : FL RX9 234 5 2 := ⟨RX5, TX5, 4, rfl, by decide, in_X5, Or.inr ⟨"NonogramSolver", List.mem_of_getElem? (i := 148) (by decide +kernel)⟩⟩
theorem fl_X9_50 : FL RX9 50 9 7 := ⟨RX9, TX9, 16, rfl, by decide, in_X9, Or.inl (TG_tab 287 (by decide +kernel) rfl)⟩
theorem lk_X9_238 : LkV RX9 238 yX4_begin cX4_begin 2 (some .boolean) 1 := LkV.of (TG_tab 502 (by decide +kernel) rfl) (TG_tab 503 (by decide +kernel) rfl) (TG_tab 504 (by decide +kernel) rfl) (TG_tab 7 (by decide +kernel) rfl) kc_X4_begin kd_X4_begin
theorem fl_X9_242 : FL RX9 242 4 2 := ⟨RX4, TX4, 4, rfl, by decide, in_X4, Or.inr ⟨"NonogramSolver", List.mem_of_getElem? (i := 174) (by decide +kernel)⟩⟩
theorem lk_X9_245 : LkV RX9 245 yX4_probeRound cX4_probeRound 5 (some .boolean) 1 := LkV.of (TG_tab 512 (by decide +kernel) rfl) (TG_tab 513 (by decide +kernel) rfl) (TG_tab 514 (by decide +kernel) rfl) (TG_tab 7 (by decide +kernel) rfl) kc_X4_probeRound kd_X4_probeRound
theorem fl_X9_248 : FL RX9 248 4 3 := ⟨RX4, TX4, 4, rfl, by decide, in_X4, Or.inr ⟨"NonogramSolver", List.mem_of_getElem? (i := 176) (by decide +kernel)⟩⟩
theorem fl_X9_57 : FL RX9 57 9 8 := ⟨RX9, TX9, 16, rfl, by decide, in_X9, Or.inl (TG_tab 288 (by decide +kernel) rfl)⟩
theorem fl_X9_61 : FL RX9 61 9 9 := ⟨RX9, TX9, 16, rfl, by decide, in_X9, Or.inl (TG_tab 289 (by decide +kernel) rfl)⟩
theorem lk_X9_249 : LkV RX9 249 yX6_find cX6_find 5 none 3 := LkV.of (TG_tab 543 (by decide +kernel) rfl) (TG_tab 544 (by decide +kernel) rfl) (TG_tab 545 (by decide +kernel) rfl) (TG_tab 8 (by decide +kernel) rfl) kc_X6_find kd_X6_find
theorem fl_X9_253 : FL RX9 253 6 9 := ⟨RX6, TX6, 10, rfl, by decide, in_X6, Or.inr ⟨"NonogramSolver", List.mem_of_getElem? (i := 207) (by decide +kernel)⟩⟩
theorem fl_X9_256 : FL RX9 256 6 8 := ⟨RX6, TX6, 10, rfl, by decide, in_X6, Or.inr ⟨"NonogramSolver", List.mem_of_getElem? (i := 205) (by decide +kernel)⟩⟩
theorem lk_X9_259 : LkV RX9 259 yX6_lastSolutionColor cX6_lastSolutionColor 2 (some .int) 1 := LkV.of (TG_tab 594 (by decide +kernel) rfl) (TG_tab 595 (by decide +kernel) rfl) (TG_tab 596 (by decide +kernel) rfl) (TG_tab 8 (by decide +kernel) rfl) kc_X6_lastSolutionColor kd_X6_lastSolutionColor
theorem lk_X9_265 : LkV RX9 265 yX1_isAllDecided cX1_isAllDecided 1 (some .boolean) 0 := LkV.of (TG_tab 607 (by decide +kernel) rfl) (TG_tab 555 (by decide +kernel) rfl) (TG_tab 556 (by decide +kernel) rfl) (TG_tab 2 (by decide +kernel) rfl) kc_X1_isAllDecided kd_X1_isAllDecided
theorem fl_X9_36 : FL RX9 36 9 5 := ⟨RX9, TX9, 16, rfl, by decide, in_X9, Or.inl (TG_tab 285 (by decide +kernel) rfl)⟩
theorem lk_X9_199 : LkV RX9 199 yX3_load cX3_load 3 none 2 := LkV.of (TG_tab 609 (by decide +kernel) rfl) (TG_tab 422 (by decide +kernel) rfl) (TG_tab 423 (by decide +kernel) rfl) (TG_tab 5 (by decide +kernel) rfl) kc_X3_load kd_X3_load
theorem lk_X9_203 : LkV RX9 203 yX3_total cX3_total 1 (some .int) 0 := LkV.of (TG_tab 610 (by decide +kernel) rfl) (TG_tab 474 (by decide +kernel) rfl) (TG_tab 475 (by decide +kernel) rfl) (TG_tab 5 (by decide +kernel) rfl) kc_X3_total kd_X3_total
theorem fl_X9_121 : FL RX9 121 1 2 := ⟨RX1, TX1, 5, rfl, by decide, in_X1, Or.inr ⟨"NonogramSolver", List.mem_of_getElem? (i := 54) (by decide +kernel)⟩⟩
theorem lk_X9_275 : LkV RX9 275 yX1_cellTotal cX1_cellTotal 1 (some .int) 0 := LkV.of (TG_tab 649 (by decide +kernel) rfl) (TG_tab 517 (by decide +kernel) rfl) (TG_tab 518 (by decide +kernel) rfl) (TG_tab 2 (by decide +kernel) rfl) kc_X1_cellTotal kd_X1_cellTotal
theorem ko_X9_278 : Cond.constant RX9 278 (1103515245) ∈ TG := (TG_tab 650 (by decide +kernel) rfl)
theorem lk_X9_269 : LkV RX9 269 yX1_describePicture cX1_describePicture 2 none 0 := LkV.of (TG_tab 651 (by decide +kernel) rfl) (TG_tab 652 (by decide +kernel) rfl) (TG_tab 653 (by decide +kernel) rfl) (TG_tab 2 (by decide +kernel) rfl) kc_X1_describePicture kd_X1_describePicture
theorem lk_X9_190 : LkV RX9 190 yX1_decidedTotal cX1_decidedTotal 3 (some .int) 0 := LkV.of (TG_tab 615 (by decide +kernel) rfl) (TG_tab 559 (by decide +kernel) rfl) (TG_tab 560 (by decide +kernel) rfl) (TG_tab 2 (by decide +kernel) rfl) kc_X1_decidedTotal kd_X1_decidedTotal
theorem lk_X9_279 : LkV RX9 279 yX1_fillCandidates cX1_fillCandidates 1 none 0 := LkV.of (TG_tab 616 (by decide +kernel) rfl) (TG_tab 276 (by decide +kernel) rfl) (TG_tab 277 (by decide +kernel) rfl) (TG_tab 2 (by decide +kernel) rfl) kc_X1_fillCandidates kd_X1_fillCandidates
theorem lk_X9_332 : LkV RX9 332 yX1_hasCandidate cX1_hasCandidate 3 (some .boolean) 2 := LkV.of (TG_tab 375 (by decide +kernel) rfl) (TG_tab 376 (by decide +kernel) rfl) (TG_tab 377 (by decide +kernel) rfl) (TG_tab 2 (by decide +kernel) rfl) kc_X1_hasCandidate kd_X1_hasCandidate
theorem ko_J6_265 : Cond.constant RJ6 265 (1431655765) ∈ TG := (TG_tab 359 (by decide +kernel) rfl)
theorem ko_J6_266 : Cond.constant RJ6 266 (858993459) ∈ TG := (TG_tab 360 (by decide +kernel) rfl)
theorem ko_J6_267 : Cond.constant RJ6 267 (252645135) ∈ TG := (TG_tab 361 (by decide +kernel) rfl)
theorem ko_L_7 : Cond.constant RL 7 (16777619) ∈ TG := (TG_tab 630 (by decide +kernel) rfl)
theorem lk_L_8 : LkS RL 8 yL_stirred cL_stirred 6 (some .int) 1 := LkS.of (TG_tab 627 (by decide +kernel) rfl) (TG_tab 628 (by decide +kernel) rfl) (TG_tab 0 (by decide +kernel) rfl) kc_L_stirred kd_L_stirred
theorem ko_L_14 : Cond.constant RL 14 (40503) ∈ TG := (TG_tab 631 (by decide +kernel) rfl)
theorem ko_L_15 : Cond.constant RL 15 (739982445) ∈ TG := (TG_tab 632 (by decide +kernel) rfl)
theorem ko_L_16 : Cond.constant RL 16 (695872825) ∈ TG := (TG_tab 633 (by decide +kernel) rfl)
theorem lk_L_17 : LkS RL 17 yL_cell cL_cell 3 (some .int) 2 := LkS.of (TG_tab 624 (by decide +kernel) rfl) (TG_tab 625 (by decide +kernel) rfl) (TG_tab 0 (by decide +kernel) rfl) kc_L_cell kd_L_cell
theorem lk_L_21 : LkS RL 21 yL_some cL_some 3 (some .int) 3 := LkS.of (TG_tab 621 (by decide +kernel) rfl) (TG_tab 622 (by decide +kernel) rfl) (TG_tab 0 (by decide +kernel) rfl) kc_L_some kd_L_some
theorem lk_L_25 : LkV RL 25 yX9_reset cX9_reset 4 (some .int) 3 := LkV.of (TG_tab 637 (by decide +kernel) rfl) (TG_tab 638 (by decide +kernel) rfl) (TG_tab 639 (by decide +kernel) rfl) (TG_tab 1 (by decide +kernel) rfl) kc_X9_reset kd_X9_reset
theorem lk_L_31 : LkV RL 31 yX9_drawPicture cX9_drawPicture 7 (some .int) 1 := LkV.of (TG_tab 645 (by decide +kernel) rfl) (TG_tab 646 (by decide +kernel) rfl) (TG_tab 647 (by decide +kernel) rfl) (TG_tab 1 (by decide +kernel) rfl) kc_X9_drawPicture kd_X9_drawPicture
theorem lk_L_35 : LkI RL 35 yX9_init cX9_init 1 0 := LkI.of (Or.inl (TG_tab 17 (by decide +kernel) rfl)) (TG_tab 18 (by decide +kernel) rfl) (TG_tab 1 (by decide +kernel) rfl) kc_X9_init rfl kd_X9_init
theorem lk_L_36 : LkS RL 36 yL_draws cL_draws 5 (some .boolean) 3 := LkS.of (TG_tab 634 (by decide +kernel) rfl) (TG_tab 635 (by decide +kernel) rfl) (TG_tab 0 (by decide +kernel) rfl) kc_L_draws kd_L_draws
theorem lk_L_40 : LkV RL 40 yX9_rowCount cX9_rowCount 1 (some .int) 0 := LkV.of (TG_tab 329 (by decide +kernel) rfl) (TG_tab 330 (by decide +kernel) rfl) (TG_tab 331 (by decide +kernel) rfl) (TG_tab 1 (by decide +kernel) rfl) kc_X9_rowCount kd_X9_rowCount
theorem lk_L_44 : LkV RL 44 yX9_columnCount cX9_columnCount 1 (some .int) 0 := LkV.of (TG_tab 333 (by decide +kernel) rfl) (TG_tab 334 (by decide +kernel) rfl) (TG_tab 335 (by decide +kernel) rfl) (TG_tab 1 (by decide +kernel) rfl) kc_X9_columnCount kd_X9_columnCount
theorem lk_L_47 : LkV RL 47 yX9_color cX9_color 4 (some .int) 2 := LkV.of (TG_tab 337 (by decide +kernel) rfl) (TG_tab 338 (by decide +kernel) rfl) (TG_tab 339 (by decide +kernel) rfl) (TG_tab 1 (by decide +kernel) rfl) kc_X9_color kd_X9_color
theorem lk_L_51 : LkV RL 51 yX9_firstMismatch cX9_firstMismatch 2 (some .int) 0 := LkV.of (TG_tab 603 (by decide +kernel) rfl) (TG_tab 604 (by decide +kernel) rfl) (TG_tab 605 (by decide +kernel) rfl) (TG_tab 1 (by decide +kernel) rfl) kc_X9_firstMismatch kd_X9_firstMismatch
theorem lk_L_54 : LkV RL 54 yX9_isUnique cX9_isUnique 1 (some .int) 0 := LkV.of (TG_tab 599 (by decide +kernel) rfl) (TG_tab 600 (by decide +kernel) rfl) (TG_tab 601 (by decide +kernel) rfl) (TG_tab 1 (by decide +kernel) rfl) kc_X9_isUnique kd_X9_isUnique
theorem lk_L_57 : LkV RL 57 yX9_clearCells cX9_clearCells 2 (some .int) 0 := LkV.of (TG_tab 611 (by decide +kernel) rfl) (TG_tab 612 (by decide +kernel) rfl) (TG_tab 613 (by decide +kernel) rfl) (TG_tab 1 (by decide +kernel) rfl) kc_X9_clearCells kd_X9_clearCells
theorem lk_L_60 : LkV RL 60 yX9_keepOnly cX9_keepOnly 7 (some .int) 3 := LkV.of (TG_tab 366 (by decide +kernel) rfl) (TG_tab 367 (by decide +kernel) rfl) (TG_tab 368 (by decide +kernel) rfl) (TG_tab 1 (by decide +kernel) rfl) kc_X9_keepOnly kd_X9_keepOnly
theorem lk_L_63 : LkV RL 63 yX9_propagate cX9_propagate 1 (some .int) 0 := LkV.of (TG_tab 399 (by decide +kernel) rfl) (TG_tab 400 (by decide +kernel) rfl) (TG_tab 401 (by decide +kernel) rfl) (TG_tab 1 (by decide +kernel) rfl) kc_X9_propagate kd_X9_propagate
theorem lk_L_66 : LkS RL 66 yL_isThere cL_isThere 3 (some .boolean) 2 := LkS.of (TG_tab 672 (by decide +kernel) rfl) (TG_tab 673 (by decide +kernel) rfl) (TG_tab 0 (by decide +kernel) rfl) kc_L_isThere kd_L_isThere
theorem lk_L_70 : LkV RL 70 yX9_probeAll cX9_probeAll 5 (some .int) 0 := LkV.of (TG_tab 498 (by decide +kernel) rfl) (TG_tab 499 (by decide +kernel) rfl) (TG_tab 500 (by decide +kernel) rfl) (TG_tab 1 (by decide +kernel) rfl) kc_X9_probeAll kd_X9_probeAll
theorem lk_L_73 : LkV RL 73 yX9_countSolutions cX9_countSolutions 2 (some .int) 1 := LkV.of (TG_tab 539 (by decide +kernel) rfl) (TG_tab 540 (by decide +kernel) rfl) (TG_tab 541 (by decide +kernel) rfl) (TG_tab 1 (by decide +kernel) rfl) kc_X9_countSolutions kd_X9_countSolutions
theorem lk_L_76 : LkV RL 76 yX9_solutionColor cX9_solutionColor 4 (some .int) 3 := LkV.of (TG_tab 590 (by decide +kernel) rfl) (TG_tab 591 (by decide +kernel) rfl) (TG_tab 592 (by decide +kernel) rfl) (TG_tab 1 (by decide +kernel) rfl) kc_X9_solutionColor kd_X9_solutionColor
theorem lk_L_79 : LkV RL 79 yX9_candidates cX9_candidates 3 (some .int) 2 := LkV.of (TG_tab 675 (by decide +kernel) rfl) (TG_tab 676 (by decide +kernel) rfl) (TG_tab 677 (by decide +kernel) rfl) (TG_tab 1 (by decide +kernel) rfl) kc_X9_candidates kd_X9_candidates
