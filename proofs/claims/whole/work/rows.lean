section
-- ===== PART A: goes FIRST, ahead of the names: the tables' words, and 'selects' of the private methods out of them =====
/-- a private method of a class that the tables say can be made, by its rows of tables_1 -/
def lw_okq (q : MethodName × Nat) : Prop := (q.1.cls ≠ "java/lang/invoke/MethodHandle" ∧ q.1.cls ≠ "java/lang/invoke/VarHandle") ∧ Cond.instantiable q.1.cls q.2 ∈ tables_1 ∧ Cond.privateMethod q.1 ∈ tables_1 ∧ Cond.instanceMethod q.1 ∈ tables_1
theorem lw_p0 : lw_okq (⟨"NonogramSolver", "forgetContradiction", "()V"⟩, 16) := ⟨⟨by decide +kernel, by decide +kernel⟩, List.mem_of_getElem? (i := 17) (by decide +kernel), List.mem_of_getElem? (i := 352) (by decide +kernel), List.mem_of_getElem? (i := 353) (by decide +kernel)⟩
theorem lw_p1 : lw_okq (⟨"NonogramSolver", "hasRun", "(II)Z"⟩, 16) := ⟨⟨by decide +kernel, by decide +kernel⟩, List.mem_of_getElem? (i := 17) (by decide +kernel), List.mem_of_getElem? (i := 430) (by decide +kernel), List.mem_of_getElem? (i := 431) (by decide +kernel)⟩
theorem lw_p2 : lw_okq (⟨"NonogramSolver", "candidateError", "(III)I"⟩, 16) := ⟨⟨by decide +kernel, by decide +kernel⟩, List.mem_of_getElem? (i := 17) (by decide +kernel), List.mem_of_getElem? (i := 493) (by decide +kernel), List.mem_of_getElem? (i := 494) (by decide +kernel)⟩
theorem lw_p3 : lw_okq (⟨"NonogramSolver", "otherCandidatesError", "(III)I"⟩, 16) := ⟨⟨by decide +kernel, by decide +kernel⟩, List.mem_of_getElem? (i := 17) (by decide +kernel), List.mem_of_getElem? (i := 506) (by decide +kernel), List.mem_of_getElem? (i := 507) (by decide +kernel)⟩
theorem lw_p4 : lw_okq (⟨"NonogramSolver$LineSolver", "loadCandidates", "(LNonogramSolver$Grid;I)V"⟩, 12) := ⟨⟨by decide +kernel, by decide +kernel⟩, List.mem_of_getElem? (i := 96) (by decide +kernel), List.mem_of_getElem? (i := 545) (by decide +kernel), List.mem_of_getElem? (i := 546) (by decide +kernel)⟩
theorem lw_p5 : lw_okq (⟨"NonogramSolver$LineSolver", "loadRuns", "(LNonogramSolver$Clues;I)V"⟩, 12) := ⟨⟨by decide +kernel, by decide +kernel⟩, List.mem_of_getElem? (i := 96) (by decide +kernel), List.mem_of_getElem? (i := 551) (by decide +kernel), List.mem_of_getElem? (i := 552) (by decide +kernel)⟩
theorem lw_p6 : lw_okq (⟨"NonogramSolver$LineSolver", "countWays", "()V"⟩, 12) := ⟨⟨by decide +kernel, by decide +kernel⟩, List.mem_of_getElem? (i := 96) (by decide +kernel), List.mem_of_getElem? (i := 561) (by decide +kernel), List.mem_of_getElem? (i := 562) (by decide +kernel)⟩
theorem lw_p7 : lw_okq (⟨"NonogramSolver$LineSolver", "whiteWays", "(II)I"⟩, 12) := ⟨⟨by decide +kernel, by decide +kernel⟩, List.mem_of_getElem? (i := 96) (by decide +kernel), List.mem_of_getElem? (i := 565) (by decide +kernel), List.mem_of_getElem? (i := 566) (by decide +kernel)⟩
theorem lw_p8 : lw_okq (⟨"NonogramSolver$LineSolver", "runWays", "(II)I"⟩, 12) := ⟨⟨by decide +kernel, by decide +kernel⟩, List.mem_of_getElem? (i := 96) (by decide +kernel), List.mem_of_getElem? (i := 569) (by decide +kernel), List.mem_of_getElem? (i := 570) (by decide +kernel)⟩
theorem lw_p9 : lw_okq (⟨"NonogramSolver$LineSolver", "findSeen", "()V"⟩, 12) := ⟨⟨by decide +kernel, by decide +kernel⟩, List.mem_of_getElem? (i := 96) (by decide +kernel), List.mem_of_getElem? (i := 596) (by decide +kernel), List.mem_of_getElem? (i := 597) (by decide +kernel)⟩
theorem lw_p10 : lw_okq (⟨"NonogramSolver$LineSolver", "seeRun", "(II)V"⟩, 12) := ⟨⟨by decide +kernel, by decide +kernel⟩, List.mem_of_getElem? (i := 96) (by decide +kernel), List.mem_of_getElem? (i := 600) (by decide +kernel), List.mem_of_getElem? (i := 601) (by decide +kernel)⟩
theorem lw_p11 : lw_okq (⟨"NonogramSolver$LineSolver", "seenAt", "(I)I"⟩, 12) := ⟨⟨by decide +kernel, by decide +kernel⟩, List.mem_of_getElem? (i := 96) (by decide +kernel), List.mem_of_getElem? (i := 604) (by decide +kernel), List.mem_of_getElem? (i := 605) (by decide +kernel)⟩
theorem lw_p12 : lw_okq (⟨"NonogramSolver", "remember", "(II)I"⟩, 16) := ⟨⟨by decide +kernel, by decide +kernel⟩, List.mem_of_getElem? (i := 17) (by decide +kernel), List.mem_of_getElem? (i := 609) (by decide +kernel), List.mem_of_getElem? (i := 610) (by decide +kernel)⟩
theorem lw_p13 : lw_okq (⟨"NonogramSolver", "commitWork", "()V"⟩, 16) := ⟨⟨by decide +kernel, by decide +kernel⟩, List.mem_of_getElem? (i := 17) (by decide +kernel), List.mem_of_getElem? (i := 613) (by decide +kernel), List.mem_of_getElem? (i := 614) (by decide +kernel)⟩
theorem lw_p14 : lw_okq (⟨"NonogramSolver$Prober", "settle", "(LNonogramSolver$Grid;I)Z"⟩, 4) := ⟨⟨by decide +kernel, by decide +kernel⟩, List.mem_of_getElem? (i := 167) (by decide +kernel), List.mem_of_getElem? (i := 648) (by decide +kernel), List.mem_of_getElem? (i := 649) (by decide +kernel)⟩
theorem lw_p15 : lw_okq (⟨"NonogramSolver$Prober", "failsWith", "(LNonogramSolver$Grid;II)Z"⟩, 4) := ⟨⟨by decide +kernel, by decide +kernel⟩, List.mem_of_getElem? (i := 167) (by decide +kernel), List.mem_of_getElem? (i := 660) (by decide +kernel), List.mem_of_getElem? (i := 661) (by decide +kernel)⟩
def lw_privs_1 : List (MethodName × Nat) := [(⟨"NonogramSolver", "forgetContradiction", "()V"⟩, 16), (⟨"NonogramSolver", "hasRun", "(II)Z"⟩, 16), (⟨"NonogramSolver", "candidateError", "(III)I"⟩, 16), (⟨"NonogramSolver", "otherCandidatesError", "(III)I"⟩, 16), (⟨"NonogramSolver$LineSolver", "loadCandidates", "(LNonogramSolver$Grid;I)V"⟩, 12), (⟨"NonogramSolver$LineSolver", "loadRuns", "(LNonogramSolver$Clues;I)V"⟩, 12), (⟨"NonogramSolver$LineSolver", "countWays", "()V"⟩, 12), (⟨"NonogramSolver$LineSolver", "whiteWays", "(II)I"⟩, 12), (⟨"NonogramSolver$LineSolver", "runWays", "(II)I"⟩, 12), (⟨"NonogramSolver$LineSolver", "findSeen", "()V"⟩, 12), (⟨"NonogramSolver$LineSolver", "seeRun", "(II)V"⟩, 12), (⟨"NonogramSolver$LineSolver", "seenAt", "(I)I"⟩, 12), (⟨"NonogramSolver", "remember", "(II)I"⟩, 16), (⟨"NonogramSolver", "commitWork", "()V"⟩, 16), (⟨"NonogramSolver$Prober", "settle", "(LNonogramSolver$Grid;I)Z"⟩, 4), (⟨"NonogramSolver$Prober", "failsWith", "(LNonogramSolver$Grid;II)Z"⟩, 4)]
theorem lw_r1 : ∀ q ∈ lw_privs_1, lw_okq q := List.forall_mem_cons.mpr ⟨lw_p0, List.forall_mem_cons.mpr ⟨lw_p1, List.forall_mem_cons.mpr ⟨lw_p2, List.forall_mem_cons.mpr ⟨lw_p3, List.forall_mem_cons.mpr ⟨lw_p4, List.forall_mem_cons.mpr ⟨lw_p5, List.forall_mem_cons.mpr ⟨lw_p6, List.forall_mem_cons.mpr ⟨lw_p7, List.forall_mem_cons.mpr ⟨lw_p8, List.forall_mem_cons.mpr ⟨lw_p9, List.forall_mem_cons.mpr ⟨lw_p10, List.forall_mem_cons.mpr ⟨lw_p11, List.forall_mem_cons.mpr ⟨lw_p12, List.forall_mem_cons.mpr ⟨lw_p13, List.forall_mem_cons.mpr ⟨lw_p14, List.forall_mem_cons.mpr ⟨lw_p15, fun _ h => absurd h List.not_mem_nil⟩⟩⟩⟩⟩⟩⟩⟩⟩⟩⟩⟩⟩⟩⟩⟩
theorem lw_p16 : lw_okq (⟨"NonogramSolver$Search", "visit", "(I)V"⟩, 10) := ⟨⟨by decide +kernel, by decide +kernel⟩, List.mem_of_getElem? (i := 192) (by decide +kernel), List.mem_of_getElem? (i := 699) (by decide +kernel), List.mem_of_getElem? (i := 700) (by decide +kernel)⟩
theorem lw_p17 : lw_okq (⟨"NonogramSolver$Search", "selectCell", "()I"⟩, 10) := ⟨⟨by decide +kernel, by decide +kernel⟩, List.mem_of_getElem? (i := 192) (by decide +kernel), List.mem_of_getElem? (i := 710) (by decide +kernel), List.mem_of_getElem? (i := 711) (by decide +kernel)⟩
theorem lw_p18 : lw_okq (⟨"NonogramSolver$Search", "score", "(I)I"⟩, 10) := ⟨⟨by decide +kernel, by decide +kernel⟩, List.mem_of_getElem? (i := 192) (by decide +kernel), List.mem_of_getElem? (i := 716) (by decide +kernel), List.mem_of_getElem? (i := 717) (by decide +kernel)⟩
theorem lw_p19 : lw_okq (⟨"NonogramSolver$Search", "makeNextChild", "()Z"⟩, 10) := ⟨⟨by decide +kernel, by decide +kernel⟩, List.mem_of_getElem? (i := 192) (by decide +kernel), List.mem_of_getElem? (i := 729) (by decide +kernel), List.mem_of_getElem? (i := 730) (by decide +kernel)⟩
theorem lw_p20 : lw_okq (⟨"NonogramSolver$Grid", "describeLine", "(I)V"⟩, 5) := ⟨⟨by decide +kernel, by decide +kernel⟩, List.mem_of_getElem? (i := 25) (by decide +kernel), List.mem_of_getElem? (i := 765) (by decide +kernel), List.mem_of_getElem? (i := 766) (by decide +kernel)⟩
theorem lw_p21 : lw_okq (⟨"NonogramSolver", "parseText", "()I"⟩, 16) := ⟨⟨by decide +kernel, by decide +kernel⟩, List.mem_of_getElem? (i := 17) (by decide +kernel), List.mem_of_getElem? (i := 802) (by decide +kernel), List.mem_of_getElem? (i := 803) (by decide +kernel)⟩
theorem lw_p22 : lw_okq (⟨"NonogramSolver", "elementError", "(II)I"⟩, 16) := ⟨⟨by decide +kernel, by decide +kernel⟩, List.mem_of_getElem? (i := 17) (by decide +kernel), List.mem_of_getElem? (i := 852) (by decide +kernel), List.mem_of_getElem? (i := 853) (by decide +kernel)⟩
theorem lw_p23 : lw_okq (⟨"NonogramSolver", "tableError", "(I)I"⟩, 16) := ⟨⟨by decide +kernel, by decide +kernel⟩, List.mem_of_getElem? (i := 17) (by decide +kernel), List.mem_of_getElem? (i := 856) (by decide +kernel), List.mem_of_getElem? (i := 857) (by decide +kernel)⟩
theorem lw_p24 : lw_okq (⟨"NonogramSolverModel", "open", "()V"⟩, 51) := ⟨⟨by decide +kernel, by decide +kernel⟩, List.mem_of_getElem? (i := 881) (by decide +kernel), List.mem_of_getElem? (i := 887) (by decide +kernel), List.mem_of_getElem? (i := 888) (by decide +kernel)⟩
theorem lw_p25 : lw_okq (⟨"NonogramSolverModel", "within", "(III)Z"⟩, 51) := ⟨⟨by decide +kernel, by decide +kernel⟩, List.mem_of_getElem? (i := 881) (by decide +kernel), List.mem_of_getElem? (i := 1057) (by decide +kernel), List.mem_of_getElem? (i := 1058) (by decide +kernel)⟩
theorem lw_p26 : lw_okq (⟨"NonogramSolverModel", "lines", "()I"⟩, 51) := ⟨⟨by decide +kernel, by decide +kernel⟩, List.mem_of_getElem? (i := 881) (by decide +kernel), List.mem_of_getElem? (i := 1061) (by decide +kernel), List.mem_of_getElem? (i := 1062) (by decide +kernel)⟩
theorem lw_p27 : lw_okq (⟨"NonogramSolverModel", "isLine", "(I)Z"⟩, 51) := ⟨⟨by decide +kernel, by decide +kernel⟩, List.mem_of_getElem? (i := 881) (by decide +kernel), List.mem_of_getElem? (i := 1081) (by decide +kernel), List.mem_of_getElem? (i := 1082) (by decide +kernel)⟩
theorem lw_p28 : lw_okq (⟨"NonogramSolverModel", "keep", "()V"⟩, 51) := ⟨⟨by decide +kernel, by decide +kernel⟩, List.mem_of_getElem? (i := 881) (by decide +kernel), List.mem_of_getElem? (i := 1085) (by decide +kernel), List.mem_of_getElem? (i := 1086) (by decide +kernel)⟩
theorem lw_p29 : lw_okq (⟨"NonogramSolverModel", "move", "(II)V"⟩, 51) := ⟨⟨by decide +kernel, by decide +kernel⟩, List.mem_of_getElem? (i := 881) (by decide +kernel), List.mem_of_getElem? (i := 1089) (by decide +kernel), List.mem_of_getElem? (i := 1090) (by decide +kernel)⟩
theorem lw_p30 : lw_okq (⟨"NonogramSolverModel", "push", "(III)V"⟩, 51) := ⟨⟨by decide +kernel, by decide +kernel⟩, List.mem_of_getElem? (i := 881) (by decide +kernel), List.mem_of_getElem? (i := 1093) (by decide +kernel), List.mem_of_getElem? (i := 1094) (by decide +kernel)⟩
theorem lw_p31 : lw_okq (⟨"NonogramSolverModel", "isRun", "(II)Z"⟩, 51) := ⟨⟨by decide +kernel, by decide +kernel⟩, List.mem_of_getElem? (i := 881) (by decide +kernel), List.mem_of_getElem? (i := 1109) (by decide +kernel), List.mem_of_getElem? (i := 1110) (by decide +kernel)⟩
def lw_privs_2 : List (MethodName × Nat) := [(⟨"NonogramSolver$Search", "visit", "(I)V"⟩, 10), (⟨"NonogramSolver$Search", "selectCell", "()I"⟩, 10), (⟨"NonogramSolver$Search", "score", "(I)I"⟩, 10), (⟨"NonogramSolver$Search", "makeNextChild", "()Z"⟩, 10), (⟨"NonogramSolver$Grid", "describeLine", "(I)V"⟩, 5), (⟨"NonogramSolver", "parseText", "()I"⟩, 16), (⟨"NonogramSolver", "elementError", "(II)I"⟩, 16), (⟨"NonogramSolver", "tableError", "(I)I"⟩, 16), (⟨"NonogramSolverModel", "open", "()V"⟩, 51), (⟨"NonogramSolverModel", "within", "(III)Z"⟩, 51), (⟨"NonogramSolverModel", "lines", "()I"⟩, 51), (⟨"NonogramSolverModel", "isLine", "(I)Z"⟩, 51), (⟨"NonogramSolverModel", "keep", "()V"⟩, 51), (⟨"NonogramSolverModel", "move", "(II)V"⟩, 51), (⟨"NonogramSolverModel", "push", "(III)V"⟩, 51), (⟨"NonogramSolverModel", "isRun", "(II)Z"⟩, 51)]
theorem lw_r2 : ∀ q ∈ lw_privs_2, lw_okq q := List.forall_mem_cons.mpr ⟨lw_p16, List.forall_mem_cons.mpr ⟨lw_p17, List.forall_mem_cons.mpr ⟨lw_p18, List.forall_mem_cons.mpr ⟨lw_p19, List.forall_mem_cons.mpr ⟨lw_p20, List.forall_mem_cons.mpr ⟨lw_p21, List.forall_mem_cons.mpr ⟨lw_p22, List.forall_mem_cons.mpr ⟨lw_p23, List.forall_mem_cons.mpr ⟨lw_p24, List.forall_mem_cons.mpr ⟨lw_p25, List.forall_mem_cons.mpr ⟨lw_p26, List.forall_mem_cons.mpr ⟨lw_p27, List.forall_mem_cons.mpr ⟨lw_p28, List.forall_mem_cons.mpr ⟨lw_p29, List.forall_mem_cons.mpr ⟨lw_p30, List.forall_mem_cons.mpr ⟨lw_p31, fun _ h => absurd h List.not_mem_nil⟩⟩⟩⟩⟩⟩⟩⟩⟩⟩⟩⟩⟩⟩⟩⟩
theorem lw_p32 : lw_okq (⟨"NonogramSolverModel", "isCell", "(II)Z"⟩, 51) := ⟨⟨by decide +kernel, by decide +kernel⟩, List.mem_of_getElem? (i := 881) (by decide +kernel), List.mem_of_getElem? (i := 1125) (by decide +kernel), List.mem_of_getElem? (i := 1126) (by decide +kernel)⟩
theorem lw_p33 : lw_okq (⟨"NonogramSolverModel", "isDecided", "(I)Z"⟩, 51) := ⟨⟨by decide +kernel, by decide +kernel⟩, List.mem_of_getElem? (i := 881) (by decide +kernel), List.mem_of_getElem? (i := 1133) (by decide +kernel), List.mem_of_getElem? (i := 1134) (by decide +kernel)⟩
theorem lw_p34 : lw_okq (⟨"NonogramSolverModel", "colorAt", "(I)I"⟩, 51) := ⟨⟨by decide +kernel, by decide +kernel⟩, List.mem_of_getElem? (i := 881) (by decide +kernel), List.mem_of_getElem? (i := 1137) (by decide +kernel), List.mem_of_getElem? (i := 1138) (by decide +kernel)⟩
theorem lw_p35 : lw_okq (⟨"NonogramSolverModel", "isColor", "(I)Z"⟩, 51) := ⟨⟨by decide +kernel, by decide +kernel⟩, List.mem_of_getElem? (i := 881) (by decide +kernel), List.mem_of_getElem? (i := 1145) (by decide +kernel), List.mem_of_getElem? (i := 1146) (by decide +kernel)⟩
theorem lw_p36 : lw_okq (⟨"NonogramSolverModel", "ones", "(I)I"⟩, 51) := ⟨⟨by decide +kernel, by decide +kernel⟩, List.mem_of_getElem? (i := 881) (by decide +kernel), List.mem_of_getElem? (i := 1149) (by decide +kernel), List.mem_of_getElem? (i := 1150) (by decide +kernel)⟩
theorem lw_p37 : lw_okq (⟨"NonogramSolverModel", "decidedIn", "(I)I"⟩, 51) := ⟨⟨by decide +kernel, by decide +kernel⟩, List.mem_of_getElem? (i := 881) (by decide +kernel), List.mem_of_getElem? (i := 1161) (by decide +kernel), List.mem_of_getElem? (i := 1162) (by decide +kernel)⟩
theorem lw_p38 : lw_okq (⟨"NonogramSolverModel", "size", "(I)I"⟩, 51) := ⟨⟨by decide +kernel, by decide +kernel⟩, List.mem_of_getElem? (i := 881) (by decide +kernel), List.mem_of_getElem? (i := 1169) (by decide +kernel), List.mem_of_getElem? (i := 1170) (by decide +kernel)⟩
theorem lw_p39 : lw_okq (⟨"NonogramSolverModel", "cellOf", "(II)I"⟩, 51) := ⟨⟨by decide +kernel, by decide +kernel⟩, List.mem_of_getElem? (i := 881) (by decide +kernel), List.mem_of_getElem? (i := 1173) (by decide +kernel), List.mem_of_getElem? (i := 1174) (by decide +kernel)⟩
theorem lw_p40 : lw_okq (⟨"NonogramSolverModel", "assignAll", "(II)V"⟩, 51) := ⟨⟨by decide +kernel, by decide +kernel⟩, List.mem_of_getElem? (i := 881) (by decide +kernel), List.mem_of_getElem? (i := 1181) (by decide +kernel), List.mem_of_getElem? (i := 1182) (by decide +kernel)⟩
theorem lw_p41 : lw_okq (⟨"NonogramSolverModel", "assign", "(III)V"⟩, 51) := ⟨⟨by decide +kernel, by decide +kernel⟩, List.mem_of_getElem? (i := 881) (by decide +kernel), List.mem_of_getElem? (i := 1185) (by decide +kernel), List.mem_of_getElem? (i := 1186) (by decide +kernel)⟩
theorem lw_p42 : lw_okq (⟨"NonogramSolverModel", "copy", "(II)V"⟩, 51) := ⟨⟨by decide +kernel, by decide +kernel⟩, List.mem_of_getElem? (i := 881) (by decide +kernel), List.mem_of_getElem? (i := 1197) (by decide +kernel), List.mem_of_getElem? (i := 1198) (by decide +kernel)⟩
theorem lw_p43 : lw_okq (⟨"NonogramSolverModel", "solve", "(II)I"⟩, 51) := ⟨⟨by decide +kernel, by decide +kernel⟩, List.mem_of_getElem? (i := 881) (by decide +kernel), List.mem_of_getElem? (i := 1201) (by decide +kernel), List.mem_of_getElem? (i := 1202) (by decide +kernel)⟩
theorem lw_p44 : lw_okq (⟨"NonogramSolverModel", "contradiction", "(II)I"⟩, 51) := ⟨⟨by decide +kernel, by decide +kernel⟩, List.mem_of_getElem? (i := 881) (by decide +kernel), List.mem_of_getElem? (i := 1205) (by decide +kernel), List.mem_of_getElem? (i := 1206) (by decide +kernel)⟩
theorem lw_p45 : lw_okq (⟨"NonogramSolverModel", "takeOver", "(I)I"⟩, 51) := ⟨⟨by decide +kernel, by decide +kernel⟩, List.mem_of_getElem? (i := 881) (by decide +kernel), List.mem_of_getElem? (i := 1209) (by decide +kernel), List.mem_of_getElem? (i := 1210) (by decide +kernel)⟩
theorem lw_p46 : lw_okq (⟨"NonogramSolverModel", "spread", "(I)I"⟩, 51) := ⟨⟨by decide +kernel, by decide +kernel⟩, List.mem_of_getElem? (i := 881) (by decide +kernel), List.mem_of_getElem? (i := 1217) (by decide +kernel), List.mem_of_getElem? (i := 1218) (by decide +kernel)⟩
theorem lw_p47 : lw_okq (⟨"NonogramSolverModel", "fails", "(III)Z"⟩, 51) := ⟨⟨by decide +kernel, by decide +kernel⟩, List.mem_of_getElem? (i := 881) (by decide +kernel), List.mem_of_getElem? (i := 1229) (by decide +kernel), List.mem_of_getElem? (i := 1230) (by decide +kernel)⟩
def lw_privs_3 : List (MethodName × Nat) := [(⟨"NonogramSolverModel", "isCell", "(II)Z"⟩, 51), (⟨"NonogramSolverModel", "isDecided", "(I)Z"⟩, 51), (⟨"NonogramSolverModel", "colorAt", "(I)I"⟩, 51), (⟨"NonogramSolverModel", "isColor", "(I)Z"⟩, 51), (⟨"NonogramSolverModel", "ones", "(I)I"⟩, 51), (⟨"NonogramSolverModel", "decidedIn", "(I)I"⟩, 51), (⟨"NonogramSolverModel", "size", "(I)I"⟩, 51), (⟨"NonogramSolverModel", "cellOf", "(II)I"⟩, 51), (⟨"NonogramSolverModel", "assignAll", "(II)V"⟩, 51), (⟨"NonogramSolverModel", "assign", "(III)V"⟩, 51), (⟨"NonogramSolverModel", "copy", "(II)V"⟩, 51), (⟨"NonogramSolverModel", "solve", "(II)I"⟩, 51), (⟨"NonogramSolverModel", "contradiction", "(II)I"⟩, 51), (⟨"NonogramSolverModel", "takeOver", "(I)I"⟩, 51), (⟨"NonogramSolverModel", "spread", "(I)I"⟩, 51), (⟨"NonogramSolverModel", "fails", "(III)Z"⟩, 51)]
theorem lw_r3 : ∀ q ∈ lw_privs_3, lw_okq q := List.forall_mem_cons.mpr ⟨lw_p32, List.forall_mem_cons.mpr ⟨lw_p33, List.forall_mem_cons.mpr ⟨lw_p34, List.forall_mem_cons.mpr ⟨lw_p35, List.forall_mem_cons.mpr ⟨lw_p36, List.forall_mem_cons.mpr ⟨lw_p37, List.forall_mem_cons.mpr ⟨lw_p38, List.forall_mem_cons.mpr ⟨lw_p39, List.forall_mem_cons.mpr ⟨lw_p40, List.forall_mem_cons.mpr ⟨lw_p41, List.forall_mem_cons.mpr ⟨lw_p42, List.forall_mem_cons.mpr ⟨lw_p43, List.forall_mem_cons.mpr ⟨lw_p44, List.forall_mem_cons.mpr ⟨lw_p45, List.forall_mem_cons.mpr ⟨lw_p46, List.forall_mem_cons.mpr ⟨lw_p47, fun _ h => absurd h List.not_mem_nil⟩⟩⟩⟩⟩⟩⟩⟩⟩⟩⟩⟩⟩⟩⟩⟩
theorem lw_p48 : lw_okq (⟨"NonogramSolverModel", "probeRound", "()Z"⟩, 51) := ⟨⟨by decide +kernel, by decide +kernel⟩, List.mem_of_getElem? (i := 881) (by decide +kernel), List.mem_of_getElem? (i := 1237) (by decide +kernel), List.mem_of_getElem? (i := 1238) (by decide +kernel)⟩
theorem lw_p49 : lw_okq (⟨"NonogramSolverModel", "search", "(I)Z"⟩, 51) := ⟨⟨by decide +kernel, by decide +kernel⟩, List.mem_of_getElem? (i := 881) (by decide +kernel), List.mem_of_getElem? (i := 1257) (by decide +kernel), List.mem_of_getElem? (i := 1258) (by decide +kernel)⟩
theorem lw_p50 : lw_okq (⟨"NonogramSolverModel", "visit", "(I)V"⟩, 51) := ⟨⟨by decide +kernel, by decide +kernel⟩, List.mem_of_getElem? (i := 881) (by decide +kernel), List.mem_of_getElem? (i := 1261) (by decide +kernel), List.mem_of_getElem? (i := 1262) (by decide +kernel)⟩
theorem lw_p51 : lw_okq (⟨"NonogramSolverModel", "select", "(I)I"⟩, 51) := ⟨⟨by decide +kernel, by decide +kernel⟩, List.mem_of_getElem? (i := 881) (by decide +kernel), List.mem_of_getElem? (i := 1265) (by decide +kernel), List.mem_of_getElem? (i := 1266) (by decide +kernel)⟩
theorem lw_p52 : lw_okq (⟨"NonogramSolverModel", "rank", "(II)I"⟩, 51) := ⟨⟨by decide +kernel, by decide +kernel⟩, List.mem_of_getElem? (i := 881) (by decide +kernel), List.mem_of_getElem? (i := 1269) (by decide +kernel), List.mem_of_getElem? (i := 1270) (by decide +kernel)⟩
theorem lw_p53 : lw_okq (⟨"NonogramSolverModel", "blocks", "(I)I"⟩, 51) := ⟨⟨by decide +kernel, by decide +kernel⟩, List.mem_of_getElem? (i := 881) (by decide +kernel), List.mem_of_getElem? (i := 1289) (by decide +kernel), List.mem_of_getElem? (i := 1290) (by decide +kernel)⟩
theorem lw_p54 : lw_okq (⟨"NonogramSolverModel", "take", "()I"⟩, 51) := ⟨⟨by decide +kernel, by decide +kernel⟩, List.mem_of_getElem? (i := 881) (by decide +kernel), List.mem_of_getElem? (i := 1297) (by decide +kernel), List.mem_of_getElem? (i := 1298) (by decide +kernel)⟩
theorem lw_p55 : lw_okq (⟨"NonogramSolverModel", "read", "(I)I"⟩, 51) := ⟨⟨by decide +kernel, by decide +kernel⟩, List.mem_of_getElem? (i := 881) (by decide +kernel), List.mem_of_getElem? (i := 1318) (by decide +kernel), List.mem_of_getElem? (i := 1319) (by decide +kernel)⟩
theorem lw_p56 : lw_okq (⟨"NonogramSolverModel", "say", "(I)V"⟩, 51) := ⟨⟨by decide +kernel, by decide +kernel⟩, List.mem_of_getElem? (i := 881) (by decide +kernel), List.mem_of_getElem? (i := 1326) (by decide +kernel), List.mem_of_getElem? (i := 1327) (by decide +kernel)⟩
theorem lw_p57 : lw_okq (⟨"NonogramSolverModel", "isTable", "(I)Z"⟩, 51) := ⟨⟨by decide +kernel, by decide +kernel⟩, List.mem_of_getElem? (i := 881) (by decide +kernel), List.mem_of_getElem? (i := 1346) (by decide +kernel), List.mem_of_getElem? (i := 1347) (by decide +kernel)⟩
theorem lw_p58 : lw_okq (⟨"NonogramSolverModel", "lay", "(III)V"⟩, 51) := ⟨⟨by decide +kernel, by decide +kernel⟩, List.mem_of_getElem? (i := 881) (by decide +kernel), List.mem_of_getElem? (i := 1354) (by decide +kernel), List.mem_of_getElem? (i := 1355) (by decide +kernel)⟩
theorem lw_p59 : lw_okq (⟨"NonogramSolverModel", "cellAt", "(I)I"⟩, 51) := ⟨⟨by decide +kernel, by decide +kernel⟩, List.mem_of_getElem? (i := 881) (by decide +kernel), List.mem_of_getElem? (i := 1366) (by decide +kernel), List.mem_of_getElem? (i := 1367) (by decide +kernel)⟩
def lw_privs_4 : List (MethodName × Nat) := [(⟨"NonogramSolverModel", "probeRound", "()Z"⟩, 51), (⟨"NonogramSolverModel", "search", "(I)Z"⟩, 51), (⟨"NonogramSolverModel", "visit", "(I)V"⟩, 51), (⟨"NonogramSolverModel", "select", "(I)I"⟩, 51), (⟨"NonogramSolverModel", "rank", "(II)I"⟩, 51), (⟨"NonogramSolverModel", "blocks", "(I)I"⟩, 51), (⟨"NonogramSolverModel", "take", "()I"⟩, 51), (⟨"NonogramSolverModel", "read", "(I)I"⟩, 51), (⟨"NonogramSolverModel", "say", "(I)V"⟩, 51), (⟨"NonogramSolverModel", "isTable", "(I)Z"⟩, 51), (⟨"NonogramSolverModel", "lay", "(III)V"⟩, 51), (⟨"NonogramSolverModel", "cellAt", "(I)I"⟩, 51)]
theorem lw_r4 : ∀ q ∈ lw_privs_4, lw_okq q := List.forall_mem_cons.mpr ⟨lw_p48, List.forall_mem_cons.mpr ⟨lw_p49, List.forall_mem_cons.mpr ⟨lw_p50, List.forall_mem_cons.mpr ⟨lw_p51, List.forall_mem_cons.mpr ⟨lw_p52, List.forall_mem_cons.mpr ⟨lw_p53, List.forall_mem_cons.mpr ⟨lw_p54, List.forall_mem_cons.mpr ⟨lw_p55, List.forall_mem_cons.mpr ⟨lw_p56, List.forall_mem_cons.mpr ⟨lw_p57, List.forall_mem_cons.mpr ⟨lw_p58, List.forall_mem_cons.mpr ⟨lw_p59, fun _ h => absurd h List.not_mem_nil⟩⟩⟩⟩⟩⟩⟩⟩⟩⟩⟩⟩
def lw_privs : List (MethodName × Nat) := lw_privs_1 ++ (lw_privs_2 ++ (lw_privs_3 ++ (lw_privs_4)))
def lw_tbl : List Cond := k2_sels lw_privs ++ tables_1
theorem lw_privs_ok : ∀ q ∈ lw_privs, lw_okq q := by
  show ∀ q ∈ lw_privs_1 ++ (lw_privs_2 ++ (lw_privs_3 ++ (lw_privs_4))), lw_okq q
  exact List.forall_mem_append.mpr ⟨lw_r1, List.forall_mem_append.mpr ⟨lw_r2, List.forall_mem_append.mpr ⟨lw_r3, lw_r4⟩⟩⟩
end
section
def RX0 : String := "NonogramSolver$Clues"
def TX0 : u_T := fun k => match k with
  | 0 => ("NonogramSolver$Clues", "counts", "[I", true)
  | 1 => ("NonogramSolver$Clues", "lengths", "[I", true)
  | _ => ("NonogramSolver$Clues", "colors", "[I", true)
def tyX0 : Nat → FieldType := fun k => match k with
  | 0 => .array .int
  | 1 => .array .int
  | _ => .array .int
abbrev wsX00 : List Cond := u_ws RX0 TX0 3
theorem nmX0 : ∀ a, a < 3 → ∀ b, b < 3 → a ≠ b → (TX0 a).2.1 ≠ (TX0 b).2.1 := by decide +kernel
theorem tyX0_ok : ∀ k, k < 3 → parseFieldDescriptor (TX0 k).2.2.1 = some (tyX0 k) := by decide +kernel
abbrev cX0_init : ByteArray := prog_2_method_1_code
def yX0_init : MethodName := ⟨RX0, "<init>", "()V"⟩
abbrev cX0_runsOf : ByteArray := prog_2_method_2_code
def yX0_runsOf : MethodName := ⟨RX0, "runsOf", "(I)I"⟩
abbrev cX0_isFull : ByteArray := prog_2_method_3_code
def yX0_isFull : MethodName := ⟨RX0, "isFull", "(I)Z"⟩
abbrev cX0_lengthOf : ByteArray := prog_2_method_4_code
def yX0_lengthOf : MethodName := ⟨RX0, "lengthOf", "(II)I"⟩
abbrev cX0_colorOf : ByteArray := prog_2_method_5_code
def yX0_colorOf : MethodName := ⟨RX0, "colorOf", "(II)I"⟩
abbrev cX0_needsGapBehind : ByteArray := prog_2_method_6_code
def yX0_needsGapBehind : MethodName := ⟨RX0, "needsGapBehind", "(II)Z"⟩
abbrev cX0_cellsNeeded : ByteArray := prog_2_method_7_code
def yX0_cellsNeeded : MethodName := ⟨RX0, "cellsNeeded", "(I)I"⟩
abbrev cX0_runTotal : ByteArray := prog_2_method_8_code
def yX0_runTotal : MethodName := ⟨RX0, "runTotal", "()I"⟩
abbrev cX0_append : ByteArray := prog_2_method_9_code
def yX0_append : MethodName := ⟨RX0, "append", "(III)V"⟩
abbrev cX0_lengthenLast : ByteArray := prog_2_method_10_code
def yX0_lengthenLast : MethodName := ⟨RX0, "lengthenLast", "(I)V"⟩
abbrev cX0_empty : ByteArray := prog_2_method_11_code
def yX0_empty : MethodName := ⟨RX0, "empty", "(I)V"⟩
abbrev cX0_emptyAll : ByteArray := prog_2_method_12_code
def yX0_emptyAll : MethodName := ⟨RX0, "emptyAll", "()V"⟩
abbrev cX0_copyFrom : ByteArray := prog_2_method_13_code
def yX0_copyFrom : MethodName := ⟨RX0, "copyFrom", "(LNonogramSolver$Clues;)V"⟩
def RX1 : String := "NonogramSolver$Grid"
def TX1 : u_T := fun k => match k with
  | 0 => ("NonogramSolver$Grid", "rows", "I", false)
  | 1 => ("NonogramSolver$Grid", "columns", "I", false)
  | 2 => ("NonogramSolver$Grid", "colors", "I", false)
  | 3 => ("NonogramSolver$Grid", "clues", "LNonogramSolver$Clues;", true)
  | _ => ("NonogramSolver$Grid", "cells", "[I", true)
def tyX1 : Nat → FieldType := fun k => match k with
  | 0 => .int
  | 1 => .int
  | 2 => .int
  | 3 => .object "NonogramSolver$Clues"
  | _ => .array .int
abbrev wsX10 : List Cond := u_ws RX1 TX1 5
theorem nmX1 : ∀ a, a < 5 → ∀ b, b < 5 → a ≠ b → (TX1 a).2.1 ≠ (TX1 b).2.1 := by decide +kernel
theorem tyX1_ok : ∀ k, k < 5 → parseFieldDescriptor (TX1 k).2.2.1 = some (tyX1 k) := by decide +kernel
abbrev cX1_init : ByteArray := prog_3_method_1_code
def yX1_init : MethodName := ⟨RX1, "<init>", "()V"⟩
abbrev cX1_start : ByteArray := prog_3_method_2_code
def yX1_start : MethodName := ⟨RX1, "start", "(III)V"⟩
abbrev cX1_fillCandidates : ByteArray := prog_3_method_3_code
def yX1_fillCandidates : MethodName := ⟨RX1, "fillCandidates", "()V"⟩
abbrev cX1_copyFrom : ByteArray := prog_3_method_4_code
def yX1_copyFrom : MethodName := ⟨RX1, "copyFrom", "(LNonogramSolver$Grid;)V"⟩
abbrev cX1_cellTotal : ByteArray := prog_3_method_5_code
def yX1_cellTotal : MethodName := ⟨RX1, "cellTotal", "()I"⟩
abbrev cX1_lineTotal : ByteArray := prog_3_method_6_code
def yX1_lineTotal : MethodName := ⟨RX1, "lineTotal", "()I"⟩
abbrev cX1_allLines : ByteArray := prog_3_method_7_code
def yX1_allLines : MethodName := ⟨RX1, "allLines", "()I"⟩
abbrev cX1_hasLine : ByteArray := prog_3_method_8_code
def yX1_hasLine : MethodName := ⟨RX1, "hasLine", "(I)Z"⟩
abbrev cX1_hasCell : ByteArray := prog_3_method_9_code
def yX1_hasCell : MethodName := ⟨RX1, "hasCell", "(II)Z"⟩
abbrev cX1_cellAt : ByteArray := prog_3_method_10_code
def yX1_cellAt : MethodName := ⟨RX1, "cellAt", "(II)I"⟩
abbrev cX1_lineLength : ByteArray := prog_3_method_11_code
def yX1_lineLength : MethodName := ⟨RX1, "lineLength", "(I)I"⟩
abbrev cX1_lineCell : ByteArray := prog_3_method_12_code
def yX1_lineCell : MethodName := ⟨RX1, "lineCell", "(II)I"⟩
abbrev cX1_rowLine : ByteArray := prog_3_method_13_code
def yX1_rowLine : MethodName := ⟨RX1, "rowLine", "(I)I"⟩
abbrev cX1_columnLine : ByteArray := prog_3_method_14_code
def yX1_columnLine : MethodName := ⟨RX1, "columnLine", "(I)I"⟩
abbrev cX1_linesThrough : ByteArray := prog_3_method_15_code
def yX1_linesThrough : MethodName := ⟨RX1, "linesThrough", "(I)I"⟩
abbrev cX1_hasCandidate : ByteArray := prog_3_method_16_code
def yX1_hasCandidate : MethodName := ⟨RX1, "hasCandidate", "(II)Z"⟩
abbrev cX1_isDecided : ByteArray := prog_3_method_17_code
def yX1_isDecided : MethodName := ⟨RX1, "isDecided", "(I)Z"⟩
abbrev cX1_decidedColor : ByteArray := prog_3_method_18_code
def yX1_decidedColor : MethodName := ⟨RX1, "decidedColor", "(I)I"⟩
abbrev cX1_decidedTotal : ByteArray := prog_3_method_19_code
def yX1_decidedTotal : MethodName := ⟨RX1, "decidedTotal", "()I"⟩
abbrev cX1_isAllDecided : ByteArray := prog_3_method_20_code
def yX1_isAllDecided : MethodName := ⟨RX1, "isAllDecided", "()Z"⟩
abbrev cX1_decidedInLine : ByteArray := prog_3_method_21_code
def yX1_decidedInLine : MethodName := ⟨RX1, "decidedInLine", "(I)I"⟩
abbrev cX1_describePicture : ByteArray := prog_3_method_22_code
def yX1_describePicture : MethodName := ⟨RX1, "describePicture", "()V"⟩
abbrev cX1_describeLine : ByteArray := prog_3_method_23_code
def yX1_describeLine : MethodName := ⟨RX1, "describeLine", "(I)V"⟩
def RX2 : String := "NonogramSolver$History"
def TX2 : u_T := fun k => match k with
  | 0 => ("NonogramSolver$History", "states", "[LNonogramSolver$Grid;", true)
  | 1 => ("NonogramSolver$History", "next", "I", false)
  | _ => ("NonogramSolver$History", "count", "I", false)
def tyX2 : Nat → FieldType := fun k => match k with
  | 0 => .array (.object "NonogramSolver$Grid")
  | 1 => .int
  | _ => .int
abbrev wsX20 : List Cond := u_ws RX2 TX2 3
theorem nmX2 : ∀ a, a < 3 → ∀ b, b < 3 → a ≠ b → (TX2 a).2.1 ≠ (TX2 b).2.1 := by decide +kernel
theorem tyX2_ok : ∀ k, k < 3 → parseFieldDescriptor (TX2 k).2.2.1 = some (tyX2 k) := by decide +kernel
abbrev cX2_init : ByteArray := prog_4_method_1_code
def yX2_init : MethodName := ⟨RX2, "<init>", "()V"⟩
abbrev cX2_forget : ByteArray := prog_4_method_2_code
def yX2_forget : MethodName := ⟨RX2, "forget", "()V"⟩
abbrev cX2_push : ByteArray := prog_4_method_3_code
def yX2_push : MethodName := ⟨RX2, "push", "(LNonogramSolver$Grid;)V"⟩
abbrev cX2_pop : ByteArray := prog_4_method_4_code
def yX2_pop : MethodName := ⟨RX2, "pop", "(LNonogramSolver$Grid;)Z"⟩
def RX3 : String := "NonogramSolver$LineSolver"
def TX3 : u_T := fun k => match k with
  | 0 => ("NonogramSolver$LineSolver", "length", "I", false)
  | 1 => ("NonogramSolver$LineSolver", "runs", "I", false)
  | 2 => ("NonogramSolver$LineSolver", "runLengths", "[I", true)
  | 3 => ("NonogramSolver$LineSolver", "runColors", "[I", true)
  | 4 => ("NonogramSolver$LineSolver", "spans", "[I", true)
  | 5 => ("NonogramSolver$LineSolver", "starts", "[I", true)
  | 6 => ("NonogramSolver$LineSolver", "possible", "[I", true)
  | 7 => ("NonogramSolver$LineSolver", "seen", "[I", true)
  | 8 => ("NonogramSolver$LineSolver", "reached", "[I", true)
  | 9 => ("NonogramSolver$LineSolver", "ways", "[I", true)
  | 10 => ("NonogramSolver$LineSolver", "removed", "I", false)
  | _ => ("NonogramSolver$LineSolver", "touchedLines", "I", false)
def tyX3 : Nat → FieldType := fun k => match k with
  | 0 => .int
  | 1 => .int
  | 2 => .array .int
  | 3 => .array .int
  | 4 => .array .int
  | 5 => .array .int
  | 6 => .array .int
  | 7 => .array .int
  | 8 => .array .int
  | 9 => .array .int
  | 10 => .int
  | _ => .int
abbrev wsX30 : List Cond := u_ws RX3 TX3 12
theorem nmX3 : ∀ a, a < 12 → ∀ b, b < 12 → a ≠ b → (TX3 a).2.1 ≠ (TX3 b).2.1 := by decide +kernel
theorem tyX3_ok : ∀ k, k < 12 → parseFieldDescriptor (TX3 k).2.2.1 = some (tyX3 k) := by decide +kernel
abbrev cX3_init : ByteArray := prog_5_method_1_code
def yX3_init : MethodName := ⟨RX3, "<init>", "()V"⟩
abbrev cX3_load : ByteArray := prog_5_method_2_code
def yX3_load : MethodName := ⟨RX3, "load", "(LNonogramSolver$Grid;I)V"⟩
abbrev cX3_loadCandidates : ByteArray := prog_5_method_3_code
def yX3_loadCandidates : MethodName := ⟨RX3, "loadCandidates", "(LNonogramSolver$Grid;I)V"⟩
abbrev cX3_loadRuns : ByteArray := prog_5_method_4_code
def yX3_loadRuns : MethodName := ⟨RX3, "loadRuns", "(LNonogramSolver$Clues;I)V"⟩
abbrev cX3_startsOf : ByteArray := prog_5_method_5_code
def yX3_startsOf : MethodName := ⟨RX3, "startsOf", "(II)I"⟩
abbrev cX3_countWays : ByteArray := prog_5_method_6_code
def yX3_countWays : MethodName := ⟨RX3, "countWays", "()V"⟩
abbrev cX3_whiteWays : ByteArray := prog_5_method_7_code
def yX3_whiteWays : MethodName := ⟨RX3, "whiteWays", "(II)I"⟩
abbrev cX3_runWays : ByteArray := prog_5_method_8_code
def yX3_runWays : MethodName := ⟨RX3, "runWays", "(II)I"⟩
abbrev cX3_total : ByteArray := prog_5_method_9_code
def yX3_total : MethodName := ⟨RX3, "total", "()I"⟩
abbrev cX3_colorIn : ByteArray := prog_5_method_10_code
def yX3_colorIn : MethodName := ⟨RX3, "colorIn", "(II)I"⟩
abbrev cX3_solve : ByteArray := prog_5_method_11_code
def yX3_solve : MethodName := ⟨RX3, "solve", "(LNonogramSolver$Grid;I)Z"⟩
abbrev cX3_findSeen : ByteArray := prog_5_method_12_code
def yX3_findSeen : MethodName := ⟨RX3, "findSeen", "()V"⟩
abbrev cX3_seeRun : ByteArray := prog_5_method_13_code
def yX3_seeRun : MethodName := ⟨RX3, "seeRun", "(II)V"⟩
abbrev cX3_seenAt : ByteArray := prog_5_method_14_code
def yX3_seenAt : MethodName := ⟨RX3, "seenAt", "(I)I"⟩
def RX4 : String := "NonogramSolver$Prober"
def TX4 : u_T := fun k => match k with
  | 0 => ("NonogramSolver$Prober", "trial", "LNonogramSolver$Grid;", true)
  | 1 => ("NonogramSolver$Prober", "propagator", "LNonogramSolver$Propagator;", true)
  | 2 => ("NonogramSolver$Prober", "failedProbes", "I", false)
  | _ => ("NonogramSolver$Prober", "failedLine", "I", false)
def tyX4 : Nat → FieldType := fun k => match k with
  | 0 => .object "NonogramSolver$Grid"
  | 1 => .object "NonogramSolver$Propagator"
  | 2 => .int
  | _ => .int
abbrev wsX40 : List Cond := u_ws RX4 TX4 4
theorem nmX4 : ∀ a, a < 4 → ∀ b, b < 4 → a ≠ b → (TX4 a).2.1 ≠ (TX4 b).2.1 := by decide +kernel
theorem tyX4_ok : ∀ k, k < 4 → parseFieldDescriptor (TX4 k).2.2.1 = some (tyX4 k) := by decide +kernel
abbrev cX4_init : ByteArray := prog_6_method_1_code
def yX4_init : MethodName := ⟨RX4, "<init>", "()V"⟩
abbrev cX4_begin : ByteArray := prog_6_method_2_code
def yX4_begin : MethodName := ⟨RX4, "begin", "(LNonogramSolver$Grid;)Z"⟩
abbrev cX4_probeRound : ByteArray := prog_6_method_3_code
def yX4_probeRound : MethodName := ⟨RX4, "probeRound", "(LNonogramSolver$Grid;)Z"⟩
abbrev cX4_failsWith : ByteArray := prog_6_method_4_code
def yX4_failsWith : MethodName := ⟨RX4, "failsWith", "(LNonogramSolver$Grid;II)Z"⟩
abbrev cX4_settle : ByteArray := prog_6_method_5_code
def yX4_settle : MethodName := ⟨RX4, "settle", "(LNonogramSolver$Grid;I)Z"⟩
def RX5 : String := "NonogramSolver$Propagator"
def TX5 : u_T := fun k => match k with
  | 0 => ("NonogramSolver$Propagator", "lineSolver", "LNonogramSolver$LineSolver;", true)
  | 1 => ("NonogramSolver$Propagator", "passes", "I", false)
  | 2 => ("NonogramSolver$Propagator", "removed", "I", false)
  | _ => ("NonogramSolver$Propagator", "failedLine", "I", false)
def tyX5 : Nat → FieldType := fun k => match k with
  | 0 => .object "NonogramSolver$LineSolver"
  | 1 => .int
  | 2 => .int
  | _ => .int
abbrev wsX50 : List Cond := u_ws RX5 TX5 4
theorem nmX5 : ∀ a, a < 4 → ∀ b, b < 4 → a ≠ b → (TX5 a).2.1 ≠ (TX5 b).2.1 := by decide +kernel
theorem tyX5_ok : ∀ k, k < 4 → parseFieldDescriptor (TX5 k).2.2.1 = some (tyX5 k) := by decide +kernel
abbrev cX5_init : ByteArray := prog_7_method_1_code
def yX5_init : MethodName := ⟨RX5, "<init>", "()V"⟩
abbrev cX5_settle : ByteArray := prog_7_method_2_code
def yX5_settle : MethodName := ⟨RX5, "settle", "(LNonogramSolver$Grid;I)Z"⟩
def RX6 : String := "NonogramSolver$Search"
def TX6 : u_T := fun k => match k with
  | 0 => ("NonogramSolver$Search", "work", "LNonogramSolver$Grid;", true)
  | 1 => ("NonogramSolver$Search", "propagator", "LNonogramSolver$Propagator;", true)
  | 2 => ("NonogramSolver$Search", "branchCells", "[I", true)
  | 3 => ("NonogramSolver$Search", "selectedCells", "[I", true)
  | 4 => ("NonogramSolver$Search", "nextColors", "[I", true)
  | 5 => ("NonogramSolver$Search", "branches", "I", false)
  | 6 => ("NonogramSolver$Search", "selectionRule", "I", false)
  | 7 => ("NonogramSolver$Search", "nodes", "I", false)
  | 8 => ("NonogramSolver$Search", "found", "I", false)
  | _ => ("NonogramSolver$Search", "failed", "Z", false)
def tyX6 : Nat → FieldType := fun k => match k with
  | 0 => .object "NonogramSolver$Grid"
  | 1 => .object "NonogramSolver$Propagator"
  | 2 => .array .int
  | 3 => .array .int
  | 4 => .array .int
  | 5 => .int
  | 6 => .int
  | 7 => .int
  | 8 => .int
  | _ => .boolean
abbrev wsX60 : List Cond := u_ws RX6 TX6 10
theorem nmX6 : ∀ a, a < 10 → ∀ b, b < 10 → a ≠ b → (TX6 a).2.1 ≠ (TX6 b).2.1 := by decide +kernel
theorem tyX6_ok : ∀ k, k < 10 → parseFieldDescriptor (TX6 k).2.2.1 = some (tyX6 k) := by decide +kernel
abbrev cX6_init : ByteArray := prog_8_method_1_code
def yX6_init : MethodName := ⟨RX6, "<init>", "()V"⟩
abbrev cX6_find : ByteArray := prog_8_method_2_code
def yX6_find : MethodName := ⟨RX6, "find", "(LNonogramSolver$Grid;II)V"⟩
abbrev cX6_lastSolutionColor : ByteArray := prog_8_method_3_code
def yX6_lastSolutionColor : MethodName := ⟨RX6, "lastSolutionColor", "(I)I"⟩
abbrev cX6_makeNextChild : ByteArray := prog_8_method_4_code
def yX6_makeNextChild : MethodName := ⟨RX6, "makeNextChild", "()Z"⟩
abbrev cX6_visit : ByteArray := prog_8_method_5_code
def yX6_visit : MethodName := ⟨RX6, "visit", "(I)V"⟩
abbrev cX6_selectCell : ByteArray := prog_8_method_6_code
def yX6_selectCell : MethodName := ⟨RX6, "selectCell", "()I"⟩
abbrev cX6_score : ByteArray := prog_8_method_7_code
def yX6_score : MethodName := ⟨RX6, "score", "(I)I"⟩
def RX7 : String := "NonogramSolver$Table"
def TX7 : u_T := fun k => match k with
  | 0 => ("NonogramSolver$Table", "elements", "[I", true)
  | 1 => ("NonogramSolver$Table", "type", "I", false)
  | _ => ("NonogramSolver$Table", "length", "I", false)
def tyX7 : Nat → FieldType := fun k => match k with
  | 0 => .array .int
  | 1 => .int
  | _ => .int
abbrev wsX70 : List Cond := u_ws RX7 TX7 3
theorem nmX7 : ∀ a, a < 3 → ∀ b, b < 3 → a ≠ b → (TX7 a).2.1 ≠ (TX7 b).2.1 := by decide +kernel
theorem tyX7_ok : ∀ k, k < 3 → parseFieldDescriptor (TX7 k).2.2.1 = some (tyX7 k) := by decide +kernel
abbrev cX7_init : ByteArray := prog_9_method_1_code
def yX7_init : MethodName := ⟨RX7, "<init>", "()V"⟩
abbrev cX7_start : ByteArray := prog_9_method_2_code
def yX7_start : MethodName := ⟨RX7, "start", "(II)V"⟩
abbrev cX7_store : ByteArray := prog_9_method_3_code
def yX7_store : MethodName := ⟨RX7, "store", "(II)V"⟩
def RX8 : String := "NonogramSolver$Text"
def TX8 : u_T := fun k => match k with
  | 0 => ("NonogramSolver$Text", "characters", "[I", true)
  | _ => ("NonogramSolver$Text", "length", "I", false)
def tyX8 : Nat → FieldType := fun k => match k with
  | 0 => .array .int
  | _ => .int
abbrev wsX80 : List Cond := u_ws RX8 TX8 2
theorem nmX8 : ∀ a, a < 2 → ∀ b, b < 2 → a ≠ b → (TX8 a).2.1 ≠ (TX8 b).2.1 := by decide +kernel
theorem tyX8_ok : ∀ k, k < 2 → parseFieldDescriptor (TX8 k).2.2.1 = some (tyX8 k) := by decide +kernel
abbrev cX8_init : ByteArray := prog_10_method_1_code
def yX8_init : MethodName := ⟨RX8, "<init>", "(I)V"⟩
abbrev cX8_append : ByteArray := prog_10_method_2_code
def yX8_append : MethodName := ⟨RX8, "append", "(I)Z"⟩
abbrev cX8_clear : ByteArray := prog_10_method_3_code
def yX8_clear : MethodName := ⟨RX8, "clear", "()V"⟩
def RX9 : String := "NonogramSolver"
def TX9 : u_T := fun k => match k with
  | 0 => ("NonogramSolver", "grid", "LNonogramSolver$Grid;", true)
  | 1 => ("NonogramSolver", "work", "LNonogramSolver$Grid;", true)
  | 2 => ("NonogramSolver", "snapshot", "LNonogramSolver$Grid;", true)
  | 3 => ("NonogramSolver", "hasSnapshot", "Z", false)
  | 4 => ("NonogramSolver", "history", "LNonogramSolver$History;", true)
  | 5 => ("NonogramSolver", "lineSolver", "LNonogramSolver$LineSolver;", true)
  | 6 => ("NonogramSolver", "propagator", "LNonogramSolver$Propagator;", true)
  | 7 => ("NonogramSolver", "prober", "LNonogramSolver$Prober;", true)
  | 8 => ("NonogramSolver", "search", "LNonogramSolver$Search;", true)
  | 9 => ("NonogramSolver", "rule", "I", false)
  | 10 => ("NonogramSolver", "rememberedLine", "I", false)
  | 11 => ("NonogramSolver", "rememberedDepth", "I", false)
  | 12 => ("NonogramSolver", "text", "LNonogramSolver$Text;", true)
  | 13 => ("NonogramSolver", "formatted", "LNonogramSolver$Text;", true)
  | 14 => ("NonogramSolver", "parsedClues", "LNonogramSolver$Clues;", true)
  | _ => ("NonogramSolver", "tables", "[LNonogramSolver$Table;", true)
def tyX9 : Nat → FieldType := fun k => match k with
  | 0 => .object "NonogramSolver$Grid"
  | 1 => .object "NonogramSolver$Grid"
  | 2 => .object "NonogramSolver$Grid"
  | 3 => .boolean
  | 4 => .object "NonogramSolver$History"
  | 5 => .object "NonogramSolver$LineSolver"
  | 6 => .object "NonogramSolver$Propagator"
  | 7 => .object "NonogramSolver$Prober"
  | 8 => .object "NonogramSolver$Search"
  | 9 => .int
  | 10 => .int
  | 11 => .int
  | 12 => .object "NonogramSolver$Text"
  | 13 => .object "NonogramSolver$Text"
  | 14 => .object "NonogramSolver$Clues"
  | _ => .array (.object "NonogramSolver$Table")
abbrev wsX90 : List Cond := u_ws RX9 TX9 16
theorem nmX9 : ∀ a, a < 16 → ∀ b, b < 16 → a ≠ b → (TX9 a).2.1 ≠ (TX9 b).2.1 := by decide +kernel
theorem tyX9_ok : ∀ k, k < 16 → parseFieldDescriptor (TX9 k).2.2.1 = some (tyX9 k) := by decide +kernel
abbrev cX9_init : ByteArray := prog_1_method_1_code
def yX9_init : MethodName := ⟨RX9, "<init>", "()V"⟩
abbrev cX9_reset : ByteArray := prog_1_method_2_code
def yX9_reset : MethodName := ⟨RX9, "reset", "(III)I"⟩
abbrev cX9_rowCount : ByteArray := prog_1_method_3_code
def yX9_rowCount : MethodName := ⟨RX9, "rowCount", "()I"⟩
abbrev cX9_columnCount : ByteArray := prog_1_method_4_code
def yX9_columnCount : MethodName := ⟨RX9, "columnCount", "()I"⟩
abbrev cX9_colorCount : ByteArray := prog_1_method_5_code
def yX9_colorCount : MethodName := ⟨RX9, "colorCount", "()I"⟩
abbrev cX9_addRun : ByteArray := prog_1_method_6_code
def yX9_addRun : MethodName := ⟨RX9, "addRun", "(III)I"⟩
abbrev cX9_clearClue : ByteArray := prog_1_method_7_code
def yX9_clearClue : MethodName := ⟨RX9, "clearClue", "(I)I"⟩
abbrev cX9_runCount : ByteArray := prog_1_method_8_code
def yX9_runCount : MethodName := ⟨RX9, "runCount", "(I)I"⟩
abbrev cX9_runLength : ByteArray := prog_1_method_9_code
def yX9_runLength : MethodName := ⟨RX9, "runLength", "(II)I"⟩
abbrev cX9_runColor : ByteArray := prog_1_method_10_code
def yX9_runColor : MethodName := ⟨RX9, "runColor", "(II)I"⟩
abbrev cX9_minimumLength : ByteArray := prog_1_method_11_code
def yX9_minimumLength : MethodName := ⟨RX9, "minimumLength", "(I)I"⟩
abbrev cX9_candidates : ByteArray := prog_1_method_12_code
def yX9_candidates : MethodName := ⟨RX9, "candidates", "(II)I"⟩
abbrev cX9_color : ByteArray := prog_1_method_13_code
def yX9_color : MethodName := ⟨RX9, "color", "(II)I"⟩
abbrev cX9_keepOnly : ByteArray := prog_1_method_14_code
def yX9_keepOnly : MethodName := ⟨RX9, "keepOnly", "(III)I"⟩
abbrev cX9_eliminate : ByteArray := prog_1_method_15_code
def yX9_eliminate : MethodName := ⟨RX9, "eliminate", "(III)I"⟩
abbrev cX9_decidedCount : ByteArray := prog_1_method_16_code
def yX9_decidedCount : MethodName := ⟨RX9, "decidedCount", "()I"⟩
abbrev cX9_averageCandidates : ByteArray := prog_1_method_17_code
def yX9_averageCandidates : MethodName := ⟨RX9, "averageCandidates", "(I)I"⟩
abbrev cX9_assignmentCount : ByteArray := prog_1_method_18_code
def yX9_assignmentCount : MethodName := ⟨RX9, "assignmentCount", "(I)I"⟩
abbrev cX9_assignmentColor : ByteArray := prog_1_method_19_code
def yX9_assignmentColor : MethodName := ⟨RX9, "assignmentColor", "(III)I"⟩
abbrev cX9_solveLine : ByteArray := prog_1_method_20_code
def yX9_solveLine : MethodName := ⟨RX9, "solveLine", "(I)I"⟩
abbrev cX9_propagate : ByteArray := prog_1_method_21_code
def yX9_propagate : MethodName := ⟨RX9, "propagate", "()I"⟩
abbrev cX9_passCount : ByteArray := prog_1_method_22_code
def yX9_passCount : MethodName := ⟨RX9, "passCount", "()I"⟩
abbrev cX9_probe : ByteArray := prog_1_method_23_code
def yX9_probe : MethodName := ⟨RX9, "probe", "(III)I"⟩
abbrev cX9_probeAll : ByteArray := prog_1_method_24_code
def yX9_probeAll : MethodName := ⟨RX9, "probeAll", "()I"⟩
abbrev cX9_contradictionLine : ByteArray := prog_1_method_25_code
def yX9_contradictionLine : MethodName := ⟨RX9, "contradictionLine", "()I"⟩
abbrev cX9_contradictionDepth : ByteArray := prog_1_method_26_code
def yX9_contradictionDepth : MethodName := ⟨RX9, "contradictionDepth", "()I"⟩
abbrev cX9_setRule : ByteArray := prog_1_method_27_code
def yX9_setRule : MethodName := ⟨RX9, "setRule", "(I)I"⟩
abbrev cX9_countSolutions : ByteArray := prog_1_method_28_code
def yX9_countSolutions : MethodName := ⟨RX9, "countSolutions", "(I)I"⟩
abbrev cX9_solutionColor : ByteArray := prog_1_method_29_code
def yX9_solutionColor : MethodName := ⟨RX9, "solutionColor", "(III)I"⟩
abbrev cX9_searchNodes : ByteArray := prog_1_method_30_code
def yX9_searchNodes : MethodName := ⟨RX9, "searchNodes", "(I)I"⟩
abbrev cX9_isUnique : ByteArray := prog_1_method_31_code
def yX9_isUnique : MethodName := ⟨RX9, "isUnique", "()I"⟩
abbrev cX9_firstMismatch : ByteArray := prog_1_method_32_code
def yX9_firstMismatch : MethodName := ⟨RX9, "firstMismatch", "()I"⟩
abbrev cX9_takeClues : ByteArray := prog_1_method_33_code
def yX9_takeClues : MethodName := ⟨RX9, "takeClues", "()I"⟩
abbrev cX9_drawPicture : ByteArray := prog_1_method_34_code
def yX9_drawPicture : MethodName := ⟨RX9, "drawPicture", "(I)I"⟩
abbrev cX9_clearCells : ByteArray := prog_1_method_35_code
def yX9_clearCells : MethodName := ⟨RX9, "clearCells", "()I"⟩
abbrev cX9_appendText : ByteArray := prog_1_method_36_code
def yX9_appendText : MethodName := ⟨RX9, "appendText", "(I)I"⟩
abbrev cX9_parseClues : ByteArray := prog_1_method_37_code
def yX9_parseClues : MethodName := ⟨RX9, "parseClues", "()I"⟩
abbrev cX9_formatClues : ByteArray := prog_1_method_38_code
def yX9_formatClues : MethodName := ⟨RX9, "formatClues", "()I"⟩
abbrev cX9_formattedCharacter : ByteArray := prog_1_method_39_code
def yX9_formattedCharacter : MethodName := ⟨RX9, "formattedCharacter", "(I)I"⟩
abbrev cX9_undo : ByteArray := prog_1_method_40_code
def yX9_undo : MethodName := ⟨RX9, "undo", "()I"⟩
abbrev cX9_save : ByteArray := prog_1_method_41_code
def yX9_save : MethodName := ⟨RX9, "save", "()I"⟩
abbrev cX9_restore : ByteArray := prog_1_method_42_code
def yX9_restore : MethodName := ⟨RX9, "restore", "()I"⟩
abbrev cX9_createTable : ByteArray := prog_1_method_43_code
def yX9_createTable : MethodName := ⟨RX9, "createTable", "(III)I"⟩
abbrev cX9_writeTable : ByteArray := prog_1_method_44_code
def yX9_writeTable : MethodName := ⟨RX9, "writeTable", "(III)I"⟩
abbrev cX9_readTable : ByteArray := prog_1_method_45_code
def yX9_readTable : MethodName := ⟨RX9, "readTable", "(II)I"⟩
abbrev cX9_exportCandidates : ByteArray := prog_1_method_46_code
def yX9_exportCandidates : MethodName := ⟨RX9, "exportCandidates", "(I)I"⟩
abbrev cX9_compareTable : ByteArray := prog_1_method_47_code
def yX9_compareTable : MethodName := ⟨RX9, "compareTable", "(I)I"⟩
abbrev cX9_undoCount : ByteArray := prog_1_method_48_code
def yX9_undoCount : MethodName := ⟨RX9, "undoCount", "()I"⟩
abbrev cX9_isWithin : ByteArray := prog_1_method_49_code
def yX9_isWithin : MethodName := ⟨RX9, "isWithin", "(III)Z"⟩
abbrev cX9_hasRun : ByteArray := prog_1_method_50_code
def yX9_hasRun : MethodName := ⟨RX9, "hasRun", "(II)Z"⟩
abbrev cX9_candidateError : ByteArray := prog_1_method_51_code
def yX9_candidateError : MethodName := ⟨RX9, "candidateError", "(III)I"⟩
abbrev cX9_otherCandidatesError : ByteArray := prog_1_method_52_code
def yX9_otherCandidatesError : MethodName := ⟨RX9, "otherCandidatesError", "(III)I"⟩
abbrev cX9_hasTable : ByteArray := prog_1_method_53_code
def yX9_hasTable : MethodName := ⟨RX9, "hasTable", "(I)Z"⟩
abbrev cX9_tableError : ByteArray := prog_1_method_54_code
def yX9_tableError : MethodName := ⟨RX9, "tableError", "(I)I"⟩
abbrev cX9_elementError : ByteArray := prog_1_method_55_code
def yX9_elementError : MethodName := ⟨RX9, "elementError", "(II)I"⟩
abbrev cX9_commitWork : ByteArray := prog_1_method_56_code
def yX9_commitWork : MethodName := ⟨RX9, "commitWork", "()V"⟩
abbrev cX9_remember : ByteArray := prog_1_method_57_code
def yX9_remember : MethodName := ⟨RX9, "remember", "(II)I"⟩
abbrev cX9_forgetContradiction : ByteArray := prog_1_method_58_code
def yX9_forgetContradiction : MethodName := ⟨RX9, "forgetContradiction", "()V"⟩
abbrev cX9_parseText : ByteArray := prog_1_method_59_code
def yX9_parseText : MethodName := ⟨RX9, "parseText", "()I"⟩
def RX10 : String := "NonogramSolverModel"
def TX10 : u_T := fun k => match k with
  | 0 => ("NonogramSolverModel", "rows", "I", false)
  | 1 => ("NonogramSolverModel", "columns", "I", false)
  | 2 => ("NonogramSolverModel", "colors", "I", false)
  | 3 => ("NonogramSolverModel", "rule", "I", false)
  | 4 => ("NonogramSolverModel", "grid", "[I", true)
  | 5 => ("NonogramSolverModel", "runs", "[I", true)
  | 6 => ("NonogramSolverModel", "runLength", "[I", true)
  | 7 => ("NonogramSolverModel", "runColor", "[I", true)
  | 8 => ("NonogramSolverModel", "kept", "I", false)
  | 9 => ("NonogramSolverModel", "keptGrid", "[I", true)
  | 10 => ("NonogramSolverModel", "keptRuns", "[I", true)
  | 11 => ("NonogramSolverModel", "keptLength", "[I", true)
  | 12 => ("NonogramSolverModel", "keptColor", "[I", true)
  | 13 => ("NonogramSolverModel", "badLine", "I", false)
  | 14 => ("NonogramSolverModel", "badDepth", "I", false)
  | 15 => ("NonogramSolverModel", "tried", "[I", true)
  | 16 => ("NonogramSolverModel", "seen", "[I", true)
  | 17 => ("NonogramSolverModel", "base", "I", false)
  | 18 => ("NonogramSolverModel", "line", "I", false)
  | 19 => ("NonogramSolverModel", "found", "I", false)
  | 20 => ("NonogramSolverModel", "asked", "I", false)
  | 21 => ("NonogramSolverModel", "askedPosition", "I", false)
  | 22 => ("NonogramSolverModel", "answer", "I", false)
  | 23 => ("NonogramSolverModel", "passes", "I", false)
  | 24 => ("NonogramSolverModel", "wrongLine", "I", false)
  | 25 => ("NonogramSolverModel", "gone", "I", false)
  | 26 => ("NonogramSolverModel", "solution", "[I", true)
  | 27 => ("NonogramSolverModel", "nodes", "I", false)
  | 28 => ("NonogramSolverModel", "solutions", "I", false)
  | 29 => ("NonogramSolverModel", "wanted", "I", false)
  | 30 => ("NonogramSolverModel", "spent", "Z", false)
  | 31 => ("NonogramSolverModel", "blockLength", "[I", true)
  | 32 => ("NonogramSolverModel", "blockColor", "[I", true)
  | 33 => ("NonogramSolverModel", "text", "[I", true)
  | 34 => ("NonogramSolverModel", "form", "[I", true)
  | 35 => ("NonogramSolverModel", "fed", "I", false)
  | 36 => ("NonogramSolverModel", "formed", "I", false)
  | 37 => ("NonogramSolverModel", "newRuns", "[I", true)
  | 38 => ("NonogramSolverModel", "newLength", "[I", true)
  | 39 => ("NonogramSolverModel", "newColor", "[I", true)
  | 40 => ("NonogramSolverModel", "saved", "Z", false)
  | 41 => ("NonogramSolverModel", "savedRows", "I", false)
  | 42 => ("NonogramSolverModel", "savedColumns", "I", false)
  | 43 => ("NonogramSolverModel", "savedColors", "I", false)
  | 44 => ("NonogramSolverModel", "savedGrid", "[I", true)
  | 45 => ("NonogramSolverModel", "savedRuns", "[I", true)
  | 46 => ("NonogramSolverModel", "savedLength", "[I", true)
  | 47 => ("NonogramSolverModel", "savedColor", "[I", true)
  | 48 => ("NonogramSolverModel", "type", "[I", true)
  | 49 => ("NonogramSolverModel", "length", "[I", true)
  | _ => ("NonogramSolverModel", "item", "[I", true)
def tyX10 : Nat → FieldType := fun k => match k with
  | 0 => .int
  | 1 => .int
  | 2 => .int
  | 3 => .int
  | 4 => .array .int
  | 5 => .array .int
  | 6 => .array .int
  | 7 => .array .int
  | 8 => .int
  | 9 => .array .int
  | 10 => .array .int
  | 11 => .array .int
  | 12 => .array .int
  | 13 => .int
  | 14 => .int
  | 15 => .array .int
  | 16 => .array .int
  | 17 => .int
  | 18 => .int
  | 19 => .int
  | 20 => .int
  | 21 => .int
  | 22 => .int
  | 23 => .int
  | 24 => .int
  | 25 => .int
  | 26 => .array .int
  | 27 => .int
  | 28 => .int
  | 29 => .int
  | 30 => .boolean
  | 31 => .array .int
  | 32 => .array .int
  | 33 => .array .int
  | 34 => .array .int
  | 35 => .int
  | 36 => .int
  | 37 => .array .int
  | 38 => .array .int
  | 39 => .array .int
  | 40 => .boolean
  | 41 => .int
  | 42 => .int
  | 43 => .int
  | 44 => .array .int
  | 45 => .array .int
  | 46 => .array .int
  | 47 => .array .int
  | 48 => .array .int
  | 49 => .array .int
  | _ => .array .int
abbrev wsX100 : List Cond := u_ws RX10 TX10 51
theorem nmX10 : ∀ a, a < 51 → ∀ b, b < 51 → a ≠ b → (TX10 a).2.1 ≠ (TX10 b).2.1 := by decide +kernel
theorem tyX10_ok : ∀ k, k < 51 → parseFieldDescriptor (TX10 k).2.2.1 = some (tyX10 k) := by decide +kernel
abbrev cX10_init : ByteArray := prog_12_method_1_code
def yX10_init : MethodName := ⟨RX10, "<init>", "()V"⟩
abbrev cX10_within : ByteArray := prog_12_method_2_code
def yX10_within : MethodName := ⟨RX10, "within", "(III)Z"⟩
abbrev cX10_open : ByteArray := prog_12_method_3_code
def yX10_open : MethodName := ⟨RX10, "open", "()V"⟩
abbrev cX10_lines : ByteArray := prog_12_method_4_code
def yX10_lines : MethodName := ⟨RX10, "lines", "()I"⟩
abbrev cX10_isLine : ByteArray := prog_12_method_5_code
def yX10_isLine : MethodName := ⟨RX10, "isLine", "(I)Z"⟩
abbrev cX10_isCell : ByteArray := prog_12_method_6_code
def yX10_isCell : MethodName := ⟨RX10, "isCell", "(II)Z"⟩
abbrev cX10_isColor : ByteArray := prog_12_method_7_code
def yX10_isColor : MethodName := ⟨RX10, "isColor", "(I)Z"⟩
abbrev cX10_size : ByteArray := prog_12_method_8_code
def yX10_size : MethodName := ⟨RX10, "size", "(I)I"⟩
abbrev cX10_cellOf : ByteArray := prog_12_method_9_code
def yX10_cellOf : MethodName := ⟨RX10, "cellOf", "(II)I"⟩
abbrev cX10_ones : ByteArray := prog_12_method_10_code
def yX10_ones : MethodName := ⟨RX10, "ones", "(I)I"⟩
abbrev cX10_isDecided : ByteArray := prog_12_method_11_code
def yX10_isDecided : MethodName := ⟨RX10, "isDecided", "(I)Z"⟩
abbrev cX10_colorAt : ByteArray := prog_12_method_12_code
def yX10_colorAt : MethodName := ⟨RX10, "colorAt", "(I)I"⟩
abbrev cX10_move : ByteArray := prog_12_method_13_code
def yX10_move : MethodName := ⟨RX10, "move", "(II)V"⟩
abbrev cX10_keep : ByteArray := prog_12_method_14_code
def yX10_keep : MethodName := ⟨RX10, "keep", "()V"⟩
abbrev cX10_undo : ByteArray := prog_12_method_15_code
def yX10_undo : MethodName := ⟨RX10, "undo", "()I"⟩
abbrev cX10_undoCount : ByteArray := prog_12_method_16_code
def yX10_undoCount : MethodName := ⟨RX10, "undoCount", "()I"⟩
abbrev cX10_reset : ByteArray := prog_12_method_17_code
def yX10_reset : MethodName := ⟨RX10, "reset", "(III)I"⟩
abbrev cX10_rowCount : ByteArray := prog_12_method_18_code
def yX10_rowCount : MethodName := ⟨RX10, "rowCount", "()I"⟩
abbrev cX10_columnCount : ByteArray := prog_12_method_19_code
def yX10_columnCount : MethodName := ⟨RX10, "columnCount", "()I"⟩
abbrev cX10_colorCount : ByteArray := prog_12_method_20_code
def yX10_colorCount : MethodName := ⟨RX10, "colorCount", "()I"⟩
abbrev cX10_push : ByteArray := prog_12_method_21_code
def yX10_push : MethodName := ⟨RX10, "push", "(III)V"⟩
abbrev cX10_addRun : ByteArray := prog_12_method_22_code
def yX10_addRun : MethodName := ⟨RX10, "addRun", "(III)I"⟩
abbrev cX10_clearClue : ByteArray := prog_12_method_23_code
def yX10_clearClue : MethodName := ⟨RX10, "clearClue", "(I)I"⟩
abbrev cX10_runCount : ByteArray := prog_12_method_24_code
def yX10_runCount : MethodName := ⟨RX10, "runCount", "(I)I"⟩
abbrev cX10_isRun : ByteArray := prog_12_method_25_code
def yX10_isRun : MethodName := ⟨RX10, "isRun", "(II)Z"⟩
abbrev cX10_runLength : ByteArray := prog_12_method_26_code
def yX10_runLength : MethodName := ⟨RX10, "runLength", "(II)I"⟩
abbrev cX10_runColor : ByteArray := prog_12_method_27_code
def yX10_runColor : MethodName := ⟨RX10, "runColor", "(II)I"⟩
abbrev cX10_minimumLength : ByteArray := prog_12_method_28_code
def yX10_minimumLength : MethodName := ⟨RX10, "minimumLength", "(I)I"⟩
abbrev cX10_candidates : ByteArray := prog_12_method_29_code
def yX10_candidates : MethodName := ⟨RX10, "candidates", "(II)I"⟩
abbrev cX10_color : ByteArray := prog_12_method_30_code
def yX10_color : MethodName := ⟨RX10, "color", "(II)I"⟩
abbrev cX10_keepOnly : ByteArray := prog_12_method_31_code
def yX10_keepOnly : MethodName := ⟨RX10, "keepOnly", "(III)I"⟩
abbrev cX10_eliminate : ByteArray := prog_12_method_32_code
def yX10_eliminate : MethodName := ⟨RX10, "eliminate", "(III)I"⟩
abbrev cX10_decidedIn : ByteArray := prog_12_method_33_code
def yX10_decidedIn : MethodName := ⟨RX10, "decidedIn", "(I)I"⟩
abbrev cX10_decidedCount : ByteArray := prog_12_method_34_code
def yX10_decidedCount : MethodName := ⟨RX10, "decidedCount", "()I"⟩
abbrev cX10_averageCandidates : ByteArray := prog_12_method_35_code
def yX10_averageCandidates : MethodName := ⟨RX10, "averageCandidates", "(I)I"⟩
abbrev cX10_assign : ByteArray := prog_12_method_36_code
def yX10_assign : MethodName := ⟨RX10, "assign", "(III)V"⟩
abbrev cX10_assignAll : ByteArray := prog_12_method_37_code
def yX10_assignAll : MethodName := ⟨RX10, "assignAll", "(II)V"⟩
abbrev cX10_assignmentCount : ByteArray := prog_12_method_38_code
def yX10_assignmentCount : MethodName := ⟨RX10, "assignmentCount", "(I)I"⟩
abbrev cX10_assignmentColor : ByteArray := prog_12_method_39_code
def yX10_assignmentColor : MethodName := ⟨RX10, "assignmentColor", "(III)I"⟩
abbrev cX10_solve : ByteArray := prog_12_method_40_code
def yX10_solve : MethodName := ⟨RX10, "solve", "(II)I"⟩
abbrev cX10_spread : ByteArray := prog_12_method_41_code
def yX10_spread : MethodName := ⟨RX10, "spread", "(I)I"⟩
abbrev cX10_copy : ByteArray := prog_12_method_42_code
def yX10_copy : MethodName := ⟨RX10, "copy", "(II)V"⟩
abbrev cX10_contradiction : ByteArray := prog_12_method_43_code
def yX10_contradiction : MethodName := ⟨RX10, "contradiction", "(II)I"⟩
abbrev cX10_takeOver : ByteArray := prog_12_method_44_code
def yX10_takeOver : MethodName := ⟨RX10, "takeOver", "(I)I"⟩
abbrev cX10_solveLine : ByteArray := prog_12_method_45_code
def yX10_solveLine : MethodName := ⟨RX10, "solveLine", "(I)I"⟩
abbrev cX10_propagate : ByteArray := prog_12_method_46_code
def yX10_propagate : MethodName := ⟨RX10, "propagate", "()I"⟩
abbrev cX10_passCount : ByteArray := prog_12_method_47_code
def yX10_passCount : MethodName := ⟨RX10, "passCount", "()I"⟩
abbrev cX10_fails : ByteArray := prog_12_method_48_code
def yX10_fails : MethodName := ⟨RX10, "fails", "(III)Z"⟩
abbrev cX10_probe : ByteArray := prog_12_method_49_code
def yX10_probe : MethodName := ⟨RX10, "probe", "(III)I"⟩
abbrev cX10_probeRound : ByteArray := prog_12_method_50_code
def yX10_probeRound : MethodName := ⟨RX10, "probeRound", "()Z"⟩
abbrev cX10_probeAll : ByteArray := prog_12_method_51_code
def yX10_probeAll : MethodName := ⟨RX10, "probeAll", "()I"⟩
abbrev cX10_contradictionLine : ByteArray := prog_12_method_52_code
def yX10_contradictionLine : MethodName := ⟨RX10, "contradictionLine", "()I"⟩
abbrev cX10_contradictionDepth : ByteArray := prog_12_method_53_code
def yX10_contradictionDepth : MethodName := ⟨RX10, "contradictionDepth", "()I"⟩
abbrev cX10_setRule : ByteArray := prog_12_method_54_code
def yX10_setRule : MethodName := ⟨RX10, "setRule", "(I)I"⟩
abbrev cX10_rank : ByteArray := prog_12_method_55_code
def yX10_rank : MethodName := ⟨RX10, "rank", "(II)I"⟩
abbrev cX10_select : ByteArray := prog_12_method_56_code
def yX10_select : MethodName := ⟨RX10, "select", "(I)I"⟩
abbrev cX10_visit : ByteArray := prog_12_method_57_code
def yX10_visit : MethodName := ⟨RX10, "visit", "(I)V"⟩
abbrev cX10_search : ByteArray := prog_12_method_58_code
def yX10_search : MethodName := ⟨RX10, "search", "(I)Z"⟩
abbrev cX10_countSolutions : ByteArray := prog_12_method_59_code
def yX10_countSolutions : MethodName := ⟨RX10, "countSolutions", "(I)I"⟩
abbrev cX10_solutionColor : ByteArray := prog_12_method_60_code
def yX10_solutionColor : MethodName := ⟨RX10, "solutionColor", "(III)I"⟩
abbrev cX10_searchNodes : ByteArray := prog_12_method_61_code
def yX10_searchNodes : MethodName := ⟨RX10, "searchNodes", "(I)I"⟩
abbrev cX10_isUnique : ByteArray := prog_12_method_62_code
def yX10_isUnique : MethodName := ⟨RX10, "isUnique", "()I"⟩
abbrev cX10_blocks : ByteArray := prog_12_method_63_code
def yX10_blocks : MethodName := ⟨RX10, "blocks", "(I)I"⟩
abbrev cX10_firstMismatch : ByteArray := prog_12_method_64_code
def yX10_firstMismatch : MethodName := ⟨RX10, "firstMismatch", "()I"⟩
abbrev cX10_take : ByteArray := prog_12_method_65_code
def yX10_take : MethodName := ⟨RX10, "take", "()I"⟩
abbrev cX10_takeClues : ByteArray := prog_12_method_66_code
def yX10_takeClues : MethodName := ⟨RX10, "takeClues", "()I"⟩
abbrev cX10_drawPicture : ByteArray := prog_12_method_67_code
def yX10_drawPicture : MethodName := ⟨RX10, "drawPicture", "(I)I"⟩
abbrev cX10_clearCells : ByteArray := prog_12_method_68_code
def yX10_clearCells : MethodName := ⟨RX10, "clearCells", "()I"⟩
abbrev cX10_appendText : ByteArray := prog_12_method_69_code
def yX10_appendText : MethodName := ⟨RX10, "appendText", "(I)I"⟩
abbrev cX10_read : ByteArray := prog_12_method_70_code
def yX10_read : MethodName := ⟨RX10, "read", "(I)I"⟩
abbrev cX10_parseClues : ByteArray := prog_12_method_71_code
def yX10_parseClues : MethodName := ⟨RX10, "parseClues", "()I"⟩
abbrev cX10_say : ByteArray := prog_12_method_72_code
def yX10_say : MethodName := ⟨RX10, "say", "(I)V"⟩
abbrev cX10_formatClues : ByteArray := prog_12_method_73_code
def yX10_formatClues : MethodName := ⟨RX10, "formatClues", "()I"⟩
abbrev cX10_formattedCharacter : ByteArray := prog_12_method_74_code
def yX10_formattedCharacter : MethodName := ⟨RX10, "formattedCharacter", "(I)I"⟩
abbrev cX10_save : ByteArray := prog_12_method_75_code
def yX10_save : MethodName := ⟨RX10, "save", "()I"⟩
abbrev cX10_restore : ByteArray := prog_12_method_76_code
def yX10_restore : MethodName := ⟨RX10, "restore", "()I"⟩
abbrev cX10_isTable : ByteArray := prog_12_method_77_code
def yX10_isTable : MethodName := ⟨RX10, "isTable", "(I)Z"⟩
abbrev cX10_createTable : ByteArray := prog_12_method_78_code
def yX10_createTable : MethodName := ⟨RX10, "createTable", "(III)I"⟩
abbrev cX10_lay : ByteArray := prog_12_method_79_code
def yX10_lay : MethodName := ⟨RX10, "lay", "(III)V"⟩
abbrev cX10_writeTable : ByteArray := prog_12_method_80_code
def yX10_writeTable : MethodName := ⟨RX10, "writeTable", "(III)I"⟩
abbrev cX10_readTable : ByteArray := prog_12_method_81_code
def yX10_readTable : MethodName := ⟨RX10, "readTable", "(II)I"⟩
abbrev cX10_cellAt : ByteArray := prog_12_method_82_code
def yX10_cellAt : MethodName := ⟨RX10, "cellAt", "(I)I"⟩
abbrev cX10_exportCandidates : ByteArray := prog_12_method_83_code
def yX10_exportCandidates : MethodName := ⟨RX10, "exportCandidates", "(I)I"⟩
abbrev cX10_compareTable : ByteArray := prog_12_method_84_code
def yX10_compareTable : MethodName := ⟨RX10, "compareTable", "(I)I"⟩
def RJ6 : String := "java/lang/Integer"
abbrev cJ6_bitCount_0f7a4 : ByteArray := prog_13_method_49_code
def yJ6_bitCount_0f7a4 : MethodName := ⟨RJ6, "bitCount", "(I)I"⟩
def RJ9 : String := "java/lang/Math"
abbrev cJ9_max_7cf53 : ByteArray := prog_14_method_65_code
def yJ9_max_7cf53 : MethodName := ⟨RJ9, "max", "(II)I"⟩
abbrev cJ9_min_7cf53 : ByteArray := prog_14_method_69_code
def yJ9_min_7cf53 : MethodName := ⟨RJ9, "min", "(II)I"⟩
def RJ10 : String := "java/lang/System"
def RJ7 : String := "java/util/Arrays"
abbrev cJ7_fill_53178 : ByteArray := prog_16_method_103_code
def yJ7_fill_53178 : MethodName := ⟨RJ7, "fill", "([II)V"⟩
def RL : String := "NonogramSolverLaw"
abbrev cL_law : ByteArray := code
def yL_law : MethodName := ⟨RL, "law", "([I)Z"⟩
abbrev vwCl : List vw_C := [(RX0, TX0, 3), (RX1, TX1, 5), (RX2, TX2, 3), (RX3, TX3, 12), (RX4, TX4, 4), (RX5, TX5, 4), (RX6, TX6, 10), (RX7, TX7, 3), (RX8, TX8, 2), (RX9, TX9, 16), (RX10, TX10, 51)]
end
section
theorem dX0_init_0 : decode cX0_init 0 = .ok (.aload_n 0, 1) := by decide +kernel
theorem dX0_init_1 : decode cX0_init 1 = .ok (.invokespecial 3, 3) := by decide +kernel
theorem dX0_init_4 : decode cX0_init 4 = .ok (.aload_n 0, 1) := by decide +kernel
theorem dX0_init_5 : decode cX0_init 5 = .ok (.bipush 16, 2) := by decide +kernel
theorem dX0_init_7 : decode cX0_init 7 = .ok (.newarray .int, 2) := by decide +kernel
theorem dX0_init_9 : decode cX0_init 9 = .ok (.putfield 9, 3) := by decide +kernel
theorem dX0_init_12 : decode cX0_init 12 = .ok (.aload_n 0, 1) := by decide +kernel
theorem dX0_init_13 : decode cX0_init 13 = .ok (.sipush 128, 3) := by decide +kernel
theorem dX0_init_16 : decode cX0_init 16 = .ok (.newarray .int, 2) := by decide +kernel
theorem dX0_init_18 : decode cX0_init 18 = .ok (.putfield 15, 3) := by decide +kernel
theorem dX0_init_21 : decode cX0_init 21 = .ok (.aload_n 0, 1) := by decide +kernel
theorem dX0_init_22 : decode cX0_init 22 = .ok (.sipush 128, 3) := by decide +kernel
theorem dX0_init_25 : decode cX0_init 25 = .ok (.newarray .int, 2) := by decide +kernel
theorem dX0_init_27 : decode cX0_init 27 = .ok (.putfield 18, 3) := by decide +kernel
theorem dX0_init_30 : decode cX0_init 30 = .ok (.return_, 1) := by decide +kernel
theorem dX0_runsOf_0 : decode cX0_runsOf 0 = .ok (.aload_n 0, 1) := by decide +kernel
theorem dX0_runsOf_1 : decode cX0_runsOf 1 = .ok (.getfield 9, 3) := by decide +kernel
theorem dX0_runsOf_4 : decode cX0_runsOf 4 = .ok (.iload_n 1, 1) := by decide +kernel
theorem dX0_runsOf_5 : decode cX0_runsOf 5 = .ok (.iaload, 1) := by decide +kernel
theorem dX0_runsOf_6 : decode cX0_runsOf 6 = .ok (.ireturn, 1) := by decide +kernel
theorem dX0_isFull_0 : decode cX0_isFull 0 = .ok (.aload_n 0, 1) := by decide +kernel
theorem dX0_isFull_1 : decode cX0_isFull 1 = .ok (.getfield 9, 3) := by decide +kernel
theorem dX0_isFull_4 : decode cX0_isFull 4 = .ok (.iload_n 1, 1) := by decide +kernel
theorem dX0_isFull_5 : decode cX0_isFull 5 = .ok (.iaload, 1) := by decide +kernel
theorem dX0_isFull_6 : decode cX0_isFull 6 = .ok (.bipush 8, 2) := by decide +kernel
theorem dX0_isFull_8 : decode cX0_isFull 8 = .ok (.if_icmp .lt 7, 3) := by decide +kernel
theorem dX0_isFull_11 : decode cX0_isFull 11 = .ok (.iconst 1, 1) := by decide +kernel
theorem dX0_isFull_12 : decode cX0_isFull 12 = .ok (.goto 4, 3) := by decide +kernel
theorem dX0_isFull_15 : decode cX0_isFull 15 = .ok (.iconst 0, 1) := by decide +kernel
theorem dX0_isFull_16 : decode cX0_isFull 16 = .ok (.ireturn, 1) := by decide +kernel
theorem dX0_lengthOf_0 : decode cX0_lengthOf 0 = .ok (.aload_n 0, 1) := by decide +kernel
theorem dX0_lengthOf_1 : decode cX0_lengthOf 1 = .ok (.getfield 15, 3) := by decide +kernel
theorem dX0_lengthOf_4 : decode cX0_lengthOf 4 = .ok (.iload_n 1, 1) := by decide +kernel
theorem dX0_lengthOf_5 : decode cX0_lengthOf 5 = .ok (.bipush 8, 2) := by decide +kernel
theorem dX0_lengthOf_7 : decode cX0_lengthOf 7 = .ok (.imul, 1) := by decide +kernel
theorem dX0_lengthOf_8 : decode cX0_lengthOf 8 = .ok (.iload_n 2, 1) := by decide +kernel
theorem dX0_lengthOf_9 : decode cX0_lengthOf 9 = .ok (.iadd, 1) := by decide +kernel
theorem dX0_lengthOf_10 : decode cX0_lengthOf 10 = .ok (.iaload, 1) := by decide +kernel
theorem dX0_lengthOf_11 : decode cX0_lengthOf 11 = .ok (.ireturn, 1) := by decide +kernel
theorem dX0_colorOf_0 : decode cX0_colorOf 0 = .ok (.aload_n 0, 1) := by decide +kernel
theorem dX0_colorOf_1 : decode cX0_colorOf 1 = .ok (.getfield 18, 3) := by decide +kernel
theorem dX0_colorOf_4 : decode cX0_colorOf 4 = .ok (.iload_n 1, 1) := by decide +kernel
theorem dX0_colorOf_5 : decode cX0_colorOf 5 = .ok (.bipush 8, 2) := by decide +kernel
theorem dX0_colorOf_7 : decode cX0_colorOf 7 = .ok (.imul, 1) := by decide +kernel
theorem dX0_colorOf_8 : decode cX0_colorOf 8 = .ok (.iload_n 2, 1) := by decide +kernel
theorem dX0_colorOf_9 : decode cX0_colorOf 9 = .ok (.iadd, 1) := by decide +kernel
theorem dX0_colorOf_10 : decode cX0_colorOf 10 = .ok (.iaload, 1) := by decide +kernel
theorem dX0_colorOf_11 : decode cX0_colorOf 11 = .ok (.ireturn, 1) := by decide +kernel
theorem dX0_needsGapBehind_0 : decode cX0_needsGapBehind 0 = .ok (.iload_n 1, 1) := by decide +kernel
theorem dX0_needsGapBehind_1 : decode cX0_needsGapBehind 1 = .ok (.bipush 8, 2) := by decide +kernel
theorem dX0_needsGapBehind_3 : decode cX0_needsGapBehind 3 = .ok (.imul, 1) := by decide +kernel
theorem dX0_needsGapBehind_4 : decode cX0_needsGapBehind 4 = .ok (.iload_n 2, 1) := by decide +kernel
theorem dX0_needsGapBehind_5 : decode cX0_needsGapBehind 5 = .ok (.iadd, 1) := by decide +kernel
theorem dX0_needsGapBehind_6 : decode cX0_needsGapBehind 6 = .ok (.istore_n 3, 1) := by decide +kernel
theorem dX0_needsGapBehind_7 : decode cX0_needsGapBehind 7 = .ok (.iload_n 2, 1) := by decide +kernel
theorem dX0_needsGapBehind_8 : decode cX0_needsGapBehind 8 = .ok (.iconst 1, 1) := by decide +kernel
theorem dX0_needsGapBehind_9 : decode cX0_needsGapBehind 9 = .ok (.iadd, 1) := by decide +kernel
theorem dX0_needsGapBehind_10 : decode cX0_needsGapBehind 10 = .ok (.aload_n 0, 1) := by decide +kernel
theorem dX0_needsGapBehind_11 : decode cX0_needsGapBehind 11 = .ok (.getfield 9, 3) := by decide +kernel
theorem dX0_needsGapBehind_14 : decode cX0_needsGapBehind 14 = .ok (.iload_n 1, 1) := by decide +kernel
theorem dX0_needsGapBehind_15 : decode cX0_needsGapBehind 15 = .ok (.iaload, 1) := by decide +kernel
theorem dX0_needsGapBehind_16 : decode cX0_needsGapBehind 16 = .ok (.if_icmp .ge 24, 3) := by decide +kernel
theorem dX0_needsGapBehind_19 : decode cX0_needsGapBehind 19 = .ok (.aload_n 0, 1) := by decide +kernel
theorem dX0_needsGapBehind_20 : decode cX0_needsGapBehind 20 = .ok (.getfield 18, 3) := by decide +kernel
theorem dX0_needsGapBehind_23 : decode cX0_needsGapBehind 23 = .ok (.iload_n 3, 1) := by decide +kernel
theorem dX0_needsGapBehind_24 : decode cX0_needsGapBehind 24 = .ok (.iaload, 1) := by decide +kernel
theorem dX0_needsGapBehind_25 : decode cX0_needsGapBehind 25 = .ok (.aload_n 0, 1) := by decide +kernel
theorem dX0_needsGapBehind_26 : decode cX0_needsGapBehind 26 = .ok (.getfield 18, 3) := by decide +kernel
theorem dX0_needsGapBehind_29 : decode cX0_needsGapBehind 29 = .ok (.iload_n 3, 1) := by decide +kernel
theorem dX0_needsGapBehind_30 : decode cX0_needsGapBehind 30 = .ok (.iconst 1, 1) := by decide +kernel
theorem dX0_needsGapBehind_31 : decode cX0_needsGapBehind 31 = .ok (.iadd, 1) := by decide +kernel
theorem dX0_needsGapBehind_32 : decode cX0_needsGapBehind 32 = .ok (.iaload, 1) := by decide +kernel
theorem dX0_needsGapBehind_33 : decode cX0_needsGapBehind 33 = .ok (.if_icmp .ne 7, 3) := by decide +kernel
theorem dX0_needsGapBehind_36 : decode cX0_needsGapBehind 36 = .ok (.iconst 1, 1) := by decide +kernel
theorem dX0_needsGapBehind_37 : decode cX0_needsGapBehind 37 = .ok (.goto 4, 3) := by decide +kernel
theorem dX0_needsGapBehind_40 : decode cX0_needsGapBehind 40 = .ok (.iconst 0, 1) := by decide +kernel
theorem dX0_needsGapBehind_41 : decode cX0_needsGapBehind 41 = .ok (.ireturn, 1) := by decide +kernel
theorem dX0_cellsNeeded_0 : decode cX0_cellsNeeded 0 = .ok (.iconst 0, 1) := by decide +kernel
theorem dX0_cellsNeeded_1 : decode cX0_cellsNeeded 1 = .ok (.istore_n 2, 1) := by decide +kernel
theorem dX0_cellsNeeded_2 : decode cX0_cellsNeeded 2 = .ok (.iconst 0, 1) := by decide +kernel
theorem dX0_cellsNeeded_3 : decode cX0_cellsNeeded 3 = .ok (.istore_n 3, 1) := by decide +kernel
theorem dX0_cellsNeeded_4 : decode cX0_cellsNeeded 4 = .ok (.iload_n 3, 1) := by decide +kernel
theorem dX0_cellsNeeded_5 : decode cX0_cellsNeeded 5 = .ok (.aload_n 0, 1) := by decide +kernel
theorem dX0_cellsNeeded_6 : decode cX0_cellsNeeded 6 = .ok (.getfield 9, 3) := by decide +kernel
theorem dX0_cellsNeeded_9 : decode cX0_cellsNeeded 9 = .ok (.iload_n 1, 1) := by decide +kernel
theorem dX0_cellsNeeded_10 : decode cX0_cellsNeeded 10 = .ok (.iaload, 1) := by decide +kernel
theorem dX0_cellsNeeded_11 : decode cX0_cellsNeeded 11 = .ok (.if_icmp .ge 33, 3) := by decide +kernel
theorem dX0_cellsNeeded_14 : decode cX0_cellsNeeded 14 = .ok (.iload_n 2, 1) := by decide +kernel
theorem dX0_cellsNeeded_15 : decode cX0_cellsNeeded 15 = .ok (.aload_n 0, 1) := by decide +kernel
theorem dX0_cellsNeeded_16 : decode cX0_cellsNeeded 16 = .ok (.iload_n 1, 1) := by decide +kernel
theorem dX0_cellsNeeded_17 : decode cX0_cellsNeeded 17 = .ok (.iload_n 3, 1) := by decide +kernel
theorem dX0_cellsNeeded_18 : decode cX0_cellsNeeded 18 = .ok (.invokevirtual 21, 3) := by decide +kernel
theorem dX0_cellsNeeded_21 : decode cX0_cellsNeeded 21 = .ok (.aload_n 0, 1) := by decide +kernel
theorem dX0_cellsNeeded_22 : decode cX0_cellsNeeded 22 = .ok (.iload_n 1, 1) := by decide +kernel
theorem dX0_cellsNeeded_23 : decode cX0_cellsNeeded 23 = .ok (.iload_n 3, 1) := by decide +kernel
theorem dX0_cellsNeeded_24 : decode cX0_cellsNeeded 24 = .ok (.invokevirtual 25, 3) := by decide +kernel
theorem dX0_cellsNeeded_27 : decode cX0_cellsNeeded 27 = .ok (.ifCond .eq 7, 3) := by decide +kernel
theorem dX0_cellsNeeded_30 : decode cX0_cellsNeeded 30 = .ok (.iconst 1, 1) := by decide +kernel
theorem dX0_cellsNeeded_31 : decode cX0_cellsNeeded 31 = .ok (.goto 4, 3) := by decide +kernel
theorem dX0_cellsNeeded_34 : decode cX0_cellsNeeded 34 = .ok (.iconst 0, 1) := by decide +kernel
theorem dX0_cellsNeeded_35 : decode cX0_cellsNeeded 35 = .ok (.iadd, 1) := by decide +kernel
theorem dX0_cellsNeeded_36 : decode cX0_cellsNeeded 36 = .ok (.iadd, 1) := by decide +kernel
theorem dX0_cellsNeeded_37 : decode cX0_cellsNeeded 37 = .ok (.istore_n 2, 1) := by decide +kernel
theorem dX0_cellsNeeded_38 : decode cX0_cellsNeeded 38 = .ok (.iinc 3 1, 3) := by decide +kernel
theorem dX0_cellsNeeded_41 : decode cX0_cellsNeeded 41 = .ok (.goto (-37), 3) := by decide +kernel
theorem dX0_cellsNeeded_44 : decode cX0_cellsNeeded 44 = .ok (.iload_n 2, 1) := by decide +kernel
theorem dX0_cellsNeeded_45 : decode cX0_cellsNeeded 45 = .ok (.ireturn, 1) := by decide +kernel
theorem dX0_runTotal_0 : decode cX0_runTotal 0 = .ok (.iconst 0, 1) := by decide +kernel
theorem dX0_runTotal_1 : decode cX0_runTotal 1 = .ok (.istore_n 1, 1) := by decide +kernel
theorem dX0_runTotal_2 : decode cX0_runTotal 2 = .ok (.iconst 0, 1) := by decide +kernel
theorem dX0_runTotal_3 : decode cX0_runTotal 3 = .ok (.istore_n 2, 1) := by decide +kernel
theorem dX0_runTotal_4 : decode cX0_runTotal 4 = .ok (.iload_n 2, 1) := by decide +kernel
theorem dX0_runTotal_5 : decode cX0_runTotal 5 = .ok (.bipush 16, 2) := by decide +kernel
theorem dX0_runTotal_7 : decode cX0_runTotal 7 = .ok (.if_icmp .ge 18, 3) := by decide +kernel
theorem dX0_runTotal_10 : decode cX0_runTotal 10 = .ok (.iload_n 1, 1) := by decide +kernel
theorem dX0_runTotal_11 : decode cX0_runTotal 11 = .ok (.aload_n 0, 1) := by decide +kernel
theorem dX0_runTotal_12 : decode cX0_runTotal 12 = .ok (.getfield 9, 3) := by decide +kernel
theorem dX0_runTotal_15 : decode cX0_runTotal 15 = .ok (.iload_n 2, 1) := by decide +kernel
theorem dX0_runTotal_16 : decode cX0_runTotal 16 = .ok (.iaload, 1) := by decide +kernel
theorem dX0_runTotal_17 : decode cX0_runTotal 17 = .ok (.iadd, 1) := by decide +kernel
theorem dX0_runTotal_18 : decode cX0_runTotal 18 = .ok (.istore_n 1, 1) := by decide +kernel
theorem dX0_runTotal_19 : decode cX0_runTotal 19 = .ok (.iinc 2 1, 3) := by decide +kernel
theorem dX0_runTotal_22 : decode cX0_runTotal 22 = .ok (.goto (-18), 3) := by decide +kernel
theorem dX0_runTotal_25 : decode cX0_runTotal 25 = .ok (.iload_n 1, 1) := by decide +kernel
theorem dX0_runTotal_26 : decode cX0_runTotal 26 = .ok (.ireturn, 1) := by decide +kernel
theorem dX0_append_0 : decode cX0_append 0 = .ok (.aload_n 0, 1) := by decide +kernel
theorem dX0_append_1 : decode cX0_append 1 = .ok (.iload_n 1, 1) := by decide +kernel
theorem dX0_append_2 : decode cX0_append 2 = .ok (.invokevirtual 29, 3) := by decide +kernel
theorem dX0_append_5 : decode cX0_append 5 = .ok (.ifCond .eq 4, 3) := by decide +kernel
theorem dX0_append_8 : decode cX0_append 8 = .ok (.return_, 1) := by decide +kernel
theorem dX0_append_9 : decode cX0_append 9 = .ok (.iload_n 1, 1) := by decide +kernel
theorem dX0_append_10 : decode cX0_append 10 = .ok (.bipush 8, 2) := by decide +kernel
theorem dX0_append_12 : decode cX0_append 12 = .ok (.imul, 1) := by decide +kernel
theorem dX0_append_13 : decode cX0_append 13 = .ok (.aload_n 0, 1) := by decide +kernel
theorem dX0_append_14 : decode cX0_append 14 = .ok (.getfield 9, 3) := by decide +kernel
theorem dX0_append_17 : decode cX0_append 17 = .ok (.iload_n 1, 1) := by decide +kernel
theorem dX0_append_18 : decode cX0_append 18 = .ok (.iaload, 1) := by decide +kernel
theorem dX0_append_19 : decode cX0_append 19 = .ok (.iadd, 1) := by decide +kernel
theorem dX0_append_20 : decode cX0_append 20 = .ok (.istore 4, 2) := by decide +kernel
theorem dX0_append_22 : decode cX0_append 22 = .ok (.aload_n 0, 1) := by decide +kernel
theorem dX0_append_23 : decode cX0_append 23 = .ok (.getfield 15, 3) := by decide +kernel
theorem dX0_append_26 : decode cX0_append 26 = .ok (.iload 4, 2) := by decide +kernel
theorem dX0_append_28 : decode cX0_append 28 = .ok (.iload_n 2, 1) := by decide +kernel
theorem dX0_append_29 : decode cX0_append 29 = .ok (.iastore, 1) := by decide +kernel
theorem dX0_append_30 : decode cX0_append 30 = .ok (.aload_n 0, 1) := by decide +kernel
theorem dX0_append_31 : decode cX0_append 31 = .ok (.getfield 18, 3) := by decide +kernel
theorem dX0_append_34 : decode cX0_append 34 = .ok (.iload 4, 2) := by decide +kernel
theorem dX0_append_36 : decode cX0_append 36 = .ok (.iload_n 3, 1) := by decide +kernel
theorem dX0_append_37 : decode cX0_append 37 = .ok (.iastore, 1) := by decide +kernel
theorem dX0_append_38 : decode cX0_append 38 = .ok (.aload_n 0, 1) := by decide +kernel
theorem dX0_append_39 : decode cX0_append 39 = .ok (.getfield 9, 3) := by decide +kernel
theorem dX0_append_42 : decode cX0_append 42 = .ok (.iload_n 1, 1) := by decide +kernel
theorem dX0_append_43 : decode cX0_append 43 = .ok (.dup2, 1) := by decide +kernel
theorem dX0_append_44 : decode cX0_append 44 = .ok (.iaload, 1) := by decide +kernel
theorem dX0_append_45 : decode cX0_append 45 = .ok (.iconst 1, 1) := by decide +kernel
theorem dX0_append_46 : decode cX0_append 46 = .ok (.iadd, 1) := by decide +kernel
theorem dX0_append_47 : decode cX0_append 47 = .ok (.iastore, 1) := by decide +kernel
theorem dX0_append_48 : decode cX0_append 48 = .ok (.return_, 1) := by decide +kernel
theorem dX0_lengthenLast_0 : decode cX0_lengthenLast 0 = .ok (.aload_n 0, 1) := by decide +kernel
theorem dX0_lengthenLast_1 : decode cX0_lengthenLast 1 = .ok (.getfield 9, 3) := by decide +kernel
theorem dX0_lengthenLast_4 : decode cX0_lengthenLast 4 = .ok (.iload_n 1, 1) := by decide +kernel
theorem dX0_lengthenLast_5 : decode cX0_lengthenLast 5 = .ok (.iaload, 1) := by decide +kernel
theorem dX0_lengthenLast_6 : decode cX0_lengthenLast 6 = .ok (.ifCond .le 25, 3) := by decide +kernel
theorem dX0_lengthenLast_9 : decode cX0_lengthenLast 9 = .ok (.aload_n 0, 1) := by decide +kernel
theorem dX0_lengthenLast_10 : decode cX0_lengthenLast 10 = .ok (.getfield 15, 3) := by decide +kernel
theorem dX0_lengthenLast_13 : decode cX0_lengthenLast 13 = .ok (.iload_n 1, 1) := by decide +kernel
theorem dX0_lengthenLast_14 : decode cX0_lengthenLast 14 = .ok (.bipush 8, 2) := by decide +kernel
theorem dX0_lengthenLast_16 : decode cX0_lengthenLast 16 = .ok (.imul, 1) := by decide +kernel
theorem dX0_lengthenLast_17 : decode cX0_lengthenLast 17 = .ok (.aload_n 0, 1) := by decide +kernel
theorem dX0_lengthenLast_18 : decode cX0_lengthenLast 18 = .ok (.getfield 9, 3) := by decide +kernel
theorem dX0_lengthenLast_21 : decode cX0_lengthenLast 21 = .ok (.iload_n 1, 1) := by decide +kernel
theorem dX0_lengthenLast_22 : decode cX0_lengthenLast 22 = .ok (.iaload, 1) := by decide +kernel
theorem dX0_lengthenLast_23 : decode cX0_lengthenLast 23 = .ok (.iadd, 1) := by decide +kernel
theorem dX0_lengthenLast_24 : decode cX0_lengthenLast 24 = .ok (.iconst 1, 1) := by decide +kernel
theorem dX0_lengthenLast_25 : decode cX0_lengthenLast 25 = .ok (.isub, 1) := by decide +kernel
theorem dX0_lengthenLast_26 : decode cX0_lengthenLast 26 = .ok (.dup2, 1) := by decide +kernel
theorem dX0_lengthenLast_27 : decode cX0_lengthenLast 27 = .ok (.iaload, 1) := by decide +kernel
theorem dX0_lengthenLast_28 : decode cX0_lengthenLast 28 = .ok (.iconst 1, 1) := by decide +kernel
theorem dX0_lengthenLast_29 : decode cX0_lengthenLast 29 = .ok (.iadd, 1) := by decide +kernel
theorem dX0_lengthenLast_30 : decode cX0_lengthenLast 30 = .ok (.iastore, 1) := by decide +kernel
theorem dX0_lengthenLast_31 : decode cX0_lengthenLast 31 = .ok (.return_, 1) := by decide +kernel
theorem dX0_empty_0 : decode cX0_empty 0 = .ok (.aload_n 0, 1) := by decide +kernel
theorem dX0_empty_1 : decode cX0_empty 1 = .ok (.getfield 9, 3) := by decide +kernel
theorem dX0_empty_4 : decode cX0_empty 4 = .ok (.iload_n 1, 1) := by decide +kernel
theorem dX0_empty_5 : decode cX0_empty 5 = .ok (.iconst 0, 1) := by decide +kernel
theorem dX0_empty_6 : decode cX0_empty 6 = .ok (.iastore, 1) := by decide +kernel
theorem dX0_empty_7 : decode cX0_empty 7 = .ok (.return_, 1) := by decide +kernel
theorem dX0_emptyAll_0 : decode cX0_emptyAll 0 = .ok (.aload_n 0, 1) := by decide +kernel
theorem dX0_emptyAll_1 : decode cX0_emptyAll 1 = .ok (.getfield 9, 3) := by decide +kernel
theorem dX0_emptyAll_4 : decode cX0_emptyAll 4 = .ok (.iconst 0, 1) := by decide +kernel
theorem dX0_emptyAll_5 : decode cX0_emptyAll 5 = .ok (.invokestatic 33, 3) := by decide +kernel
theorem dX0_emptyAll_8 : decode cX0_emptyAll 8 = .ok (.return_, 1) := by decide +kernel
theorem dX0_copyFrom_0 : decode cX0_copyFrom 0 = .ok (.aload_n 1, 1) := by decide +kernel
theorem dX0_copyFrom_1 : decode cX0_copyFrom 1 = .ok (.getfield 9, 3) := by decide +kernel
theorem dX0_copyFrom_4 : decode cX0_copyFrom 4 = .ok (.iconst 0, 1) := by decide +kernel
theorem dX0_copyFrom_5 : decode cX0_copyFrom 5 = .ok (.aload_n 0, 1) := by decide +kernel
theorem dX0_copyFrom_6 : decode cX0_copyFrom 6 = .ok (.getfield 9, 3) := by decide +kernel
theorem dX0_copyFrom_9 : decode cX0_copyFrom 9 = .ok (.iconst 0, 1) := by decide +kernel
theorem dX0_copyFrom_10 : decode cX0_copyFrom 10 = .ok (.aload_n 0, 1) := by decide +kernel
theorem dX0_copyFrom_11 : decode cX0_copyFrom 11 = .ok (.getfield 9, 3) := by decide +kernel
theorem dX0_copyFrom_14 : decode cX0_copyFrom 14 = .ok (.arraylength, 1) := by decide +kernel
theorem dX0_copyFrom_15 : decode cX0_copyFrom 15 = .ok (.invokestatic 39, 3) := by decide +kernel
theorem dX0_copyFrom_18 : decode cX0_copyFrom 18 = .ok (.aload_n 1, 1) := by decide +kernel
theorem dX0_copyFrom_19 : decode cX0_copyFrom 19 = .ok (.getfield 15, 3) := by decide +kernel
theorem dX0_copyFrom_22 : decode cX0_copyFrom 22 = .ok (.iconst 0, 1) := by decide +kernel
theorem dX0_copyFrom_23 : decode cX0_copyFrom 23 = .ok (.aload_n 0, 1) := by decide +kernel
theorem dX0_copyFrom_24 : decode cX0_copyFrom 24 = .ok (.getfield 15, 3) := by decide +kernel
theorem dX0_copyFrom_27 : decode cX0_copyFrom 27 = .ok (.iconst 0, 1) := by decide +kernel
theorem dX0_copyFrom_28 : decode cX0_copyFrom 28 = .ok (.aload_n 0, 1) := by decide +kernel
theorem dX0_copyFrom_29 : decode cX0_copyFrom 29 = .ok (.getfield 15, 3) := by decide +kernel
theorem dX0_copyFrom_32 : decode cX0_copyFrom 32 = .ok (.arraylength, 1) := by decide +kernel
theorem dX0_copyFrom_33 : decode cX0_copyFrom 33 = .ok (.invokestatic 39, 3) := by decide +kernel
theorem dX0_copyFrom_36 : decode cX0_copyFrom 36 = .ok (.aload_n 1, 1) := by decide +kernel
theorem dX0_copyFrom_37 : decode cX0_copyFrom 37 = .ok (.getfield 18, 3) := by decide +kernel
theorem dX0_copyFrom_40 : decode cX0_copyFrom 40 = .ok (.iconst 0, 1) := by decide +kernel
theorem dX0_copyFrom_41 : decode cX0_copyFrom 41 = .ok (.aload_n 0, 1) := by decide +kernel
theorem dX0_copyFrom_42 : decode cX0_copyFrom 42 = .ok (.getfield 18, 3) := by decide +kernel
theorem dX0_copyFrom_45 : decode cX0_copyFrom 45 = .ok (.iconst 0, 1) := by decide +kernel
theorem dX0_copyFrom_46 : decode cX0_copyFrom 46 = .ok (.aload_n 0, 1) := by decide +kernel
theorem dX0_copyFrom_47 : decode cX0_copyFrom 47 = .ok (.getfield 18, 3) := by decide +kernel
theorem dX0_copyFrom_50 : decode cX0_copyFrom 50 = .ok (.arraylength, 1) := by decide +kernel
theorem dX0_copyFrom_51 : decode cX0_copyFrom 51 = .ok (.invokestatic 39, 3) := by decide +kernel
theorem dX0_copyFrom_54 : decode cX0_copyFrom 54 = .ok (.return_, 1) := by decide +kernel
theorem dX1_init_0 : decode cX1_init 0 = .ok (.aload_n 0, 1) := by decide +kernel
theorem dX1_init_1 : decode cX1_init 1 = .ok (.invokespecial 3, 3) := by decide +kernel
theorem dX1_init_4 : decode cX1_init 4 = .ok (.aload_n 0, 1) := by decide +kernel
theorem dX1_init_5 : decode cX1_init 5 = .ok (.iconst 1, 1) := by decide +kernel
theorem dX1_init_6 : decode cX1_init 6 = .ok (.putfield 9, 3) := by decide +kernel
theorem dX1_init_9 : decode cX1_init 9 = .ok (.aload_n 0, 1) := by decide +kernel
theorem dX1_init_10 : decode cX1_init 10 = .ok (.iconst 1, 1) := by decide +kernel
theorem dX1_init_11 : decode cX1_init 11 = .ok (.putfield 15, 3) := by decide +kernel
theorem dX1_init_14 : decode cX1_init 14 = .ok (.aload_n 0, 1) := by decide +kernel
theorem dX1_init_15 : decode cX1_init 15 = .ok (.iconst 1, 1) := by decide +kernel
theorem dX1_init_16 : decode cX1_init 16 = .ok (.putfield 18, 3) := by decide +kernel
theorem dX1_init_19 : decode cX1_init 19 = .ok (.aload_n 0, 1) := by decide +kernel
theorem dX1_init_20 : decode cX1_init 20 = .ok (.new 21, 3) := by decide +kernel
theorem dX1_init_23 : decode cX1_init 23 = .ok (.dup, 1) := by decide +kernel
theorem dX1_init_24 : decode cX1_init 24 = .ok (.invokespecial 23, 3) := by decide +kernel
theorem dX1_init_27 : decode cX1_init 27 = .ok (.putfield 24, 3) := by decide +kernel
theorem dX1_init_30 : decode cX1_init 30 = .ok (.aload_n 0, 1) := by decide +kernel
theorem dX1_init_31 : decode cX1_init 31 = .ok (.bipush 64, 2) := by decide +kernel
theorem dX1_init_33 : decode cX1_init 33 = .ok (.newarray .int, 2) := by decide +kernel
theorem dX1_init_35 : decode cX1_init 35 = .ok (.putfield 28, 3) := by decide +kernel
theorem dX1_init_38 : decode cX1_init 38 = .ok (.return_, 1) := by decide +kernel
theorem dX1_start_0 : decode cX1_start 0 = .ok (.aload_n 0, 1) := by decide +kernel
theorem dX1_start_1 : decode cX1_start 1 = .ok (.iload_n 1, 1) := by decide +kernel
theorem dX1_start_2 : decode cX1_start 2 = .ok (.putfield 9, 3) := by decide +kernel
theorem dX1_start_5 : decode cX1_start 5 = .ok (.aload_n 0, 1) := by decide +kernel
theorem dX1_start_6 : decode cX1_start 6 = .ok (.iload_n 2, 1) := by decide +kernel
theorem dX1_start_7 : decode cX1_start 7 = .ok (.putfield 15, 3) := by decide +kernel
theorem dX1_start_10 : decode cX1_start 10 = .ok (.aload_n 0, 1) := by decide +kernel
theorem dX1_start_11 : decode cX1_start 11 = .ok (.iload_n 3, 1) := by decide +kernel
theorem dX1_start_12 : decode cX1_start 12 = .ok (.putfield 18, 3) := by decide +kernel
theorem dX1_start_15 : decode cX1_start 15 = .ok (.aload_n 0, 1) := by decide +kernel
theorem dX1_start_16 : decode cX1_start 16 = .ok (.getfield 24, 3) := by decide +kernel
theorem dX1_start_19 : decode cX1_start 19 = .ok (.invokevirtual 32, 3) := by decide +kernel
theorem dX1_start_22 : decode cX1_start 22 = .ok (.aload_n 0, 1) := by decide +kernel
theorem dX1_start_23 : decode cX1_start 23 = .ok (.invokevirtual 35, 3) := by decide +kernel
theorem dX1_start_26 : decode cX1_start 26 = .ok (.return_, 1) := by decide +kernel
theorem dX1_fillCandidates_0 : decode cX1_fillCandidates 0 = .ok (.aload_n 0, 1) := by decide +kernel
theorem dX1_fillCandidates_1 : decode cX1_fillCandidates 1 = .ok (.getfield 28, 3) := by decide +kernel
theorem dX1_fillCandidates_4 : decode cX1_fillCandidates 4 = .ok (.iconst 1, 1) := by decide +kernel
theorem dX1_fillCandidates_5 : decode cX1_fillCandidates 5 = .ok (.aload_n 0, 1) := by decide +kernel
theorem dX1_fillCandidates_6 : decode cX1_fillCandidates 6 = .ok (.getfield 18, 3) := by decide +kernel
theorem dX1_fillCandidates_9 : decode cX1_fillCandidates 9 = .ok (.iconst 1, 1) := by decide +kernel
theorem dX1_fillCandidates_10 : decode cX1_fillCandidates 10 = .ok (.iadd, 1) := by decide +kernel
theorem dX1_fillCandidates_11 : decode cX1_fillCandidates 11 = .ok (.ishl, 1) := by decide +kernel
theorem dX1_fillCandidates_12 : decode cX1_fillCandidates 12 = .ok (.iconst 1, 1) := by decide +kernel
theorem dX1_fillCandidates_13 : decode cX1_fillCandidates 13 = .ok (.isub, 1) := by decide +kernel
theorem dX1_fillCandidates_14 : decode cX1_fillCandidates 14 = .ok (.invokestatic 38, 3) := by decide +kernel
theorem dX1_fillCandidates_17 : decode cX1_fillCandidates 17 = .ok (.return_, 1) := by decide +kernel
theorem dX1_copyFrom_0 : decode cX1_copyFrom 0 = .ok (.aload_n 0, 1) := by decide +kernel
theorem dX1_copyFrom_1 : decode cX1_copyFrom 1 = .ok (.aload_n 1, 1) := by decide +kernel
theorem dX1_copyFrom_2 : decode cX1_copyFrom 2 = .ok (.getfield 9, 3) := by decide +kernel
theorem dX1_copyFrom_5 : decode cX1_copyFrom 5 = .ok (.putfield 9, 3) := by decide +kernel
theorem dX1_copyFrom_8 : decode cX1_copyFrom 8 = .ok (.aload_n 0, 1) := by decide +kernel
theorem dX1_copyFrom_9 : decode cX1_copyFrom 9 = .ok (.aload_n 1, 1) := by decide +kernel
theorem dX1_copyFrom_10 : decode cX1_copyFrom 10 = .ok (.getfield 15, 3) := by decide +kernel
theorem dX1_copyFrom_13 : decode cX1_copyFrom 13 = .ok (.putfield 15, 3) := by decide +kernel
theorem dX1_copyFrom_16 : decode cX1_copyFrom 16 = .ok (.aload_n 0, 1) := by decide +kernel
theorem dX1_copyFrom_17 : decode cX1_copyFrom 17 = .ok (.aload_n 1, 1) := by decide +kernel
theorem dX1_copyFrom_18 : decode cX1_copyFrom 18 = .ok (.getfield 18, 3) := by decide +kernel
theorem dX1_copyFrom_21 : decode cX1_copyFrom 21 = .ok (.putfield 18, 3) := by decide +kernel
theorem dX1_copyFrom_24 : decode cX1_copyFrom 24 = .ok (.aload_n 0, 1) := by decide +kernel
theorem dX1_copyFrom_25 : decode cX1_copyFrom 25 = .ok (.getfield 24, 3) := by decide +kernel
theorem dX1_copyFrom_28 : decode cX1_copyFrom 28 = .ok (.aload_n 1, 1) := by decide +kernel
theorem dX1_copyFrom_29 : decode cX1_copyFrom 29 = .ok (.getfield 24, 3) := by decide +kernel
theorem dX1_copyFrom_32 : decode cX1_copyFrom 32 = .ok (.invokevirtual 44, 3) := by decide +kernel
theorem dX1_copyFrom_35 : decode cX1_copyFrom 35 = .ok (.aload_n 1, 1) := by decide +kernel
theorem dX1_copyFrom_36 : decode cX1_copyFrom 36 = .ok (.getfield 28, 3) := by decide +kernel
theorem dX1_copyFrom_39 : decode cX1_copyFrom 39 = .ok (.iconst 0, 1) := by decide +kernel
theorem dX1_copyFrom_40 : decode cX1_copyFrom 40 = .ok (.aload_n 0, 1) := by decide +kernel
theorem dX1_copyFrom_41 : decode cX1_copyFrom 41 = .ok (.getfield 28, 3) := by decide +kernel
theorem dX1_copyFrom_44 : decode cX1_copyFrom 44 = .ok (.iconst 0, 1) := by decide +kernel
theorem dX1_copyFrom_45 : decode cX1_copyFrom 45 = .ok (.aload_n 0, 1) := by decide +kernel
theorem dX1_copyFrom_46 : decode cX1_copyFrom 46 = .ok (.getfield 28, 3) := by decide +kernel
theorem dX1_copyFrom_49 : decode cX1_copyFrom 49 = .ok (.arraylength, 1) := by decide +kernel
theorem dX1_copyFrom_50 : decode cX1_copyFrom 50 = .ok (.invokestatic 48, 3) := by decide +kernel
theorem dX1_copyFrom_53 : decode cX1_copyFrom 53 = .ok (.return_, 1) := by decide +kernel
theorem dX1_cellTotal_0 : decode cX1_cellTotal 0 = .ok (.aload_n 0, 1) := by decide +kernel
theorem dX1_cellTotal_1 : decode cX1_cellTotal 1 = .ok (.getfield 9, 3) := by decide +kernel
theorem dX1_cellTotal_4 : decode cX1_cellTotal 4 = .ok (.aload_n 0, 1) := by decide +kernel
theorem dX1_cellTotal_5 : decode cX1_cellTotal 5 = .ok (.getfield 15, 3) := by decide +kernel
theorem dX1_cellTotal_8 : decode cX1_cellTotal 8 = .ok (.imul, 1) := by decide +kernel
theorem dX1_cellTotal_9 : decode cX1_cellTotal 9 = .ok (.ireturn, 1) := by decide +kernel
theorem dX1_lineTotal_0 : decode cX1_lineTotal 0 = .ok (.aload_n 0, 1) := by decide +kernel
theorem dX1_lineTotal_1 : decode cX1_lineTotal 1 = .ok (.getfield 9, 3) := by decide +kernel
theorem dX1_lineTotal_4 : decode cX1_lineTotal 4 = .ok (.aload_n 0, 1) := by decide +kernel
theorem dX1_lineTotal_5 : decode cX1_lineTotal 5 = .ok (.getfield 15, 3) := by decide +kernel
theorem dX1_lineTotal_8 : decode cX1_lineTotal 8 = .ok (.iadd, 1) := by decide +kernel
theorem dX1_lineTotal_9 : decode cX1_lineTotal 9 = .ok (.ireturn, 1) := by decide +kernel
theorem dX1_allLines_0 : decode cX1_allLines 0 = .ok (.iconst 1, 1) := by decide +kernel
theorem dX1_allLines_1 : decode cX1_allLines 1 = .ok (.aload_n 0, 1) := by decide +kernel
theorem dX1_allLines_2 : decode cX1_allLines 2 = .ok (.invokevirtual 54, 3) := by decide +kernel
theorem dX1_allLines_5 : decode cX1_allLines 5 = .ok (.ishl, 1) := by decide +kernel
theorem dX1_allLines_6 : decode cX1_allLines 6 = .ok (.iconst 1, 1) := by decide +kernel
theorem dX1_allLines_7 : decode cX1_allLines 7 = .ok (.isub, 1) := by decide +kernel
theorem dX1_allLines_8 : decode cX1_allLines 8 = .ok (.ireturn, 1) := by decide +kernel
theorem dX1_hasLine_0 : decode cX1_hasLine 0 = .ok (.iload_n 1, 1) := by decide +kernel
theorem dX1_hasLine_1 : decode cX1_hasLine 1 = .ok (.iconst 0, 1) := by decide +kernel
theorem dX1_hasLine_2 : decode cX1_hasLine 2 = .ok (.aload_n 0, 1) := by decide +kernel
theorem dX1_hasLine_3 : decode cX1_hasLine 3 = .ok (.invokevirtual 54, 3) := by decide +kernel
theorem dX1_hasLine_6 : decode cX1_hasLine 6 = .ok (.iconst 1, 1) := by decide +kernel
theorem dX1_hasLine_7 : decode cX1_hasLine 7 = .ok (.isub, 1) := by decide +kernel
theorem dX1_hasLine_8 : decode cX1_hasLine 8 = .ok (.invokestatic 58, 3) := by decide +kernel
theorem dX1_hasLine_11 : decode cX1_hasLine 11 = .ok (.ireturn, 1) := by decide +kernel
theorem dX1_hasCell_0 : decode cX1_hasCell 0 = .ok (.iload_n 1, 1) := by decide +kernel
theorem dX1_hasCell_1 : decode cX1_hasCell 1 = .ok (.iconst 0, 1) := by decide +kernel
theorem dX1_hasCell_2 : decode cX1_hasCell 2 = .ok (.aload_n 0, 1) := by decide +kernel
theorem dX1_hasCell_3 : decode cX1_hasCell 3 = .ok (.getfield 9, 3) := by decide +kernel
theorem dX1_hasCell_6 : decode cX1_hasCell 6 = .ok (.iconst 1, 1) := by decide +kernel
theorem dX1_hasCell_7 : decode cX1_hasCell 7 = .ok (.isub, 1) := by decide +kernel
theorem dX1_hasCell_8 : decode cX1_hasCell 8 = .ok (.invokestatic 58, 3) := by decide +kernel
theorem dX1_hasCell_11 : decode cX1_hasCell 11 = .ok (.ifCond .eq 21, 3) := by decide +kernel
theorem dX1_hasCell_14 : decode cX1_hasCell 14 = .ok (.iload_n 2, 1) := by decide +kernel
theorem dX1_hasCell_15 : decode cX1_hasCell 15 = .ok (.iconst 0, 1) := by decide +kernel
theorem dX1_hasCell_16 : decode cX1_hasCell 16 = .ok (.aload_n 0, 1) := by decide +kernel
theorem dX1_hasCell_17 : decode cX1_hasCell 17 = .ok (.getfield 15, 3) := by decide +kernel
theorem dX1_hasCell_20 : decode cX1_hasCell 20 = .ok (.iconst 1, 1) := by decide +kernel
theorem dX1_hasCell_21 : decode cX1_hasCell 21 = .ok (.isub, 1) := by decide +kernel
theorem dX1_hasCell_22 : decode cX1_hasCell 22 = .ok (.invokestatic 58, 3) := by decide +kernel
theorem dX1_hasCell_25 : decode cX1_hasCell 25 = .ok (.ifCond .eq 7, 3) := by decide +kernel
theorem dX1_hasCell_28 : decode cX1_hasCell 28 = .ok (.iconst 1, 1) := by decide +kernel
theorem dX1_hasCell_29 : decode cX1_hasCell 29 = .ok (.goto 4, 3) := by decide +kernel
theorem dX1_hasCell_32 : decode cX1_hasCell 32 = .ok (.iconst 0, 1) := by decide +kernel
theorem dX1_hasCell_33 : decode cX1_hasCell 33 = .ok (.ireturn, 1) := by decide +kernel
theorem dX1_cellAt_0 : decode cX1_cellAt 0 = .ok (.iload_n 1, 1) := by decide +kernel
theorem dX1_cellAt_1 : decode cX1_cellAt 1 = .ok (.aload_n 0, 1) := by decide +kernel
theorem dX1_cellAt_2 : decode cX1_cellAt 2 = .ok (.getfield 15, 3) := by decide +kernel
theorem dX1_cellAt_5 : decode cX1_cellAt 5 = .ok (.imul, 1) := by decide +kernel
theorem dX1_cellAt_6 : decode cX1_cellAt 6 = .ok (.iload_n 2, 1) := by decide +kernel
theorem dX1_cellAt_7 : decode cX1_cellAt 7 = .ok (.iadd, 1) := by decide +kernel
theorem dX1_cellAt_8 : decode cX1_cellAt 8 = .ok (.ireturn, 1) := by decide +kernel
theorem dX1_lineLength_0 : decode cX1_lineLength 0 = .ok (.iload_n 1, 1) := by decide +kernel
theorem dX1_lineLength_1 : decode cX1_lineLength 1 = .ok (.aload_n 0, 1) := by decide +kernel
theorem dX1_lineLength_2 : decode cX1_lineLength 2 = .ok (.getfield 9, 3) := by decide +kernel
theorem dX1_lineLength_5 : decode cX1_lineLength 5 = .ok (.if_icmp .ge 10, 3) := by decide +kernel
theorem dX1_lineLength_8 : decode cX1_lineLength 8 = .ok (.aload_n 0, 1) := by decide +kernel
theorem dX1_lineLength_9 : decode cX1_lineLength 9 = .ok (.getfield 15, 3) := by decide +kernel
theorem dX1_lineLength_12 : decode cX1_lineLength 12 = .ok (.goto 7, 3) := by decide +kernel
theorem dX1_lineLength_15 : decode cX1_lineLength 15 = .ok (.aload_n 0, 1) := by decide +kernel
theorem dX1_lineLength_16 : decode cX1_lineLength 16 = .ok (.getfield 9, 3) := by decide +kernel
theorem dX1_lineLength_19 : decode cX1_lineLength 19 = .ok (.ireturn, 1) := by decide +kernel
theorem dX1_lineCell_0 : decode cX1_lineCell 0 = .ok (.iload_n 1, 1) := by decide +kernel
theorem dX1_lineCell_1 : decode cX1_lineCell 1 = .ok (.aload_n 0, 1) := by decide +kernel
theorem dX1_lineCell_2 : decode cX1_lineCell 2 = .ok (.getfield 9, 3) := by decide +kernel
theorem dX1_lineCell_5 : decode cX1_lineCell 5 = .ok (.if_icmp .ge 14, 3) := by decide +kernel
theorem dX1_lineCell_8 : decode cX1_lineCell 8 = .ok (.iload_n 1, 1) := by decide +kernel
theorem dX1_lineCell_9 : decode cX1_lineCell 9 = .ok (.aload_n 0, 1) := by decide +kernel
theorem dX1_lineCell_10 : decode cX1_lineCell 10 = .ok (.getfield 15, 3) := by decide +kernel
theorem dX1_lineCell_13 : decode cX1_lineCell 13 = .ok (.imul, 1) := by decide +kernel
theorem dX1_lineCell_14 : decode cX1_lineCell 14 = .ok (.iload_n 2, 1) := by decide +kernel
theorem dX1_lineCell_15 : decode cX1_lineCell 15 = .ok (.iadd, 1) := by decide +kernel
theorem dX1_lineCell_16 : decode cX1_lineCell 16 = .ok (.goto 16, 3) := by decide +kernel
theorem dX1_lineCell_19 : decode cX1_lineCell 19 = .ok (.iload_n 2, 1) := by decide +kernel
theorem dX1_lineCell_20 : decode cX1_lineCell 20 = .ok (.aload_n 0, 1) := by decide +kernel
theorem dX1_lineCell_21 : decode cX1_lineCell 21 = .ok (.getfield 15, 3) := by decide +kernel
theorem dX1_lineCell_24 : decode cX1_lineCell 24 = .ok (.imul, 1) := by decide +kernel
theorem dX1_lineCell_25 : decode cX1_lineCell 25 = .ok (.iload_n 1, 1) := by decide +kernel
theorem dX1_lineCell_26 : decode cX1_lineCell 26 = .ok (.iadd, 1) := by decide +kernel
theorem dX1_lineCell_27 : decode cX1_lineCell 27 = .ok (.aload_n 0, 1) := by decide +kernel
theorem dX1_lineCell_28 : decode cX1_lineCell 28 = .ok (.getfield 9, 3) := by decide +kernel
theorem dX1_lineCell_31 : decode cX1_lineCell 31 = .ok (.isub, 1) := by decide +kernel
theorem dX1_lineCell_32 : decode cX1_lineCell 32 = .ok (.ireturn, 1) := by decide +kernel
theorem dX1_rowLine_0 : decode cX1_rowLine 0 = .ok (.iload_n 1, 1) := by decide +kernel
theorem dX1_rowLine_1 : decode cX1_rowLine 1 = .ok (.aload_n 0, 1) := by decide +kernel
theorem dX1_rowLine_2 : decode cX1_rowLine 2 = .ok (.getfield 15, 3) := by decide +kernel
theorem dX1_rowLine_5 : decode cX1_rowLine 5 = .ok (.idiv, 1) := by decide +kernel
theorem dX1_rowLine_6 : decode cX1_rowLine 6 = .ok (.ireturn, 1) := by decide +kernel
theorem dX1_columnLine_0 : decode cX1_columnLine 0 = .ok (.aload_n 0, 1) := by decide +kernel
theorem dX1_columnLine_1 : decode cX1_columnLine 1 = .ok (.getfield 9, 3) := by decide +kernel
theorem dX1_columnLine_4 : decode cX1_columnLine 4 = .ok (.iload_n 1, 1) := by decide +kernel
theorem dX1_columnLine_5 : decode cX1_columnLine 5 = .ok (.aload_n 0, 1) := by decide +kernel
theorem dX1_columnLine_6 : decode cX1_columnLine 6 = .ok (.getfield 15, 3) := by decide +kernel
theorem dX1_columnLine_9 : decode cX1_columnLine 9 = .ok (.irem, 1) := by decide +kernel
theorem dX1_columnLine_10 : decode cX1_columnLine 10 = .ok (.iadd, 1) := by decide +kernel
theorem dX1_columnLine_11 : decode cX1_columnLine 11 = .ok (.ireturn, 1) := by decide +kernel
theorem dX1_linesThrough_0 : decode cX1_linesThrough 0 = .ok (.iconst 1, 1) := by decide +kernel
theorem dX1_linesThrough_1 : decode cX1_linesThrough 1 = .ok (.aload_n 0, 1) := by decide +kernel
theorem dX1_linesThrough_2 : decode cX1_linesThrough 2 = .ok (.iload_n 1, 1) := by decide +kernel
theorem dX1_linesThrough_3 : decode cX1_linesThrough 3 = .ok (.invokevirtual 62, 3) := by decide +kernel
theorem dX1_linesThrough_6 : decode cX1_linesThrough 6 = .ok (.ishl, 1) := by decide +kernel
theorem dX1_linesThrough_7 : decode cX1_linesThrough 7 = .ok (.iconst 1, 1) := by decide +kernel
theorem dX1_linesThrough_8 : decode cX1_linesThrough 8 = .ok (.aload_n 0, 1) := by decide +kernel
theorem dX1_linesThrough_9 : decode cX1_linesThrough 9 = .ok (.iload_n 1, 1) := by decide +kernel
theorem dX1_linesThrough_10 : decode cX1_linesThrough 10 = .ok (.invokevirtual 66, 3) := by decide +kernel
theorem dX1_linesThrough_13 : decode cX1_linesThrough 13 = .ok (.ishl, 1) := by decide +kernel
theorem dX1_linesThrough_14 : decode cX1_linesThrough 14 = .ok (.ior, 1) := by decide +kernel
theorem dX1_linesThrough_15 : decode cX1_linesThrough 15 = .ok (.ireturn, 1) := by decide +kernel
theorem dX1_hasCandidate_0 : decode cX1_hasCandidate 0 = .ok (.aload_n 0, 1) := by decide +kernel
theorem dX1_hasCandidate_1 : decode cX1_hasCandidate 1 = .ok (.getfield 28, 3) := by decide +kernel
theorem dX1_hasCandidate_4 : decode cX1_hasCandidate 4 = .ok (.iload_n 1, 1) := by decide +kernel
theorem dX1_hasCandidate_5 : decode cX1_hasCandidate 5 = .ok (.iaload, 1) := by decide +kernel
theorem dX1_hasCandidate_6 : decode cX1_hasCandidate 6 = .ok (.iload_n 2, 1) := by decide +kernel
theorem dX1_hasCandidate_7 : decode cX1_hasCandidate 7 = .ok (.ishr, 1) := by decide +kernel
theorem dX1_hasCandidate_8 : decode cX1_hasCandidate 8 = .ok (.iconst 1, 1) := by decide +kernel
theorem dX1_hasCandidate_9 : decode cX1_hasCandidate 9 = .ok (.iand, 1) := by decide +kernel
theorem dX1_hasCandidate_10 : decode cX1_hasCandidate 10 = .ok (.ifCond .eq 7, 3) := by decide +kernel
theorem dX1_hasCandidate_13 : decode cX1_hasCandidate 13 = .ok (.iconst 1, 1) := by decide +kernel
theorem dX1_hasCandidate_14 : decode cX1_hasCandidate 14 = .ok (.goto 4, 3) := by decide +kernel
theorem dX1_hasCandidate_17 : decode cX1_hasCandidate 17 = .ok (.iconst 0, 1) := by decide +kernel
theorem dX1_hasCandidate_18 : decode cX1_hasCandidate 18 = .ok (.ireturn, 1) := by decide +kernel
theorem dX1_isDecided_0 : decode cX1_isDecided 0 = .ok (.aload_n 0, 1) := by decide +kernel
theorem dX1_isDecided_1 : decode cX1_isDecided 1 = .ok (.getfield 28, 3) := by decide +kernel
theorem dX1_isDecided_4 : decode cX1_isDecided 4 = .ok (.iload_n 1, 1) := by decide +kernel
theorem dX1_isDecided_5 : decode cX1_isDecided 5 = .ok (.iaload, 1) := by decide +kernel
theorem dX1_isDecided_6 : decode cX1_isDecided 6 = .ok (.invokestatic 69, 3) := by decide +kernel
theorem dX1_isDecided_9 : decode cX1_isDecided 9 = .ok (.iconst 1, 1) := by decide +kernel
theorem dX1_isDecided_10 : decode cX1_isDecided 10 = .ok (.if_icmp .ne 7, 3) := by decide +kernel
theorem dX1_isDecided_13 : decode cX1_isDecided 13 = .ok (.iconst 1, 1) := by decide +kernel
theorem dX1_isDecided_14 : decode cX1_isDecided 14 = .ok (.goto 4, 3) := by decide +kernel
theorem dX1_isDecided_17 : decode cX1_isDecided 17 = .ok (.iconst 0, 1) := by decide +kernel
theorem dX1_isDecided_18 : decode cX1_isDecided 18 = .ok (.ireturn, 1) := by decide +kernel
theorem dX1_decidedColor_0 : decode cX1_decidedColor 0 = .ok (.aload_n 0, 1) := by decide +kernel
theorem dX1_decidedColor_1 : decode cX1_decidedColor 1 = .ok (.getfield 28, 3) := by decide +kernel
theorem dX1_decidedColor_4 : decode cX1_decidedColor 4 = .ok (.iload_n 1, 1) := by decide +kernel
theorem dX1_decidedColor_5 : decode cX1_decidedColor 5 = .ok (.iaload, 1) := by decide +kernel
theorem dX1_decidedColor_6 : decode cX1_decidedColor 6 = .ok (.iconst 1, 1) := by decide +kernel
theorem dX1_decidedColor_7 : decode cX1_decidedColor 7 = .ok (.isub, 1) := by decide +kernel
theorem dX1_decidedColor_8 : decode cX1_decidedColor 8 = .ok (.invokestatic 69, 3) := by decide +kernel
theorem dX1_decidedColor_11 : decode cX1_decidedColor 11 = .ok (.ireturn, 1) := by decide +kernel
theorem dX1_decidedTotal_0 : decode cX1_decidedTotal 0 = .ok (.iconst 0, 1) := by decide +kernel
theorem dX1_decidedTotal_1 : decode cX1_decidedTotal 1 = .ok (.istore_n 1, 1) := by decide +kernel
theorem dX1_decidedTotal_2 : decode cX1_decidedTotal 2 = .ok (.iconst 0, 1) := by decide +kernel
theorem dX1_decidedTotal_3 : decode cX1_decidedTotal 3 = .ok (.istore_n 2, 1) := by decide +kernel
theorem dX1_decidedTotal_4 : decode cX1_decidedTotal 4 = .ok (.iload_n 2, 1) := by decide +kernel
theorem dX1_decidedTotal_5 : decode cX1_decidedTotal 5 = .ok (.aload_n 0, 1) := by decide +kernel
theorem dX1_decidedTotal_6 : decode cX1_decidedTotal 6 = .ok (.invokevirtual 74, 3) := by decide +kernel
theorem dX1_decidedTotal_9 : decode cX1_decidedTotal 9 = .ok (.if_icmp .ge 20, 3) := by decide +kernel
theorem dX1_decidedTotal_12 : decode cX1_decidedTotal 12 = .ok (.aload_n 0, 1) := by decide +kernel
theorem dX1_decidedTotal_13 : decode cX1_decidedTotal 13 = .ok (.iload_n 2, 1) := by decide +kernel
theorem dX1_decidedTotal_14 : decode cX1_decidedTotal 14 = .ok (.invokevirtual 77, 3) := by decide +kernel
theorem dX1_decidedTotal_17 : decode cX1_decidedTotal 17 = .ok (.ifCond .eq 6, 3) := by decide +kernel
theorem dX1_decidedTotal_20 : decode cX1_decidedTotal 20 = .ok (.iinc 1 1, 3) := by decide +kernel
theorem dX1_decidedTotal_23 : decode cX1_decidedTotal 23 = .ok (.iinc 2 1, 3) := by decide +kernel
theorem dX1_decidedTotal_26 : decode cX1_decidedTotal 26 = .ok (.goto (-22), 3) := by decide +kernel
theorem dX1_decidedTotal_29 : decode cX1_decidedTotal 29 = .ok (.iload_n 1, 1) := by decide +kernel
theorem dX1_decidedTotal_30 : decode cX1_decidedTotal 30 = .ok (.ireturn, 1) := by decide +kernel
theorem dX1_isAllDecided_0 : decode cX1_isAllDecided 0 = .ok (.aload_n 0, 1) := by decide +kernel
theorem dX1_isAllDecided_1 : decode cX1_isAllDecided 1 = .ok (.invokevirtual 81, 3) := by decide +kernel
theorem dX1_isAllDecided_4 : decode cX1_isAllDecided 4 = .ok (.aload_n 0, 1) := by decide +kernel
theorem dX1_isAllDecided_5 : decode cX1_isAllDecided 5 = .ok (.invokevirtual 74, 3) := by decide +kernel
theorem dX1_isAllDecided_8 : decode cX1_isAllDecided 8 = .ok (.if_icmp .ne 7, 3) := by decide +kernel
theorem dX1_isAllDecided_11 : decode cX1_isAllDecided 11 = .ok (.iconst 1, 1) := by decide +kernel
theorem dX1_isAllDecided_12 : decode cX1_isAllDecided 12 = .ok (.goto 4, 3) := by decide +kernel
theorem dX1_isAllDecided_15 : decode cX1_isAllDecided 15 = .ok (.iconst 0, 1) := by decide +kernel
theorem dX1_isAllDecided_16 : decode cX1_isAllDecided 16 = .ok (.ireturn, 1) := by decide +kernel
theorem dX1_decidedInLine_0 : decode cX1_decidedInLine 0 = .ok (.iconst 0, 1) := by decide +kernel
theorem dX1_decidedInLine_1 : decode cX1_decidedInLine 1 = .ok (.istore_n 2, 1) := by decide +kernel
theorem dX1_decidedInLine_2 : decode cX1_decidedInLine 2 = .ok (.iconst 0, 1) := by decide +kernel
theorem dX1_decidedInLine_3 : decode cX1_decidedInLine 3 = .ok (.istore_n 3, 1) := by decide +kernel
theorem dX1_decidedInLine_4 : decode cX1_decidedInLine 4 = .ok (.iload_n 3, 1) := by decide +kernel
theorem dX1_decidedInLine_5 : decode cX1_decidedInLine 5 = .ok (.aload_n 0, 1) := by decide +kernel
theorem dX1_decidedInLine_6 : decode cX1_decidedInLine 6 = .ok (.iload_n 1, 1) := by decide +kernel
theorem dX1_decidedInLine_7 : decode cX1_decidedInLine 7 = .ok (.invokevirtual 84, 3) := by decide +kernel
theorem dX1_decidedInLine_10 : decode cX1_decidedInLine 10 = .ok (.if_icmp .ge 25, 3) := by decide +kernel
theorem dX1_decidedInLine_13 : decode cX1_decidedInLine 13 = .ok (.aload_n 0, 1) := by decide +kernel
theorem dX1_decidedInLine_14 : decode cX1_decidedInLine 14 = .ok (.aload_n 0, 1) := by decide +kernel
theorem dX1_decidedInLine_15 : decode cX1_decidedInLine 15 = .ok (.iload_n 1, 1) := by decide +kernel
theorem dX1_decidedInLine_16 : decode cX1_decidedInLine 16 = .ok (.iload_n 3, 1) := by decide +kernel
theorem dX1_decidedInLine_17 : decode cX1_decidedInLine 17 = .ok (.invokevirtual 87, 3) := by decide +kernel
theorem dX1_decidedInLine_20 : decode cX1_decidedInLine 20 = .ok (.invokevirtual 77, 3) := by decide +kernel
theorem dX1_decidedInLine_23 : decode cX1_decidedInLine 23 = .ok (.ifCond .eq 6, 3) := by decide +kernel
theorem dX1_decidedInLine_26 : decode cX1_decidedInLine 26 = .ok (.iinc 2 1, 3) := by decide +kernel
theorem dX1_decidedInLine_29 : decode cX1_decidedInLine 29 = .ok (.iinc 3 1, 3) := by decide +kernel
theorem dX1_decidedInLine_32 : decode cX1_decidedInLine 32 = .ok (.goto (-28), 3) := by decide +kernel
theorem dX1_decidedInLine_35 : decode cX1_decidedInLine 35 = .ok (.iload_n 2, 1) := by decide +kernel
theorem dX1_decidedInLine_36 : decode cX1_decidedInLine 36 = .ok (.ireturn, 1) := by decide +kernel
theorem dX1_describePicture_0 : decode cX1_describePicture 0 = .ok (.aload_n 0, 1) := by decide +kernel
theorem dX1_describePicture_1 : decode cX1_describePicture 1 = .ok (.getfield 24, 3) := by decide +kernel
theorem dX1_describePicture_4 : decode cX1_describePicture 4 = .ok (.invokevirtual 32, 3) := by decide +kernel
theorem dX1_describePicture_7 : decode cX1_describePicture 7 = .ok (.iconst 0, 1) := by decide +kernel
theorem dX1_describePicture_8 : decode cX1_describePicture 8 = .ok (.istore_n 1, 1) := by decide +kernel
theorem dX1_describePicture_9 : decode cX1_describePicture 9 = .ok (.iload_n 1, 1) := by decide +kernel
theorem dX1_describePicture_10 : decode cX1_describePicture 10 = .ok (.aload_n 0, 1) := by decide +kernel
theorem dX1_describePicture_11 : decode cX1_describePicture 11 = .ok (.invokevirtual 54, 3) := by decide +kernel
theorem dX1_describePicture_14 : decode cX1_describePicture 14 = .ok (.if_icmp .ge 14, 3) := by decide +kernel
theorem dX1_describePicture_17 : decode cX1_describePicture 17 = .ok (.aload_n 0, 1) := by decide +kernel
theorem dX1_describePicture_18 : decode cX1_describePicture 18 = .ok (.iload_n 1, 1) := by decide +kernel
theorem dX1_describePicture_19 : decode cX1_describePicture 19 = .ok (.invokevirtual 91, 3) := by decide +kernel
theorem dX1_describePicture_22 : decode cX1_describePicture 22 = .ok (.iinc 1 1, 3) := by decide +kernel
theorem dX1_describePicture_25 : decode cX1_describePicture 25 = .ok (.goto (-16), 3) := by decide +kernel
theorem dX1_describePicture_28 : decode cX1_describePicture 28 = .ok (.return_, 1) := by decide +kernel
theorem dX1_describeLine_0 : decode cX1_describeLine 0 = .ok (.iconst 0, 1) := by decide +kernel
theorem dX1_describeLine_1 : decode cX1_describeLine 1 = .ok (.istore_n 2, 1) := by decide +kernel
theorem dX1_describeLine_2 : decode cX1_describeLine 2 = .ok (.iconst 0, 1) := by decide +kernel
theorem dX1_describeLine_3 : decode cX1_describeLine 3 = .ok (.istore_n 3, 1) := by decide +kernel
theorem dX1_describeLine_4 : decode cX1_describeLine 4 = .ok (.iload_n 3, 1) := by decide +kernel
theorem dX1_describeLine_5 : decode cX1_describeLine 5 = .ok (.aload_n 0, 1) := by decide +kernel
theorem dX1_describeLine_6 : decode cX1_describeLine 6 = .ok (.iload_n 1, 1) := by decide +kernel
theorem dX1_describeLine_7 : decode cX1_describeLine 7 = .ok (.invokevirtual 84, 3) := by decide +kernel
theorem dX1_describeLine_10 : decode cX1_describeLine 10 = .ok (.if_icmp .ge 62, 3) := by decide +kernel
theorem dX1_describeLine_13 : decode cX1_describeLine 13 = .ok (.aload_n 0, 1) := by decide +kernel
theorem dX1_describeLine_14 : decode cX1_describeLine 14 = .ok (.aload_n 0, 1) := by decide +kernel
theorem dX1_describeLine_15 : decode cX1_describeLine 15 = .ok (.iload_n 1, 1) := by decide +kernel
theorem dX1_describeLine_16 : decode cX1_describeLine 16 = .ok (.iload_n 3, 1) := by decide +kernel
theorem dX1_describeLine_17 : decode cX1_describeLine 17 = .ok (.invokevirtual 87, 3) := by decide +kernel
theorem dX1_describeLine_20 : decode cX1_describeLine 20 = .ok (.invokevirtual 95, 3) := by decide +kernel
theorem dX1_describeLine_23 : decode cX1_describeLine 23 = .ok (.istore 4, 2) := by decide +kernel
theorem dX1_describeLine_25 : decode cX1_describeLine 25 = .ok (.iload 4, 2) := by decide +kernel
theorem dX1_describeLine_27 : decode cX1_describeLine 27 = .ok (.ifCond .eq 20, 3) := by decide +kernel
theorem dX1_describeLine_30 : decode cX1_describeLine 30 = .ok (.iload 4, 2) := by decide +kernel
theorem dX1_describeLine_32 : decode cX1_describeLine 32 = .ok (.iload_n 2, 1) := by decide +kernel
theorem dX1_describeLine_33 : decode cX1_describeLine 33 = .ok (.if_icmp .ne 14, 3) := by decide +kernel
theorem dX1_describeLine_36 : decode cX1_describeLine 36 = .ok (.aload_n 0, 1) := by decide +kernel
theorem dX1_describeLine_37 : decode cX1_describeLine 37 = .ok (.getfield 24, 3) := by decide +kernel
theorem dX1_describeLine_40 : decode cX1_describeLine 40 = .ok (.iload_n 1, 1) := by decide +kernel
theorem dX1_describeLine_41 : decode cX1_describeLine 41 = .ok (.invokevirtual 98, 3) := by decide +kernel
theorem dX1_describeLine_44 : decode cX1_describeLine 44 = .ok (.goto 19, 3) := by decide +kernel
theorem dX1_describeLine_47 : decode cX1_describeLine 47 = .ok (.iload 4, 2) := by decide +kernel
theorem dX1_describeLine_49 : decode cX1_describeLine 49 = .ok (.ifCond .eq 14, 3) := by decide +kernel
theorem dX1_describeLine_52 : decode cX1_describeLine 52 = .ok (.aload_n 0, 1) := by decide +kernel
theorem dX1_describeLine_53 : decode cX1_describeLine 53 = .ok (.getfield 24, 3) := by decide +kernel
theorem dX1_describeLine_56 : decode cX1_describeLine 56 = .ok (.iload_n 1, 1) := by decide +kernel
theorem dX1_describeLine_57 : decode cX1_describeLine 57 = .ok (.iconst 1, 1) := by decide +kernel
theorem dX1_describeLine_58 : decode cX1_describeLine 58 = .ok (.iload 4, 2) := by decide +kernel
theorem dX1_describeLine_60 : decode cX1_describeLine 60 = .ok (.invokevirtual 101, 3) := by decide +kernel
theorem dX1_describeLine_63 : decode cX1_describeLine 63 = .ok (.iload 4, 2) := by decide +kernel
theorem dX1_describeLine_65 : decode cX1_describeLine 65 = .ok (.istore_n 2, 1) := by decide +kernel
theorem dX1_describeLine_66 : decode cX1_describeLine 66 = .ok (.iinc 3 1, 3) := by decide +kernel
theorem dX1_describeLine_69 : decode cX1_describeLine 69 = .ok (.goto (-65), 3) := by decide +kernel
theorem dX1_describeLine_72 : decode cX1_describeLine 72 = .ok (.return_, 1) := by decide +kernel
theorem dX2_init_0 : decode cX2_init 0 = .ok (.aload_n 0, 1) := by decide +kernel
theorem dX2_init_1 : decode cX2_init 1 = .ok (.invokespecial 3, 3) := by decide +kernel
theorem dX2_init_4 : decode cX2_init 4 = .ok (.aload_n 0, 1) := by decide +kernel
theorem dX2_init_5 : decode cX2_init 5 = .ok (.bipush 8, 2) := by decide +kernel
theorem dX2_init_7 : decode cX2_init 7 = .ok (.anewarray 9, 3) := by decide +kernel
theorem dX2_init_10 : decode cX2_init 10 = .ok (.putfield 11, 3) := by decide +kernel
theorem dX2_init_13 : decode cX2_init 13 = .ok (.aload_n 0, 1) := by decide +kernel
theorem dX2_init_14 : decode cX2_init 14 = .ok (.iconst 0, 1) := by decide +kernel
theorem dX2_init_15 : decode cX2_init 15 = .ok (.putfield 17, 3) := by decide +kernel
theorem dX2_init_18 : decode cX2_init 18 = .ok (.aload_n 0, 1) := by decide +kernel
theorem dX2_init_19 : decode cX2_init 19 = .ok (.iconst 0, 1) := by decide +kernel
theorem dX2_init_20 : decode cX2_init 20 = .ok (.putfield 21, 3) := by decide +kernel
theorem dX2_init_23 : decode cX2_init 23 = .ok (.iconst 0, 1) := by decide +kernel
theorem dX2_init_24 : decode cX2_init 24 = .ok (.istore_n 1, 1) := by decide +kernel
theorem dX2_init_25 : decode cX2_init 25 = .ok (.iload_n 1, 1) := by decide +kernel
theorem dX2_init_26 : decode cX2_init 26 = .ok (.bipush 8, 2) := by decide +kernel
theorem dX2_init_28 : decode cX2_init 28 = .ok (.if_icmp .ge 22, 3) := by decide +kernel
theorem dX2_init_31 : decode cX2_init 31 = .ok (.aload_n 0, 1) := by decide +kernel
theorem dX2_init_32 : decode cX2_init 32 = .ok (.getfield 11, 3) := by decide +kernel
theorem dX2_init_35 : decode cX2_init 35 = .ok (.iload_n 1, 1) := by decide +kernel
theorem dX2_init_36 : decode cX2_init 36 = .ok (.new 9, 3) := by decide +kernel
theorem dX2_init_39 : decode cX2_init 39 = .ok (.dup, 1) := by decide +kernel
theorem dX2_init_40 : decode cX2_init 40 = .ok (.invokespecial 24, 3) := by decide +kernel
theorem dX2_init_43 : decode cX2_init 43 = .ok (.aastore, 1) := by decide +kernel
theorem dX2_init_44 : decode cX2_init 44 = .ok (.iinc 1 1, 3) := by decide +kernel
theorem dX2_init_47 : decode cX2_init 47 = .ok (.goto (-22), 3) := by decide +kernel
theorem dX2_init_50 : decode cX2_init 50 = .ok (.return_, 1) := by decide +kernel
theorem dX2_forget_0 : decode cX2_forget 0 = .ok (.aload_n 0, 1) := by decide +kernel
theorem dX2_forget_1 : decode cX2_forget 1 = .ok (.iconst 0, 1) := by decide +kernel
theorem dX2_forget_2 : decode cX2_forget 2 = .ok (.putfield 21, 3) := by decide +kernel
theorem dX2_forget_5 : decode cX2_forget 5 = .ok (.return_, 1) := by decide +kernel
theorem dX2_push_0 : decode cX2_push 0 = .ok (.aload_n 0, 1) := by decide +kernel
theorem dX2_push_1 : decode cX2_push 1 = .ok (.getfield 11, 3) := by decide +kernel
theorem dX2_push_4 : decode cX2_push 4 = .ok (.aload_n 0, 1) := by decide +kernel
theorem dX2_push_5 : decode cX2_push 5 = .ok (.getfield 17, 3) := by decide +kernel
theorem dX2_push_8 : decode cX2_push 8 = .ok (.aaload, 1) := by decide +kernel
theorem dX2_push_9 : decode cX2_push 9 = .ok (.aload_n 1, 1) := by decide +kernel
theorem dX2_push_10 : decode cX2_push 10 = .ok (.invokevirtual 25, 3) := by decide +kernel
theorem dX2_push_13 : decode cX2_push 13 = .ok (.aload_n 0, 1) := by decide +kernel
theorem dX2_push_14 : decode cX2_push 14 = .ok (.aload_n 0, 1) := by decide +kernel
theorem dX2_push_15 : decode cX2_push 15 = .ok (.getfield 17, 3) := by decide +kernel
theorem dX2_push_18 : decode cX2_push 18 = .ok (.iconst 1, 1) := by decide +kernel
theorem dX2_push_19 : decode cX2_push 19 = .ok (.iadd, 1) := by decide +kernel
theorem dX2_push_20 : decode cX2_push 20 = .ok (.bipush 8, 2) := by decide +kernel
theorem dX2_push_22 : decode cX2_push 22 = .ok (.irem, 1) := by decide +kernel
theorem dX2_push_23 : decode cX2_push 23 = .ok (.putfield 17, 3) := by decide +kernel
theorem dX2_push_26 : decode cX2_push 26 = .ok (.aload_n 0, 1) := by decide +kernel
theorem dX2_push_27 : decode cX2_push 27 = .ok (.aload_n 0, 1) := by decide +kernel
theorem dX2_push_28 : decode cX2_push 28 = .ok (.getfield 21, 3) := by decide +kernel
theorem dX2_push_31 : decode cX2_push 31 = .ok (.iconst 1, 1) := by decide +kernel
theorem dX2_push_32 : decode cX2_push 32 = .ok (.iadd, 1) := by decide +kernel
theorem dX2_push_33 : decode cX2_push 33 = .ok (.bipush 8, 2) := by decide +kernel
theorem dX2_push_35 : decode cX2_push 35 = .ok (.invokestatic 29, 3) := by decide +kernel
theorem dX2_push_38 : decode cX2_push 38 = .ok (.putfield 21, 3) := by decide +kernel
theorem dX2_push_41 : decode cX2_push 41 = .ok (.return_, 1) := by decide +kernel
theorem dX2_pop_0 : decode cX2_pop 0 = .ok (.aload_n 0, 1) := by decide +kernel
theorem dX2_pop_1 : decode cX2_pop 1 = .ok (.getfield 21, 3) := by decide +kernel
theorem dX2_pop_4 : decode cX2_pop 4 = .ok (.ifCond .ne 5, 3) := by decide +kernel
theorem dX2_pop_7 : decode cX2_pop 7 = .ok (.iconst 0, 1) := by decide +kernel
theorem dX2_pop_8 : decode cX2_pop 8 = .ok (.ireturn, 1) := by decide +kernel
theorem dX2_pop_9 : decode cX2_pop 9 = .ok (.aload_n 0, 1) := by decide +kernel
theorem dX2_pop_10 : decode cX2_pop 10 = .ok (.dup, 1) := by decide +kernel
theorem dX2_pop_11 : decode cX2_pop 11 = .ok (.getfield 21, 3) := by decide +kernel
theorem dX2_pop_14 : decode cX2_pop 14 = .ok (.iconst 1, 1) := by decide +kernel
theorem dX2_pop_15 : decode cX2_pop 15 = .ok (.isub, 1) := by decide +kernel
theorem dX2_pop_16 : decode cX2_pop 16 = .ok (.putfield 21, 3) := by decide +kernel
theorem dX2_pop_19 : decode cX2_pop 19 = .ok (.aload_n 0, 1) := by decide +kernel
theorem dX2_pop_20 : decode cX2_pop 20 = .ok (.aload_n 0, 1) := by decide +kernel
theorem dX2_pop_21 : decode cX2_pop 21 = .ok (.getfield 17, 3) := by decide +kernel
theorem dX2_pop_24 : decode cX2_pop 24 = .ok (.bipush 8, 2) := by decide +kernel
theorem dX2_pop_26 : decode cX2_pop 26 = .ok (.iadd, 1) := by decide +kernel
theorem dX2_pop_27 : decode cX2_pop 27 = .ok (.iconst 1, 1) := by decide +kernel
theorem dX2_pop_28 : decode cX2_pop 28 = .ok (.isub, 1) := by decide +kernel
theorem dX2_pop_29 : decode cX2_pop 29 = .ok (.bipush 8, 2) := by decide +kernel
theorem dX2_pop_31 : decode cX2_pop 31 = .ok (.irem, 1) := by decide +kernel
theorem dX2_pop_32 : decode cX2_pop 32 = .ok (.putfield 17, 3) := by decide +kernel
theorem dX2_pop_35 : decode cX2_pop 35 = .ok (.aload_n 1, 1) := by decide +kernel
theorem dX2_pop_36 : decode cX2_pop 36 = .ok (.aload_n 0, 1) := by decide +kernel
theorem dX2_pop_37 : decode cX2_pop 37 = .ok (.getfield 11, 3) := by decide +kernel
theorem dX2_pop_40 : decode cX2_pop 40 = .ok (.aload_n 0, 1) := by decide +kernel
theorem dX2_pop_41 : decode cX2_pop 41 = .ok (.getfield 17, 3) := by decide +kernel
theorem dX2_pop_44 : decode cX2_pop 44 = .ok (.aaload, 1) := by decide +kernel
theorem dX2_pop_45 : decode cX2_pop 45 = .ok (.invokevirtual 25, 3) := by decide +kernel
theorem dX2_pop_48 : decode cX2_pop 48 = .ok (.iconst 1, 1) := by decide +kernel
theorem dX2_pop_49 : decode cX2_pop 49 = .ok (.ireturn, 1) := by decide +kernel
theorem dX3_init_0 : decode cX3_init 0 = .ok (.aload_n 0, 1) := by decide +kernel
theorem dX3_init_1 : decode cX3_init 1 = .ok (.invokespecial 3, 3) := by decide +kernel
theorem dX3_init_4 : decode cX3_init 4 = .ok (.aload_n 0, 1) := by decide +kernel
theorem dX3_init_5 : decode cX3_init 5 = .ok (.iconst 0, 1) := by decide +kernel
theorem dX3_init_6 : decode cX3_init 6 = .ok (.putfield 9, 3) := by decide +kernel
theorem dX3_init_9 : decode cX3_init 9 = .ok (.aload_n 0, 1) := by decide +kernel
theorem dX3_init_10 : decode cX3_init 10 = .ok (.iconst 0, 1) := by decide +kernel
theorem dX3_init_11 : decode cX3_init 11 = .ok (.putfield 15, 3) := by decide +kernel
theorem dX3_init_14 : decode cX3_init 14 = .ok (.aload_n 0, 1) := by decide +kernel
theorem dX3_init_15 : decode cX3_init 15 = .ok (.bipush 8, 2) := by decide +kernel
theorem dX3_init_17 : decode cX3_init 17 = .ok (.newarray .int, 2) := by decide +kernel
theorem dX3_init_19 : decode cX3_init 19 = .ok (.putfield 18, 3) := by decide +kernel
theorem dX3_init_22 : decode cX3_init 22 = .ok (.aload_n 0, 1) := by decide +kernel
theorem dX3_init_23 : decode cX3_init 23 = .ok (.bipush 8, 2) := by decide +kernel
theorem dX3_init_25 : decode cX3_init 25 = .ok (.newarray .int, 2) := by decide +kernel
theorem dX3_init_27 : decode cX3_init 27 = .ok (.putfield 22, 3) := by decide +kernel
theorem dX3_init_30 : decode cX3_init 30 = .ok (.aload_n 0, 1) := by decide +kernel
theorem dX3_init_31 : decode cX3_init 31 = .ok (.bipush 8, 2) := by decide +kernel
theorem dX3_init_33 : decode cX3_init 33 = .ok (.newarray .int, 2) := by decide +kernel
theorem dX3_init_35 : decode cX3_init 35 = .ok (.putfield 25, 3) := by decide +kernel
theorem dX3_init_38 : decode cX3_init 38 = .ok (.aload_n 0, 1) := by decide +kernel
theorem dX3_init_39 : decode cX3_init 39 = .ok (.bipush 8, 2) := by decide +kernel
theorem dX3_init_41 : decode cX3_init 41 = .ok (.newarray .int, 2) := by decide +kernel
theorem dX3_init_43 : decode cX3_init 43 = .ok (.putfield 28, 3) := by decide +kernel
theorem dX3_init_46 : decode cX3_init 46 = .ok (.aload_n 0, 1) := by decide +kernel
theorem dX3_init_47 : decode cX3_init 47 = .ok (.iconst 4, 1) := by decide +kernel
theorem dX3_init_48 : decode cX3_init 48 = .ok (.newarray .int, 2) := by decide +kernel
theorem dX3_init_50 : decode cX3_init 50 = .ok (.putfield 31, 3) := by decide +kernel
theorem dX3_init_53 : decode cX3_init 53 = .ok (.aload_n 0, 1) := by decide +kernel
theorem dX3_init_54 : decode cX3_init 54 = .ok (.iconst 4, 1) := by decide +kernel
theorem dX3_init_55 : decode cX3_init 55 = .ok (.newarray .int, 2) := by decide +kernel
theorem dX3_init_57 : decode cX3_init 57 = .ok (.putfield 34, 3) := by decide +kernel
theorem dX3_init_60 : decode cX3_init 60 = .ok (.aload_n 0, 1) := by decide +kernel
theorem dX3_init_61 : decode cX3_init 61 = .ok (.bipush 9, 2) := by decide +kernel
theorem dX3_init_63 : decode cX3_init 63 = .ok (.newarray .int, 2) := by decide +kernel
theorem dX3_init_65 : decode cX3_init 65 = .ok (.putfield 37, 3) := by decide +kernel
theorem dX3_init_68 : decode cX3_init 68 = .ok (.aload_n 0, 1) := by decide +kernel
theorem dX3_init_69 : decode cX3_init 69 = .ok (.bipush 81, 2) := by decide +kernel
theorem dX3_init_71 : decode cX3_init 71 = .ok (.newarray .int, 2) := by decide +kernel
theorem dX3_init_73 : decode cX3_init 73 = .ok (.putfield 40, 3) := by decide +kernel
theorem dX3_init_76 : decode cX3_init 76 = .ok (.aload_n 0, 1) := by decide +kernel
theorem dX3_init_77 : decode cX3_init 77 = .ok (.iconst 0, 1) := by decide +kernel
theorem dX3_init_78 : decode cX3_init 78 = .ok (.putfield 43, 3) := by decide +kernel
theorem dX3_init_81 : decode cX3_init 81 = .ok (.aload_n 0, 1) := by decide +kernel
theorem dX3_init_82 : decode cX3_init 82 = .ok (.iconst 0, 1) := by decide +kernel
theorem dX3_init_83 : decode cX3_init 83 = .ok (.putfield 46, 3) := by decide +kernel
theorem dX3_init_86 : decode cX3_init 86 = .ok (.return_, 1) := by decide +kernel
theorem dX3_load_0 : decode cX3_load 0 = .ok (.aload_n 0, 1) := by decide +kernel
theorem dX3_load_1 : decode cX3_load 1 = .ok (.aload_n 1, 1) := by decide +kernel
theorem dX3_load_2 : decode cX3_load 2 = .ok (.iload_n 2, 1) := by decide +kernel
theorem dX3_load_3 : decode cX3_load 3 = .ok (.invokevirtual 49, 3) := by decide +kernel
theorem dX3_load_6 : decode cX3_load 6 = .ok (.putfield 9, 3) := by decide +kernel
theorem dX3_load_9 : decode cX3_load 9 = .ok (.aload_n 0, 1) := by decide +kernel
theorem dX3_load_10 : decode cX3_load 10 = .ok (.aload_n 1, 1) := by decide +kernel
theorem dX3_load_11 : decode cX3_load 11 = .ok (.getfield 55, 3) := by decide +kernel
theorem dX3_load_14 : decode cX3_load 14 = .ok (.iload_n 2, 1) := by decide +kernel
theorem dX3_load_15 : decode cX3_load 15 = .ok (.invokevirtual 59, 3) := by decide +kernel
theorem dX3_load_18 : decode cX3_load 18 = .ok (.putfield 15, 3) := by decide +kernel
theorem dX3_load_21 : decode cX3_load 21 = .ok (.aload_n 0, 1) := by decide +kernel
theorem dX3_load_22 : decode cX3_load 22 = .ok (.aload_n 1, 1) := by decide +kernel
theorem dX3_load_23 : decode cX3_load 23 = .ok (.iload_n 2, 1) := by decide +kernel
theorem dX3_load_24 : decode cX3_load 24 = .ok (.invokevirtual 64, 3) := by decide +kernel
theorem dX3_load_27 : decode cX3_load 27 = .ok (.aload_n 0, 1) := by decide +kernel
theorem dX3_load_28 : decode cX3_load 28 = .ok (.aload_n 1, 1) := by decide +kernel
theorem dX3_load_29 : decode cX3_load 29 = .ok (.getfield 55, 3) := by decide +kernel
theorem dX3_load_32 : decode cX3_load 32 = .ok (.iload_n 2, 1) := by decide +kernel
theorem dX3_load_33 : decode cX3_load 33 = .ok (.invokevirtual 68, 3) := by decide +kernel
theorem dX3_load_36 : decode cX3_load 36 = .ok (.aload_n 0, 1) := by decide +kernel
theorem dX3_load_37 : decode cX3_load 37 = .ok (.invokevirtual 72, 3) := by decide +kernel
theorem dX3_load_40 : decode cX3_load 40 = .ok (.return_, 1) := by decide +kernel
theorem dX3_loadCandidates_0 : decode cX3_loadCandidates 0 = .ok (.aload_n 0, 1) := by decide +kernel
theorem dX3_loadCandidates_1 : decode cX3_loadCandidates 1 = .ok (.getfield 31, 3) := by decide +kernel
theorem dX3_loadCandidates_4 : decode cX3_loadCandidates 4 = .ok (.iconst 0, 1) := by decide +kernel
theorem dX3_loadCandidates_5 : decode cX3_loadCandidates 5 = .ok (.invokestatic 75, 3) := by decide +kernel
theorem dX3_loadCandidates_8 : decode cX3_loadCandidates 8 = .ok (.iconst 0, 1) := by decide +kernel
theorem dX3_loadCandidates_9 : decode cX3_loadCandidates 9 = .ok (.istore_n 3, 1) := by decide +kernel
theorem dX3_loadCandidates_10 : decode cX3_loadCandidates 10 = .ok (.iload_n 3, 1) := by decide +kernel
theorem dX3_loadCandidates_11 : decode cX3_loadCandidates 11 = .ok (.aload_n 0, 1) := by decide +kernel
theorem dX3_loadCandidates_12 : decode cX3_loadCandidates 12 = .ok (.getfield 9, 3) := by decide +kernel
theorem dX3_loadCandidates_15 : decode cX3_loadCandidates 15 = .ok (.if_icmp .ge 56, 3) := by decide +kernel
theorem dX3_loadCandidates_18 : decode cX3_loadCandidates 18 = .ok (.aload_n 1, 1) := by decide +kernel
theorem dX3_loadCandidates_19 : decode cX3_loadCandidates 19 = .ok (.getfield 81, 3) := by decide +kernel
theorem dX3_loadCandidates_22 : decode cX3_loadCandidates 22 = .ok (.aload_n 1, 1) := by decide +kernel
theorem dX3_loadCandidates_23 : decode cX3_loadCandidates 23 = .ok (.iload_n 2, 1) := by decide +kernel
theorem dX3_loadCandidates_24 : decode cX3_loadCandidates 24 = .ok (.iload_n 3, 1) := by decide +kernel
theorem dX3_loadCandidates_25 : decode cX3_loadCandidates 25 = .ok (.invokevirtual 84, 3) := by decide +kernel
theorem dX3_loadCandidates_28 : decode cX3_loadCandidates 28 = .ok (.iaload, 1) := by decide +kernel
theorem dX3_loadCandidates_29 : decode cX3_loadCandidates 29 = .ok (.istore 4, 2) := by decide +kernel
theorem dX3_loadCandidates_31 : decode cX3_loadCandidates 31 = .ok (.iconst 0, 1) := by decide +kernel
theorem dX3_loadCandidates_32 : decode cX3_loadCandidates 32 = .ok (.istore 5, 2) := by decide +kernel
theorem dX3_loadCandidates_34 : decode cX3_loadCandidates 34 = .ok (.iload 5, 2) := by decide +kernel
theorem dX3_loadCandidates_36 : decode cX3_loadCandidates 36 = .ok (.iconst 3, 1) := by decide +kernel
theorem dX3_loadCandidates_37 : decode cX3_loadCandidates 37 = .ok (.if_icmp .gt 28, 3) := by decide +kernel
theorem dX3_loadCandidates_40 : decode cX3_loadCandidates 40 = .ok (.aload_n 0, 1) := by decide +kernel
theorem dX3_loadCandidates_41 : decode cX3_loadCandidates 41 = .ok (.getfield 31, 3) := by decide +kernel
theorem dX3_loadCandidates_44 : decode cX3_loadCandidates 44 = .ok (.iload 5, 2) := by decide +kernel
theorem dX3_loadCandidates_46 : decode cX3_loadCandidates 46 = .ok (.dup2, 1) := by decide +kernel
theorem dX3_loadCandidates_47 : decode cX3_loadCandidates 47 = .ok (.iaload, 1) := by decide +kernel
theorem dX3_loadCandidates_48 : decode cX3_loadCandidates 48 = .ok (.iload 4, 2) := by decide +kernel
theorem dX3_loadCandidates_50 : decode cX3_loadCandidates 50 = .ok (.iload 5, 2) := by decide +kernel
theorem dX3_loadCandidates_52 : decode cX3_loadCandidates 52 = .ok (.ishr, 1) := by decide +kernel
theorem dX3_loadCandidates_53 : decode cX3_loadCandidates 53 = .ok (.iconst 1, 1) := by decide +kernel
theorem dX3_loadCandidates_54 : decode cX3_loadCandidates 54 = .ok (.iand, 1) := by decide +kernel
theorem dX3_loadCandidates_55 : decode cX3_loadCandidates 55 = .ok (.iload_n 3, 1) := by decide +kernel
theorem dX3_loadCandidates_56 : decode cX3_loadCandidates 56 = .ok (.ishl, 1) := by decide +kernel
theorem dX3_loadCandidates_57 : decode cX3_loadCandidates 57 = .ok (.ior, 1) := by decide +kernel
theorem dX3_loadCandidates_58 : decode cX3_loadCandidates 58 = .ok (.iastore, 1) := by decide +kernel
theorem dX3_loadCandidates_59 : decode cX3_loadCandidates 59 = .ok (.iinc 5 1, 3) := by decide +kernel
theorem dX3_loadCandidates_62 : decode cX3_loadCandidates 62 = .ok (.goto (-28), 3) := by decide +kernel
theorem dX3_loadCandidates_65 : decode cX3_loadCandidates 65 = .ok (.iinc 3 1, 3) := by decide +kernel
theorem dX3_loadCandidates_68 : decode cX3_loadCandidates 68 = .ok (.goto (-58), 3) := by decide +kernel
theorem dX3_loadCandidates_71 : decode cX3_loadCandidates 71 = .ok (.return_, 1) := by decide +kernel
theorem dX3_loadRuns_0 : decode cX3_loadRuns 0 = .ok (.iconst 0, 1) := by decide +kernel
theorem dX3_loadRuns_1 : decode cX3_loadRuns 1 = .ok (.istore_n 3, 1) := by decide +kernel
theorem dX3_loadRuns_2 : decode cX3_loadRuns 2 = .ok (.iload_n 3, 1) := by decide +kernel
theorem dX3_loadRuns_3 : decode cX3_loadRuns 3 = .ok (.aload_n 0, 1) := by decide +kernel
theorem dX3_loadRuns_4 : decode cX3_loadRuns 4 = .ok (.getfield 15, 3) := by decide +kernel
theorem dX3_loadRuns_7 : decode cX3_loadRuns 7 = .ok (.if_icmp .ge 117, 3) := by decide +kernel
theorem dX3_loadRuns_10 : decode cX3_loadRuns 10 = .ok (.aload_n 1, 1) := by decide +kernel
theorem dX3_loadRuns_11 : decode cX3_loadRuns 11 = .ok (.iload_n 2, 1) := by decide +kernel
theorem dX3_loadRuns_12 : decode cX3_loadRuns 12 = .ok (.iload_n 3, 1) := by decide +kernel
theorem dX3_loadRuns_13 : decode cX3_loadRuns 13 = .ok (.invokevirtual 88, 3) := by decide +kernel
theorem dX3_loadRuns_16 : decode cX3_loadRuns 16 = .ok (.istore 4, 2) := by decide +kernel
theorem dX3_loadRuns_18 : decode cX3_loadRuns 18 = .ok (.aload_n 0, 1) := by decide +kernel
theorem dX3_loadRuns_19 : decode cX3_loadRuns 19 = .ok (.getfield 18, 3) := by decide +kernel
theorem dX3_loadRuns_22 : decode cX3_loadRuns 22 = .ok (.iload_n 3, 1) := by decide +kernel
theorem dX3_loadRuns_23 : decode cX3_loadRuns 23 = .ok (.aload_n 1, 1) := by decide +kernel
theorem dX3_loadRuns_24 : decode cX3_loadRuns 24 = .ok (.iload_n 2, 1) := by decide +kernel
theorem dX3_loadRuns_25 : decode cX3_loadRuns 25 = .ok (.iload_n 3, 1) := by decide +kernel
theorem dX3_loadRuns_26 : decode cX3_loadRuns 26 = .ok (.invokevirtual 92, 3) := by decide +kernel
theorem dX3_loadRuns_29 : decode cX3_loadRuns 29 = .ok (.iastore, 1) := by decide +kernel
theorem dX3_loadRuns_30 : decode cX3_loadRuns 30 = .ok (.aload_n 0, 1) := by decide +kernel
theorem dX3_loadRuns_31 : decode cX3_loadRuns 31 = .ok (.getfield 22, 3) := by decide +kernel
theorem dX3_loadRuns_34 : decode cX3_loadRuns 34 = .ok (.iload_n 3, 1) := by decide +kernel
theorem dX3_loadRuns_35 : decode cX3_loadRuns 35 = .ok (.aload_n 1, 1) := by decide +kernel
theorem dX3_loadRuns_36 : decode cX3_loadRuns 36 = .ok (.iload_n 2, 1) := by decide +kernel
theorem dX3_loadRuns_37 : decode cX3_loadRuns 37 = .ok (.iload_n 3, 1) := by decide +kernel
theorem dX3_loadRuns_38 : decode cX3_loadRuns 38 = .ok (.invokevirtual 95, 3) := by decide +kernel
theorem dX3_loadRuns_41 : decode cX3_loadRuns 41 = .ok (.iastore, 1) := by decide +kernel
theorem dX3_loadRuns_42 : decode cX3_loadRuns 42 = .ok (.aload_n 0, 1) := by decide +kernel
theorem dX3_loadRuns_43 : decode cX3_loadRuns 43 = .ok (.getfield 25, 3) := by decide +kernel
theorem dX3_loadRuns_46 : decode cX3_loadRuns 46 = .ok (.iload_n 3, 1) := by decide +kernel
theorem dX3_loadRuns_47 : decode cX3_loadRuns 47 = .ok (.aload_n 0, 1) := by decide +kernel
theorem dX3_loadRuns_48 : decode cX3_loadRuns 48 = .ok (.getfield 18, 3) := by decide +kernel
theorem dX3_loadRuns_51 : decode cX3_loadRuns 51 = .ok (.iload_n 3, 1) := by decide +kernel
theorem dX3_loadRuns_52 : decode cX3_loadRuns 52 = .ok (.iaload, 1) := by decide +kernel
theorem dX3_loadRuns_53 : decode cX3_loadRuns 53 = .ok (.iload 4, 2) := by decide +kernel
theorem dX3_loadRuns_55 : decode cX3_loadRuns 55 = .ok (.ifCond .eq 7, 3) := by decide +kernel
theorem dX3_loadRuns_58 : decode cX3_loadRuns 58 = .ok (.iconst 1, 1) := by decide +kernel
theorem dX3_loadRuns_59 : decode cX3_loadRuns 59 = .ok (.goto 4, 3) := by decide +kernel
theorem dX3_loadRuns_62 : decode cX3_loadRuns 62 = .ok (.iconst 0, 1) := by decide +kernel
theorem dX3_loadRuns_63 : decode cX3_loadRuns 63 = .ok (.iadd, 1) := by decide +kernel
theorem dX3_loadRuns_64 : decode cX3_loadRuns 64 = .ok (.iastore, 1) := by decide +kernel
theorem dX3_loadRuns_65 : decode cX3_loadRuns 65 = .ok (.aload_n 0, 1) := by decide +kernel
theorem dX3_loadRuns_66 : decode cX3_loadRuns 66 = .ok (.getfield 28, 3) := by decide +kernel
theorem dX3_loadRuns_69 : decode cX3_loadRuns 69 = .ok (.iload_n 3, 1) := by decide +kernel
theorem dX3_loadRuns_70 : decode cX3_loadRuns 70 = .ok (.aload_n 0, 1) := by decide +kernel
theorem dX3_loadRuns_71 : decode cX3_loadRuns 71 = .ok (.getfield 18, 3) := by decide +kernel
theorem dX3_loadRuns_74 : decode cX3_loadRuns 74 = .ok (.iload_n 3, 1) := by decide +kernel
theorem dX3_loadRuns_75 : decode cX3_loadRuns 75 = .ok (.iaload, 1) := by decide +kernel
theorem dX3_loadRuns_76 : decode cX3_loadRuns 76 = .ok (.aload_n 0, 1) := by decide +kernel
theorem dX3_loadRuns_77 : decode cX3_loadRuns 77 = .ok (.getfield 31, 3) := by decide +kernel
theorem dX3_loadRuns_80 : decode cX3_loadRuns 80 = .ok (.aload_n 0, 1) := by decide +kernel
theorem dX3_loadRuns_81 : decode cX3_loadRuns 81 = .ok (.getfield 22, 3) := by decide +kernel
theorem dX3_loadRuns_84 : decode cX3_loadRuns 84 = .ok (.iload_n 3, 1) := by decide +kernel
theorem dX3_loadRuns_85 : decode cX3_loadRuns 85 = .ok (.iaload, 1) := by decide +kernel
theorem dX3_loadRuns_86 : decode cX3_loadRuns 86 = .ok (.iaload, 1) := by decide +kernel
theorem dX3_loadRuns_87 : decode cX3_loadRuns 87 = .ok (.invokestatic 98, 3) := by decide +kernel
theorem dX3_loadRuns_90 : decode cX3_loadRuns 90 = .ok (.iastore, 1) := by decide +kernel
theorem dX3_loadRuns_91 : decode cX3_loadRuns 91 = .ok (.iload 4, 2) := by decide +kernel
theorem dX3_loadRuns_93 : decode cX3_loadRuns 93 = .ok (.ifCond .eq 25, 3) := by decide +kernel
theorem dX3_loadRuns_96 : decode cX3_loadRuns 96 = .ok (.aload_n 0, 1) := by decide +kernel
theorem dX3_loadRuns_97 : decode cX3_loadRuns 97 = .ok (.getfield 28, 3) := by decide +kernel
theorem dX3_loadRuns_100 : decode cX3_loadRuns 100 = .ok (.iload_n 3, 1) := by decide +kernel
theorem dX3_loadRuns_101 : decode cX3_loadRuns 101 = .ok (.dup2, 1) := by decide +kernel
theorem dX3_loadRuns_102 : decode cX3_loadRuns 102 = .ok (.iaload, 1) := by decide +kernel
theorem dX3_loadRuns_103 : decode cX3_loadRuns 103 = .ok (.aload_n 0, 1) := by decide +kernel
theorem dX3_loadRuns_104 : decode cX3_loadRuns 104 = .ok (.getfield 31, 3) := by decide +kernel
theorem dX3_loadRuns_107 : decode cX3_loadRuns 107 = .ok (.iconst 0, 1) := by decide +kernel
theorem dX3_loadRuns_108 : decode cX3_loadRuns 108 = .ok (.iaload, 1) := by decide +kernel
theorem dX3_loadRuns_109 : decode cX3_loadRuns 109 = .ok (.aload_n 0, 1) := by decide +kernel
theorem dX3_loadRuns_110 : decode cX3_loadRuns 110 = .ok (.getfield 18, 3) := by decide +kernel
theorem dX3_loadRuns_113 : decode cX3_loadRuns 113 = .ok (.iload_n 3, 1) := by decide +kernel
theorem dX3_loadRuns_114 : decode cX3_loadRuns 114 = .ok (.iaload, 1) := by decide +kernel
theorem dX3_loadRuns_115 : decode cX3_loadRuns 115 = .ok (.ishr, 1) := by decide +kernel
theorem dX3_loadRuns_116 : decode cX3_loadRuns 116 = .ok (.iand, 1) := by decide +kernel
theorem dX3_loadRuns_117 : decode cX3_loadRuns 117 = .ok (.iastore, 1) := by decide +kernel
theorem dX3_loadRuns_118 : decode cX3_loadRuns 118 = .ok (.iinc 3 1, 3) := by decide +kernel
theorem dX3_loadRuns_121 : decode cX3_loadRuns 121 = .ok (.goto (-119), 3) := by decide +kernel
theorem dX3_loadRuns_124 : decode cX3_loadRuns 124 = .ok (.return_, 1) := by decide +kernel
theorem dX3_startsOf_0 : decode cX3_startsOf 0 = .ok (.iload_n 1, 1) := by decide +kernel
theorem dX3_startsOf_1 : decode cX3_startsOf 1 = .ok (.istore_n 2, 1) := by decide +kernel
theorem dX3_startsOf_2 : decode cX3_startsOf 2 = .ok (.iconst 1, 1) := by decide +kernel
theorem dX3_startsOf_3 : decode cX3_startsOf 3 = .ok (.istore_n 3, 1) := by decide +kernel
theorem dX3_startsOf_4 : decode cX3_startsOf 4 = .ok (.iload_n 3, 1) := by decide +kernel
theorem dX3_startsOf_5 : decode cX3_startsOf 5 = .ok (.iload_n 0, 1) := by decide +kernel
theorem dX3_startsOf_6 : decode cX3_startsOf 6 = .ok (.if_icmp .ge 15, 3) := by decide +kernel
theorem dX3_startsOf_9 : decode cX3_startsOf 9 = .ok (.iload_n 2, 1) := by decide +kernel
theorem dX3_startsOf_10 : decode cX3_startsOf 10 = .ok (.iload_n 1, 1) := by decide +kernel
theorem dX3_startsOf_11 : decode cX3_startsOf 11 = .ok (.iload_n 3, 1) := by decide +kernel
theorem dX3_startsOf_12 : decode cX3_startsOf 12 = .ok (.ishr, 1) := by decide +kernel
theorem dX3_startsOf_13 : decode cX3_startsOf 13 = .ok (.iand, 1) := by decide +kernel
theorem dX3_startsOf_14 : decode cX3_startsOf 14 = .ok (.istore_n 2, 1) := by decide +kernel
theorem dX3_startsOf_15 : decode cX3_startsOf 15 = .ok (.iinc 3 1, 3) := by decide +kernel
theorem dX3_startsOf_18 : decode cX3_startsOf 18 = .ok (.goto (-14), 3) := by decide +kernel
theorem dX3_startsOf_21 : decode cX3_startsOf 21 = .ok (.iload_n 2, 1) := by decide +kernel
theorem dX3_startsOf_22 : decode cX3_startsOf 22 = .ok (.ireturn, 1) := by decide +kernel
theorem dX3_countWays_0 : decode cX3_countWays 0 = .ok (.aload_n 0, 1) := by decide +kernel
theorem dX3_countWays_1 : decode cX3_countWays 1 = .ok (.getfield 15, 3) := by decide +kernel
theorem dX3_countWays_4 : decode cX3_countWays 4 = .ok (.istore_n 1, 1) := by decide +kernel
theorem dX3_countWays_5 : decode cX3_countWays 5 = .ok (.iload_n 1, 1) := by decide +kernel
theorem dX3_countWays_6 : decode cX3_countWays 6 = .ok (.ifCond .lt 76, 3) := by decide +kernel
theorem dX3_countWays_9 : decode cX3_countWays 9 = .ok (.iload_n 1, 1) := by decide +kernel
theorem dX3_countWays_10 : decode cX3_countWays 10 = .ok (.bipush 9, 2) := by decide +kernel
theorem dX3_countWays_12 : decode cX3_countWays 12 = .ok (.imul, 1) := by decide +kernel
theorem dX3_countWays_13 : decode cX3_countWays 13 = .ok (.istore_n 2, 1) := by decide +kernel
theorem dX3_countWays_14 : decode cX3_countWays 14 = .ok (.aload_n 0, 1) := by decide +kernel
theorem dX3_countWays_15 : decode cX3_countWays 15 = .ok (.getfield 40, 3) := by decide +kernel
theorem dX3_countWays_18 : decode cX3_countWays 18 = .ok (.iload_n 2, 1) := by decide +kernel
theorem dX3_countWays_19 : decode cX3_countWays 19 = .ok (.aload_n 0, 1) := by decide +kernel
theorem dX3_countWays_20 : decode cX3_countWays 20 = .ok (.getfield 9, 3) := by decide +kernel
theorem dX3_countWays_23 : decode cX3_countWays 23 = .ok (.iadd, 1) := by decide +kernel
theorem dX3_countWays_24 : decode cX3_countWays 24 = .ok (.iload_n 1, 1) := by decide +kernel
theorem dX3_countWays_25 : decode cX3_countWays 25 = .ok (.aload_n 0, 1) := by decide +kernel
theorem dX3_countWays_26 : decode cX3_countWays 26 = .ok (.getfield 15, 3) := by decide +kernel
theorem dX3_countWays_29 : decode cX3_countWays 29 = .ok (.if_icmp .ne 7, 3) := by decide +kernel
theorem dX3_countWays_32 : decode cX3_countWays 32 = .ok (.iconst 1, 1) := by decide +kernel
theorem dX3_countWays_33 : decode cX3_countWays 33 = .ok (.goto 4, 3) := by decide +kernel
theorem dX3_countWays_36 : decode cX3_countWays 36 = .ok (.iconst 0, 1) := by decide +kernel
theorem dX3_countWays_37 : decode cX3_countWays 37 = .ok (.iastore, 1) := by decide +kernel
theorem dX3_countWays_38 : decode cX3_countWays 38 = .ok (.aload_n 0, 1) := by decide +kernel
theorem dX3_countWays_39 : decode cX3_countWays 39 = .ok (.getfield 9, 3) := by decide +kernel
theorem dX3_countWays_42 : decode cX3_countWays 42 = .ok (.iconst 1, 1) := by decide +kernel
theorem dX3_countWays_43 : decode cX3_countWays 43 = .ok (.isub, 1) := by decide +kernel
theorem dX3_countWays_44 : decode cX3_countWays 44 = .ok (.istore_n 3, 1) := by decide +kernel
theorem dX3_countWays_45 : decode cX3_countWays 45 = .ok (.iload_n 3, 1) := by decide +kernel
theorem dX3_countWays_46 : decode cX3_countWays 46 = .ok (.ifCond .lt 30, 3) := by decide +kernel
theorem dX3_countWays_49 : decode cX3_countWays 49 = .ok (.aload_n 0, 1) := by decide +kernel
theorem dX3_countWays_50 : decode cX3_countWays 50 = .ok (.getfield 40, 3) := by decide +kernel
theorem dX3_countWays_53 : decode cX3_countWays 53 = .ok (.iload_n 2, 1) := by decide +kernel
theorem dX3_countWays_54 : decode cX3_countWays 54 = .ok (.iload_n 3, 1) := by decide +kernel
theorem dX3_countWays_55 : decode cX3_countWays 55 = .ok (.iadd, 1) := by decide +kernel
theorem dX3_countWays_56 : decode cX3_countWays 56 = .ok (.aload_n 0, 1) := by decide +kernel
theorem dX3_countWays_57 : decode cX3_countWays 57 = .ok (.iload_n 1, 1) := by decide +kernel
theorem dX3_countWays_58 : decode cX3_countWays 58 = .ok (.iload_n 3, 1) := by decide +kernel
theorem dX3_countWays_59 : decode cX3_countWays 59 = .ok (.invokevirtual 101, 3) := by decide +kernel
theorem dX3_countWays_62 : decode cX3_countWays 62 = .ok (.aload_n 0, 1) := by decide +kernel
theorem dX3_countWays_63 : decode cX3_countWays 63 = .ok (.iload_n 1, 1) := by decide +kernel
theorem dX3_countWays_64 : decode cX3_countWays 64 = .ok (.iload_n 3, 1) := by decide +kernel
theorem dX3_countWays_65 : decode cX3_countWays 65 = .ok (.invokevirtual 104, 3) := by decide +kernel
theorem dX3_countWays_68 : decode cX3_countWays 68 = .ok (.iadd, 1) := by decide +kernel
theorem dX3_countWays_69 : decode cX3_countWays 69 = .ok (.iastore, 1) := by decide +kernel
theorem dX3_countWays_70 : decode cX3_countWays 70 = .ok (.iinc 3 (-1), 3) := by decide +kernel
theorem dX3_countWays_73 : decode cX3_countWays 73 = .ok (.goto (-28), 3) := by decide +kernel
theorem dX3_countWays_76 : decode cX3_countWays 76 = .ok (.iinc 1 (-1), 3) := by decide +kernel
theorem dX3_countWays_79 : decode cX3_countWays 79 = .ok (.goto (-74), 3) := by decide +kernel
theorem dX3_countWays_82 : decode cX3_countWays 82 = .ok (.return_, 1) := by decide +kernel
theorem dX3_whiteWays_0 : decode cX3_whiteWays 0 = .ok (.aload_n 0, 1) := by decide +kernel
theorem dX3_whiteWays_1 : decode cX3_whiteWays 1 = .ok (.getfield 31, 3) := by decide +kernel
theorem dX3_whiteWays_4 : decode cX3_whiteWays 4 = .ok (.iconst 0, 1) := by decide +kernel
theorem dX3_whiteWays_5 : decode cX3_whiteWays 5 = .ok (.iaload, 1) := by decide +kernel
theorem dX3_whiteWays_6 : decode cX3_whiteWays 6 = .ok (.iload_n 2, 1) := by decide +kernel
theorem dX3_whiteWays_7 : decode cX3_whiteWays 7 = .ok (.ishr, 1) := by decide +kernel
theorem dX3_whiteWays_8 : decode cX3_whiteWays 8 = .ok (.iconst 1, 1) := by decide +kernel
theorem dX3_whiteWays_9 : decode cX3_whiteWays 9 = .ok (.iand, 1) := by decide +kernel
theorem dX3_whiteWays_10 : decode cX3_whiteWays 10 = .ok (.ifCond .eq 7, 3) := by decide +kernel
theorem dX3_whiteWays_13 : decode cX3_whiteWays 13 = .ok (.iconst 1, 1) := by decide +kernel
theorem dX3_whiteWays_14 : decode cX3_whiteWays 14 = .ok (.goto 4, 3) := by decide +kernel
theorem dX3_whiteWays_17 : decode cX3_whiteWays 17 = .ok (.iconst 0, 1) := by decide +kernel
theorem dX3_whiteWays_18 : decode cX3_whiteWays 18 = .ok (.istore_n 3, 1) := by decide +kernel
theorem dX3_whiteWays_19 : decode cX3_whiteWays 19 = .ok (.iload_n 3, 1) := by decide +kernel
theorem dX3_whiteWays_20 : decode cX3_whiteWays 20 = .ok (.ifCond .eq 19, 3) := by decide +kernel
theorem dX3_whiteWays_23 : decode cX3_whiteWays 23 = .ok (.aload_n 0, 1) := by decide +kernel
theorem dX3_whiteWays_24 : decode cX3_whiteWays 24 = .ok (.getfield 40, 3) := by decide +kernel
theorem dX3_whiteWays_27 : decode cX3_whiteWays 27 = .ok (.iload_n 1, 1) := by decide +kernel
theorem dX3_whiteWays_28 : decode cX3_whiteWays 28 = .ok (.bipush 9, 2) := by decide +kernel
theorem dX3_whiteWays_30 : decode cX3_whiteWays 30 = .ok (.imul, 1) := by decide +kernel
theorem dX3_whiteWays_31 : decode cX3_whiteWays 31 = .ok (.iload_n 2, 1) := by decide +kernel
theorem dX3_whiteWays_32 : decode cX3_whiteWays 32 = .ok (.iadd, 1) := by decide +kernel
theorem dX3_whiteWays_33 : decode cX3_whiteWays 33 = .ok (.iconst 1, 1) := by decide +kernel
theorem dX3_whiteWays_34 : decode cX3_whiteWays 34 = .ok (.iadd, 1) := by decide +kernel
theorem dX3_whiteWays_35 : decode cX3_whiteWays 35 = .ok (.iaload, 1) := by decide +kernel
theorem dX3_whiteWays_36 : decode cX3_whiteWays 36 = .ok (.goto 4, 3) := by decide +kernel
theorem dX3_whiteWays_39 : decode cX3_whiteWays 39 = .ok (.iconst 0, 1) := by decide +kernel
theorem dX3_whiteWays_40 : decode cX3_whiteWays 40 = .ok (.ireturn, 1) := by decide +kernel
theorem dX3_runWays_0 : decode cX3_runWays 0 = .ok (.iload_n 1, 1) := by decide +kernel
theorem dX3_runWays_1 : decode cX3_runWays 1 = .ok (.aload_n 0, 1) := by decide +kernel
theorem dX3_runWays_2 : decode cX3_runWays 2 = .ok (.getfield 15, 3) := by decide +kernel
theorem dX3_runWays_5 : decode cX3_runWays 5 = .ok (.if_icmp .ge 20, 3) := by decide +kernel
theorem dX3_runWays_8 : decode cX3_runWays 8 = .ok (.aload_n 0, 1) := by decide +kernel
theorem dX3_runWays_9 : decode cX3_runWays 9 = .ok (.getfield 28, 3) := by decide +kernel
theorem dX3_runWays_12 : decode cX3_runWays 12 = .ok (.iload_n 1, 1) := by decide +kernel
theorem dX3_runWays_13 : decode cX3_runWays 13 = .ok (.iaload, 1) := by decide +kernel
theorem dX3_runWays_14 : decode cX3_runWays 14 = .ok (.iload_n 2, 1) := by decide +kernel
theorem dX3_runWays_15 : decode cX3_runWays 15 = .ok (.ishr, 1) := by decide +kernel
theorem dX3_runWays_16 : decode cX3_runWays 16 = .ok (.iconst 1, 1) := by decide +kernel
theorem dX3_runWays_17 : decode cX3_runWays 17 = .ok (.iand, 1) := by decide +kernel
theorem dX3_runWays_18 : decode cX3_runWays 18 = .ok (.ifCond .eq 7, 3) := by decide +kernel
theorem dX3_runWays_21 : decode cX3_runWays 21 = .ok (.iconst 1, 1) := by decide +kernel
theorem dX3_runWays_22 : decode cX3_runWays 22 = .ok (.goto 4, 3) := by decide +kernel
theorem dX3_runWays_25 : decode cX3_runWays 25 = .ok (.iconst 0, 1) := by decide +kernel
theorem dX3_runWays_26 : decode cX3_runWays 26 = .ok (.istore_n 3, 1) := by decide +kernel
theorem dX3_runWays_27 : decode cX3_runWays 27 = .ok (.iload_n 3, 1) := by decide +kernel
theorem dX3_runWays_28 : decode cX3_runWays 28 = .ok (.ifCond .eq 26, 3) := by decide +kernel
theorem dX3_runWays_31 : decode cX3_runWays 31 = .ok (.aload_n 0, 1) := by decide +kernel
theorem dX3_runWays_32 : decode cX3_runWays 32 = .ok (.getfield 40, 3) := by decide +kernel
theorem dX3_runWays_35 : decode cX3_runWays 35 = .ok (.iload_n 1, 1) := by decide +kernel
theorem dX3_runWays_36 : decode cX3_runWays 36 = .ok (.iconst 1, 1) := by decide +kernel
theorem dX3_runWays_37 : decode cX3_runWays 37 = .ok (.iadd, 1) := by decide +kernel
theorem dX3_runWays_38 : decode cX3_runWays 38 = .ok (.bipush 9, 2) := by decide +kernel
theorem dX3_runWays_40 : decode cX3_runWays 40 = .ok (.imul, 1) := by decide +kernel
theorem dX3_runWays_41 : decode cX3_runWays 41 = .ok (.iload_n 2, 1) := by decide +kernel
theorem dX3_runWays_42 : decode cX3_runWays 42 = .ok (.iadd, 1) := by decide +kernel
theorem dX3_runWays_43 : decode cX3_runWays 43 = .ok (.aload_n 0, 1) := by decide +kernel
theorem dX3_runWays_44 : decode cX3_runWays 44 = .ok (.getfield 25, 3) := by decide +kernel
theorem dX3_runWays_47 : decode cX3_runWays 47 = .ok (.iload_n 1, 1) := by decide +kernel
theorem dX3_runWays_48 : decode cX3_runWays 48 = .ok (.iaload, 1) := by decide +kernel
theorem dX3_runWays_49 : decode cX3_runWays 49 = .ok (.iadd, 1) := by decide +kernel
theorem dX3_runWays_50 : decode cX3_runWays 50 = .ok (.iaload, 1) := by decide +kernel
theorem dX3_runWays_51 : decode cX3_runWays 51 = .ok (.goto 4, 3) := by decide +kernel
theorem dX3_runWays_54 : decode cX3_runWays 54 = .ok (.iconst 0, 1) := by decide +kernel
theorem dX3_runWays_55 : decode cX3_runWays 55 = .ok (.ireturn, 1) := by decide +kernel
theorem dX3_total_0 : decode cX3_total 0 = .ok (.aload_n 0, 1) := by decide +kernel
theorem dX3_total_1 : decode cX3_total 1 = .ok (.getfield 40, 3) := by decide +kernel
theorem dX3_total_4 : decode cX3_total 4 = .ok (.iconst 0, 1) := by decide +kernel
theorem dX3_total_5 : decode cX3_total 5 = .ok (.iaload, 1) := by decide +kernel
theorem dX3_total_6 : decode cX3_total 6 = .ok (.ireturn, 1) := by decide +kernel
theorem dX3_colorIn_0 : decode cX3_colorIn 0 = .ok (.iload_n 1, 1) := by decide +kernel
theorem dX3_colorIn_1 : decode cX3_colorIn 1 = .ok (.istore_n 3, 1) := by decide +kernel
theorem dX3_colorIn_2 : decode cX3_colorIn 2 = .ok (.iconst 0, 1) := by decide +kernel
theorem dX3_colorIn_3 : decode cX3_colorIn 3 = .ok (.istore 4, 2) := by decide +kernel
theorem dX3_colorIn_5 : decode cX3_colorIn 5 = .ok (.iconst 0, 1) := by decide +kernel
theorem dX3_colorIn_6 : decode cX3_colorIn 6 = .ok (.istore 5, 2) := by decide +kernel
theorem dX3_colorIn_8 : decode cX3_colorIn 8 = .ok (.iconst 0, 1) := by decide +kernel
theorem dX3_colorIn_9 : decode cX3_colorIn 9 = .ok (.istore 6, 2) := by decide +kernel
theorem dX3_colorIn_11 : decode cX3_colorIn 11 = .ok (.iload 6, 2) := by decide +kernel
theorem dX3_colorIn_13 : decode cX3_colorIn 13 = .ok (.bipush 8, 2) := by decide +kernel
theorem dX3_colorIn_15 : decode cX3_colorIn 15 = .ok (.if_icmp .ge 88, 3) := by decide +kernel
theorem dX3_colorIn_18 : decode cX3_colorIn 18 = .ok (.iload 5, 2) := by decide +kernel
theorem dX3_colorIn_20 : decode cX3_colorIn 20 = .ok (.iload_n 2, 1) := by decide +kernel
theorem dX3_colorIn_21 : decode cX3_colorIn 21 = .ok (.if_icmp .gt 82, 3) := by decide +kernel
theorem dX3_colorIn_24 : decode cX3_colorIn 24 = .ok (.iload 4, 2) := by decide +kernel
theorem dX3_colorIn_26 : decode cX3_colorIn 26 = .ok (.aload_n 0, 1) := by decide +kernel
theorem dX3_colorIn_27 : decode cX3_colorIn 27 = .ok (.getfield 15, 3) := by decide +kernel
theorem dX3_colorIn_30 : decode cX3_colorIn 30 = .ok (.if_icmp .ge 73, 3) := by decide +kernel
theorem dX3_colorIn_33 : decode cX3_colorIn 33 = .ok (.aload_n 0, 1) := by decide +kernel
theorem dX3_colorIn_34 : decode cX3_colorIn 34 = .ok (.iload 4, 2) := by decide +kernel
theorem dX3_colorIn_36 : decode cX3_colorIn 36 = .ok (.iload 5, 2) := by decide +kernel
theorem dX3_colorIn_38 : decode cX3_colorIn 38 = .ok (.invokevirtual 101, 3) := by decide +kernel
theorem dX3_colorIn_41 : decode cX3_colorIn 41 = .ok (.istore 7, 2) := by decide +kernel
theorem dX3_colorIn_43 : decode cX3_colorIn 43 = .ok (.iload_n 3, 1) := by decide +kernel
theorem dX3_colorIn_44 : decode cX3_colorIn 44 = .ok (.iload 7, 2) := by decide +kernel
theorem dX3_colorIn_46 : decode cX3_colorIn 46 = .ok (.if_icmp .ge 9, 3) := by decide +kernel
theorem dX3_colorIn_49 : decode cX3_colorIn 49 = .ok (.iinc 5 1, 3) := by decide +kernel
theorem dX3_colorIn_52 : decode cX3_colorIn 52 = .ok (.goto 45, 3) := by decide +kernel
theorem dX3_colorIn_55 : decode cX3_colorIn 55 = .ok (.iload_n 2, 1) := by decide +kernel
theorem dX3_colorIn_56 : decode cX3_colorIn 56 = .ok (.iload 5, 2) := by decide +kernel
theorem dX3_colorIn_58 : decode cX3_colorIn 58 = .ok (.aload_n 0, 1) := by decide +kernel
theorem dX3_colorIn_59 : decode cX3_colorIn 59 = .ok (.getfield 18, 3) := by decide +kernel
theorem dX3_colorIn_62 : decode cX3_colorIn 62 = .ok (.iload 4, 2) := by decide +kernel
theorem dX3_colorIn_64 : decode cX3_colorIn 64 = .ok (.iaload, 1) := by decide +kernel
theorem dX3_colorIn_65 : decode cX3_colorIn 65 = .ok (.iadd, 1) := by decide +kernel
theorem dX3_colorIn_66 : decode cX3_colorIn 66 = .ok (.if_icmp .ge 11, 3) := by decide +kernel
theorem dX3_colorIn_69 : decode cX3_colorIn 69 = .ok (.aload_n 0, 1) := by decide +kernel
theorem dX3_colorIn_70 : decode cX3_colorIn 70 = .ok (.getfield 22, 3) := by decide +kernel
theorem dX3_colorIn_73 : decode cX3_colorIn 73 = .ok (.iload 4, 2) := by decide +kernel
theorem dX3_colorIn_75 : decode cX3_colorIn 75 = .ok (.iaload, 1) := by decide +kernel
theorem dX3_colorIn_76 : decode cX3_colorIn 76 = .ok (.ireturn, 1) := by decide +kernel
theorem dX3_colorIn_77 : decode cX3_colorIn 77 = .ok (.iload_n 3, 1) := by decide +kernel
theorem dX3_colorIn_78 : decode cX3_colorIn 78 = .ok (.iload 7, 2) := by decide +kernel
theorem dX3_colorIn_80 : decode cX3_colorIn 80 = .ok (.isub, 1) := by decide +kernel
theorem dX3_colorIn_81 : decode cX3_colorIn 81 = .ok (.istore_n 3, 1) := by decide +kernel
theorem dX3_colorIn_82 : decode cX3_colorIn 82 = .ok (.iload 5, 2) := by decide +kernel
theorem dX3_colorIn_84 : decode cX3_colorIn 84 = .ok (.aload_n 0, 1) := by decide +kernel
theorem dX3_colorIn_85 : decode cX3_colorIn 85 = .ok (.getfield 25, 3) := by decide +kernel
theorem dX3_colorIn_88 : decode cX3_colorIn 88 = .ok (.iload 4, 2) := by decide +kernel
theorem dX3_colorIn_90 : decode cX3_colorIn 90 = .ok (.iaload, 1) := by decide +kernel
theorem dX3_colorIn_91 : decode cX3_colorIn 91 = .ok (.iadd, 1) := by decide +kernel
theorem dX3_colorIn_92 : decode cX3_colorIn 92 = .ok (.istore 5, 2) := by decide +kernel
theorem dX3_colorIn_94 : decode cX3_colorIn 94 = .ok (.iinc 4 1, 3) := by decide +kernel
theorem dX3_colorIn_97 : decode cX3_colorIn 97 = .ok (.iinc 6 1, 3) := by decide +kernel
theorem dX3_colorIn_100 : decode cX3_colorIn 100 = .ok (.goto (-89), 3) := by decide +kernel
theorem dX3_colorIn_103 : decode cX3_colorIn 103 = .ok (.iconst 0, 1) := by decide +kernel
theorem dX3_colorIn_104 : decode cX3_colorIn 104 = .ok (.ireturn, 1) := by decide +kernel
theorem dX3_solve_0 : decode cX3_solve 0 = .ok (.aload_n 0, 1) := by decide +kernel
theorem dX3_solve_1 : decode cX3_solve 1 = .ok (.aload_n 1, 1) := by decide +kernel
theorem dX3_solve_2 : decode cX3_solve 2 = .ok (.iload_n 2, 1) := by decide +kernel
theorem dX3_solve_3 : decode cX3_solve 3 = .ok (.invokevirtual 107, 3) := by decide +kernel
theorem dX3_solve_6 : decode cX3_solve 6 = .ok (.aload_n 0, 1) := by decide +kernel
theorem dX3_solve_7 : decode cX3_solve 7 = .ok (.iconst 0, 1) := by decide +kernel
theorem dX3_solve_8 : decode cX3_solve 8 = .ok (.putfield 43, 3) := by decide +kernel
theorem dX3_solve_11 : decode cX3_solve 11 = .ok (.aload_n 0, 1) := by decide +kernel
theorem dX3_solve_12 : decode cX3_solve 12 = .ok (.iconst 0, 1) := by decide +kernel
theorem dX3_solve_13 : decode cX3_solve 13 = .ok (.putfield 46, 3) := by decide +kernel
theorem dX3_solve_16 : decode cX3_solve 16 = .ok (.aload_n 0, 1) := by decide +kernel
theorem dX3_solve_17 : decode cX3_solve 17 = .ok (.invokevirtual 110, 3) := by decide +kernel
theorem dX3_solve_20 : decode cX3_solve 20 = .ok (.ifCond .ne 5, 3) := by decide +kernel
theorem dX3_solve_23 : decode cX3_solve 23 = .ok (.iconst 0, 1) := by decide +kernel
theorem dX3_solve_24 : decode cX3_solve 24 = .ok (.ireturn, 1) := by decide +kernel
theorem dX3_solve_25 : decode cX3_solve 25 = .ok (.aload_n 0, 1) := by decide +kernel
theorem dX3_solve_26 : decode cX3_solve 26 = .ok (.invokevirtual 114, 3) := by decide +kernel
theorem dX3_solve_29 : decode cX3_solve 29 = .ok (.iconst 0, 1) := by decide +kernel
theorem dX3_solve_30 : decode cX3_solve 30 = .ok (.istore_n 3, 1) := by decide +kernel
theorem dX3_solve_31 : decode cX3_solve 31 = .ok (.iload_n 3, 1) := by decide +kernel
theorem dX3_solve_32 : decode cX3_solve 32 = .ok (.aload_n 0, 1) := by decide +kernel
theorem dX3_solve_33 : decode cX3_solve 33 = .ok (.getfield 9, 3) := by decide +kernel
theorem dX3_solve_36 : decode cX3_solve 36 = .ok (.if_icmp .ge 99, 3) := by decide +kernel
theorem dX3_solve_39 : decode cX3_solve 39 = .ok (.aload_n 1, 1) := by decide +kernel
theorem dX3_solve_40 : decode cX3_solve 40 = .ok (.iload_n 2, 1) := by decide +kernel
theorem dX3_solve_41 : decode cX3_solve 41 = .ok (.iload_n 3, 1) := by decide +kernel
theorem dX3_solve_42 : decode cX3_solve 42 = .ok (.invokevirtual 84, 3) := by decide +kernel
theorem dX3_solve_45 : decode cX3_solve 45 = .ok (.istore 4, 2) := by decide +kernel
theorem dX3_solve_47 : decode cX3_solve 47 = .ok (.aload_n 0, 1) := by decide +kernel
theorem dX3_solve_48 : decode cX3_solve 48 = .ok (.iload_n 3, 1) := by decide +kernel
theorem dX3_solve_49 : decode cX3_solve 49 = .ok (.invokevirtual 117, 3) := by decide +kernel
theorem dX3_solve_52 : decode cX3_solve 52 = .ok (.istore 5, 2) := by decide +kernel
theorem dX3_solve_54 : decode cX3_solve 54 = .ok (.iload 5, 2) := by decide +kernel
theorem dX3_solve_56 : decode cX3_solve 56 = .ok (.aload_n 1, 1) := by decide +kernel
theorem dX3_solve_57 : decode cX3_solve 57 = .ok (.getfield 81, 3) := by decide +kernel
theorem dX3_solve_60 : decode cX3_solve 60 = .ok (.iload 4, 2) := by decide +kernel
theorem dX3_solve_62 : decode cX3_solve 62 = .ok (.iaload, 1) := by decide +kernel
theorem dX3_solve_63 : decode cX3_solve 63 = .ok (.if_icmp .eq 66, 3) := by decide +kernel
theorem dX3_solve_66 : decode cX3_solve 66 = .ok (.aload_n 0, 1) := by decide +kernel
theorem dX3_solve_67 : decode cX3_solve 67 = .ok (.dup, 1) := by decide +kernel
theorem dX3_solve_68 : decode cX3_solve 68 = .ok (.getfield 43, 3) := by decide +kernel
theorem dX3_solve_71 : decode cX3_solve 71 = .ok (.aload_n 1, 1) := by decide +kernel
theorem dX3_solve_72 : decode cX3_solve 72 = .ok (.getfield 81, 3) := by decide +kernel
theorem dX3_solve_75 : decode cX3_solve 75 = .ok (.iload 4, 2) := by decide +kernel
theorem dX3_solve_77 : decode cX3_solve 77 = .ok (.iaload, 1) := by decide +kernel
theorem dX3_solve_78 : decode cX3_solve 78 = .ok (.invokestatic 120, 3) := by decide +kernel
theorem dX3_solve_81 : decode cX3_solve 81 = .ok (.iload 5, 2) := by decide +kernel
theorem dX3_solve_83 : decode cX3_solve 83 = .ok (.invokestatic 120, 3) := by decide +kernel
theorem dX3_solve_86 : decode cX3_solve 86 = .ok (.isub, 1) := by decide +kernel
theorem dX3_solve_87 : decode cX3_solve 87 = .ok (.iadd, 1) := by decide +kernel
theorem dX3_solve_88 : decode cX3_solve 88 = .ok (.putfield 43, 3) := by decide +kernel
theorem dX3_solve_91 : decode cX3_solve 91 = .ok (.aload_n 1, 1) := by decide +kernel
theorem dX3_solve_92 : decode cX3_solve 92 = .ok (.getfield 81, 3) := by decide +kernel
theorem dX3_solve_95 : decode cX3_solve 95 = .ok (.iload 4, 2) := by decide +kernel
theorem dX3_solve_97 : decode cX3_solve 97 = .ok (.iload 5, 2) := by decide +kernel
theorem dX3_solve_99 : decode cX3_solve 99 = .ok (.iastore, 1) := by decide +kernel
theorem dX3_solve_100 : decode cX3_solve 100 = .ok (.aload_n 0, 1) := by decide +kernel
theorem dX3_solve_101 : decode cX3_solve 101 = .ok (.dup, 1) := by decide +kernel
theorem dX3_solve_102 : decode cX3_solve 102 = .ok (.getfield 46, 3) := by decide +kernel
theorem dX3_solve_105 : decode cX3_solve 105 = .ok (.iconst 1, 1) := by decide +kernel
theorem dX3_solve_106 : decode cX3_solve 106 = .ok (.iload_n 2, 1) := by decide +kernel
theorem dX3_solve_107 : decode cX3_solve 107 = .ok (.aload_n 1, 1) := by decide +kernel
theorem dX3_solve_108 : decode cX3_solve 108 = .ok (.getfield 125, 3) := by decide +kernel
theorem dX3_solve_111 : decode cX3_solve 111 = .ok (.if_icmp .ge 12, 3) := by decide +kernel
theorem dX3_solve_114 : decode cX3_solve 114 = .ok (.aload_n 1, 1) := by decide +kernel
theorem dX3_solve_115 : decode cX3_solve 115 = .ok (.getfield 125, 3) := by decide +kernel
theorem dX3_solve_118 : decode cX3_solve 118 = .ok (.iload_n 3, 1) := by decide +kernel
theorem dX3_solve_119 : decode cX3_solve 119 = .ok (.iadd, 1) := by decide +kernel
theorem dX3_solve_120 : decode cX3_solve 120 = .ok (.goto 4, 3) := by decide +kernel
theorem dX3_solve_123 : decode cX3_solve 123 = .ok (.iload_n 3, 1) := by decide +kernel
theorem dX3_solve_124 : decode cX3_solve 124 = .ok (.ishl, 1) := by decide +kernel
theorem dX3_solve_125 : decode cX3_solve 125 = .ok (.ior, 1) := by decide +kernel
theorem dX3_solve_126 : decode cX3_solve 126 = .ok (.putfield 46, 3) := by decide +kernel
theorem dX3_solve_129 : decode cX3_solve 129 = .ok (.iinc 3 1, 3) := by decide +kernel
theorem dX3_solve_132 : decode cX3_solve 132 = .ok (.goto (-101), 3) := by decide +kernel
theorem dX3_solve_135 : decode cX3_solve 135 = .ok (.iconst 1, 1) := by decide +kernel
theorem dX3_solve_136 : decode cX3_solve 136 = .ok (.ireturn, 1) := by decide +kernel
theorem dX3_findSeen_0 : decode cX3_findSeen 0 = .ok (.aload_n 0, 1) := by decide +kernel
theorem dX3_findSeen_1 : decode cX3_findSeen 1 = .ok (.getfield 34, 3) := by decide +kernel
theorem dX3_findSeen_4 : decode cX3_findSeen 4 = .ok (.iconst 0, 1) := by decide +kernel
theorem dX3_findSeen_5 : decode cX3_findSeen 5 = .ok (.invokestatic 75, 3) := by decide +kernel
theorem dX3_findSeen_8 : decode cX3_findSeen 8 = .ok (.aload_n 0, 1) := by decide +kernel
theorem dX3_findSeen_9 : decode cX3_findSeen 9 = .ok (.getfield 37, 3) := by decide +kernel
theorem dX3_findSeen_12 : decode cX3_findSeen 12 = .ok (.iconst 0, 1) := by decide +kernel
theorem dX3_findSeen_13 : decode cX3_findSeen 13 = .ok (.invokestatic 75, 3) := by decide +kernel
theorem dX3_findSeen_16 : decode cX3_findSeen 16 = .ok (.aload_n 0, 1) := by decide +kernel
theorem dX3_findSeen_17 : decode cX3_findSeen 17 = .ok (.getfield 37, 3) := by decide +kernel
theorem dX3_findSeen_20 : decode cX3_findSeen 20 = .ok (.iconst 0, 1) := by decide +kernel
theorem dX3_findSeen_21 : decode cX3_findSeen 21 = .ok (.iconst 1, 1) := by decide +kernel
theorem dX3_findSeen_22 : decode cX3_findSeen 22 = .ok (.iastore, 1) := by decide +kernel
theorem dX3_findSeen_23 : decode cX3_findSeen 23 = .ok (.iconst 0, 1) := by decide +kernel
theorem dX3_findSeen_24 : decode cX3_findSeen 24 = .ok (.istore_n 1, 1) := by decide +kernel
theorem dX3_findSeen_25 : decode cX3_findSeen 25 = .ok (.iload_n 1, 1) := by decide +kernel
theorem dX3_findSeen_26 : decode cX3_findSeen 26 = .ok (.aload_n 0, 1) := by decide +kernel
theorem dX3_findSeen_27 : decode cX3_findSeen 27 = .ok (.getfield 15, 3) := by decide +kernel
theorem dX3_findSeen_30 : decode cX3_findSeen 30 = .ok (.if_icmp .gt 123, 3) := by decide +kernel
theorem dX3_findSeen_33 : decode cX3_findSeen 33 = .ok (.iconst 0, 1) := by decide +kernel
theorem dX3_findSeen_34 : decode cX3_findSeen 34 = .ok (.istore_n 2, 1) := by decide +kernel
theorem dX3_findSeen_35 : decode cX3_findSeen 35 = .ok (.iload_n 2, 1) := by decide +kernel
theorem dX3_findSeen_36 : decode cX3_findSeen 36 = .ok (.aload_n 0, 1) := by decide +kernel
theorem dX3_findSeen_37 : decode cX3_findSeen 37 = .ok (.getfield 9, 3) := by decide +kernel
theorem dX3_findSeen_40 : decode cX3_findSeen 40 = .ok (.if_icmp .ge 107, 3) := by decide +kernel
theorem dX3_findSeen_43 : decode cX3_findSeen 43 = .ok (.aload_n 0, 1) := by decide +kernel
theorem dX3_findSeen_44 : decode cX3_findSeen 44 = .ok (.getfield 37, 3) := by decide +kernel
theorem dX3_findSeen_47 : decode cX3_findSeen 47 = .ok (.iload_n 1, 1) := by decide +kernel
theorem dX3_findSeen_48 : decode cX3_findSeen 48 = .ok (.iaload, 1) := by decide +kernel
theorem dX3_findSeen_49 : decode cX3_findSeen 49 = .ok (.iload_n 2, 1) := by decide +kernel
theorem dX3_findSeen_50 : decode cX3_findSeen 50 = .ok (.ishr, 1) := by decide +kernel
theorem dX3_findSeen_51 : decode cX3_findSeen 51 = .ok (.iconst 1, 1) := by decide +kernel
theorem dX3_findSeen_52 : decode cX3_findSeen 52 = .ok (.iand, 1) := by decide +kernel
theorem dX3_findSeen_53 : decode cX3_findSeen 53 = .ok (.ifCond .eq 7, 3) := by decide +kernel
theorem dX3_findSeen_56 : decode cX3_findSeen 56 = .ok (.iconst 1, 1) := by decide +kernel
theorem dX3_findSeen_57 : decode cX3_findSeen 57 = .ok (.goto 4, 3) := by decide +kernel
theorem dX3_findSeen_60 : decode cX3_findSeen 60 = .ok (.iconst 0, 1) := by decide +kernel
theorem dX3_findSeen_61 : decode cX3_findSeen 61 = .ok (.istore_n 3, 1) := by decide +kernel
theorem dX3_findSeen_62 : decode cX3_findSeen 62 = .ok (.iload_n 3, 1) := by decide +kernel
theorem dX3_findSeen_63 : decode cX3_findSeen 63 = .ok (.ifCond .eq 38, 3) := by decide +kernel
theorem dX3_findSeen_66 : decode cX3_findSeen 66 = .ok (.aload_n 0, 1) := by decide +kernel
theorem dX3_findSeen_67 : decode cX3_findSeen 67 = .ok (.iload_n 1, 1) := by decide +kernel
theorem dX3_findSeen_68 : decode cX3_findSeen 68 = .ok (.iload_n 2, 1) := by decide +kernel
theorem dX3_findSeen_69 : decode cX3_findSeen 69 = .ok (.invokevirtual 101, 3) := by decide +kernel
theorem dX3_findSeen_72 : decode cX3_findSeen 72 = .ok (.ifCond .le 29, 3) := by decide +kernel
theorem dX3_findSeen_75 : decode cX3_findSeen 75 = .ok (.aload_n 0, 1) := by decide +kernel
theorem dX3_findSeen_76 : decode cX3_findSeen 76 = .ok (.getfield 34, 3) := by decide +kernel
theorem dX3_findSeen_79 : decode cX3_findSeen 79 = .ok (.iconst 0, 1) := by decide +kernel
theorem dX3_findSeen_80 : decode cX3_findSeen 80 = .ok (.dup2, 1) := by decide +kernel
theorem dX3_findSeen_81 : decode cX3_findSeen 81 = .ok (.iaload, 1) := by decide +kernel
theorem dX3_findSeen_82 : decode cX3_findSeen 82 = .ok (.iconst 1, 1) := by decide +kernel
theorem dX3_findSeen_83 : decode cX3_findSeen 83 = .ok (.iload_n 2, 1) := by decide +kernel
theorem dX3_findSeen_84 : decode cX3_findSeen 84 = .ok (.ishl, 1) := by decide +kernel
theorem dX3_findSeen_85 : decode cX3_findSeen 85 = .ok (.ior, 1) := by decide +kernel
theorem dX3_findSeen_86 : decode cX3_findSeen 86 = .ok (.iastore, 1) := by decide +kernel
theorem dX3_findSeen_87 : decode cX3_findSeen 87 = .ok (.aload_n 0, 1) := by decide +kernel
theorem dX3_findSeen_88 : decode cX3_findSeen 88 = .ok (.getfield 37, 3) := by decide +kernel
theorem dX3_findSeen_91 : decode cX3_findSeen 91 = .ok (.iload_n 1, 1) := by decide +kernel
theorem dX3_findSeen_92 : decode cX3_findSeen 92 = .ok (.dup2, 1) := by decide +kernel
theorem dX3_findSeen_93 : decode cX3_findSeen 93 = .ok (.iaload, 1) := by decide +kernel
theorem dX3_findSeen_94 : decode cX3_findSeen 94 = .ok (.iconst 1, 1) := by decide +kernel
theorem dX3_findSeen_95 : decode cX3_findSeen 95 = .ok (.iload_n 2, 1) := by decide +kernel
theorem dX3_findSeen_96 : decode cX3_findSeen 96 = .ok (.iconst 1, 1) := by decide +kernel
theorem dX3_findSeen_97 : decode cX3_findSeen 97 = .ok (.iadd, 1) := by decide +kernel
theorem dX3_findSeen_98 : decode cX3_findSeen 98 = .ok (.ishl, 1) := by decide +kernel
theorem dX3_findSeen_99 : decode cX3_findSeen 99 = .ok (.ior, 1) := by decide +kernel
theorem dX3_findSeen_100 : decode cX3_findSeen 100 = .ok (.iastore, 1) := by decide +kernel
theorem dX3_findSeen_101 : decode cX3_findSeen 101 = .ok (.iload_n 3, 1) := by decide +kernel
theorem dX3_findSeen_102 : decode cX3_findSeen 102 = .ok (.ifCond .eq 39, 3) := by decide +kernel
theorem dX3_findSeen_105 : decode cX3_findSeen 105 = .ok (.aload_n 0, 1) := by decide +kernel
theorem dX3_findSeen_106 : decode cX3_findSeen 106 = .ok (.iload_n 1, 1) := by decide +kernel
theorem dX3_findSeen_107 : decode cX3_findSeen 107 = .ok (.iload_n 2, 1) := by decide +kernel
theorem dX3_findSeen_108 : decode cX3_findSeen 108 = .ok (.invokevirtual 104, 3) := by decide +kernel
theorem dX3_findSeen_111 : decode cX3_findSeen 111 = .ok (.ifCond .le 30, 3) := by decide +kernel
theorem dX3_findSeen_114 : decode cX3_findSeen 114 = .ok (.aload_n 0, 1) := by decide +kernel
theorem dX3_findSeen_115 : decode cX3_findSeen 115 = .ok (.iload_n 1, 1) := by decide +kernel
theorem dX3_findSeen_116 : decode cX3_findSeen 116 = .ok (.iload_n 2, 1) := by decide +kernel
theorem dX3_findSeen_117 : decode cX3_findSeen 117 = .ok (.invokevirtual 128, 3) := by decide +kernel
theorem dX3_findSeen_120 : decode cX3_findSeen 120 = .ok (.aload_n 0, 1) := by decide +kernel
theorem dX3_findSeen_121 : decode cX3_findSeen 121 = .ok (.getfield 37, 3) := by decide +kernel
theorem dX3_findSeen_124 : decode cX3_findSeen 124 = .ok (.iload_n 1, 1) := by decide +kernel
theorem dX3_findSeen_125 : decode cX3_findSeen 125 = .ok (.iconst 1, 1) := by decide +kernel
theorem dX3_findSeen_126 : decode cX3_findSeen 126 = .ok (.iadd, 1) := by decide +kernel
theorem dX3_findSeen_127 : decode cX3_findSeen 127 = .ok (.dup2, 1) := by decide +kernel
theorem dX3_findSeen_128 : decode cX3_findSeen 128 = .ok (.iaload, 1) := by decide +kernel
theorem dX3_findSeen_129 : decode cX3_findSeen 129 = .ok (.iconst 1, 1) := by decide +kernel
theorem dX3_findSeen_130 : decode cX3_findSeen 130 = .ok (.iload_n 2, 1) := by decide +kernel
theorem dX3_findSeen_131 : decode cX3_findSeen 131 = .ok (.aload_n 0, 1) := by decide +kernel
theorem dX3_findSeen_132 : decode cX3_findSeen 132 = .ok (.getfield 25, 3) := by decide +kernel
theorem dX3_findSeen_135 : decode cX3_findSeen 135 = .ok (.iload_n 1, 1) := by decide +kernel
theorem dX3_findSeen_136 : decode cX3_findSeen 136 = .ok (.iaload, 1) := by decide +kernel
theorem dX3_findSeen_137 : decode cX3_findSeen 137 = .ok (.iadd, 1) := by decide +kernel
theorem dX3_findSeen_138 : decode cX3_findSeen 138 = .ok (.ishl, 1) := by decide +kernel
theorem dX3_findSeen_139 : decode cX3_findSeen 139 = .ok (.ior, 1) := by decide +kernel
theorem dX3_findSeen_140 : decode cX3_findSeen 140 = .ok (.iastore, 1) := by decide +kernel
theorem dX3_findSeen_141 : decode cX3_findSeen 141 = .ok (.iinc 2 1, 3) := by decide +kernel
theorem dX3_findSeen_144 : decode cX3_findSeen 144 = .ok (.goto (-109), 3) := by decide +kernel
theorem dX3_findSeen_147 : decode cX3_findSeen 147 = .ok (.iinc 1 1, 3) := by decide +kernel
theorem dX3_findSeen_150 : decode cX3_findSeen 150 = .ok (.goto (-125), 3) := by decide +kernel
theorem dX3_findSeen_153 : decode cX3_findSeen 153 = .ok (.return_, 1) := by decide +kernel
theorem dX3_seeRun_0 : decode cX3_seeRun 0 = .ok (.iload_n 2, 1) := by decide +kernel
theorem dX3_seeRun_1 : decode cX3_seeRun 1 = .ok (.aload_n 0, 1) := by decide +kernel
theorem dX3_seeRun_2 : decode cX3_seeRun 2 = .ok (.getfield 18, 3) := by decide +kernel
theorem dX3_seeRun_5 : decode cX3_seeRun 5 = .ok (.iload_n 1, 1) := by decide +kernel
theorem dX3_seeRun_6 : decode cX3_seeRun 6 = .ok (.iaload, 1) := by decide +kernel
theorem dX3_seeRun_7 : decode cX3_seeRun 7 = .ok (.iadd, 1) := by decide +kernel
theorem dX3_seeRun_8 : decode cX3_seeRun 8 = .ok (.istore_n 3, 1) := by decide +kernel
theorem dX3_seeRun_9 : decode cX3_seeRun 9 = .ok (.aload_n 0, 1) := by decide +kernel
theorem dX3_seeRun_10 : decode cX3_seeRun 10 = .ok (.getfield 34, 3) := by decide +kernel
theorem dX3_seeRun_13 : decode cX3_seeRun 13 = .ok (.aload_n 0, 1) := by decide +kernel
theorem dX3_seeRun_14 : decode cX3_seeRun 14 = .ok (.getfield 22, 3) := by decide +kernel
theorem dX3_seeRun_17 : decode cX3_seeRun 17 = .ok (.iload_n 1, 1) := by decide +kernel
theorem dX3_seeRun_18 : decode cX3_seeRun 18 = .ok (.iaload, 1) := by decide +kernel
theorem dX3_seeRun_19 : decode cX3_seeRun 19 = .ok (.dup2, 1) := by decide +kernel
theorem dX3_seeRun_20 : decode cX3_seeRun 20 = .ok (.iaload, 1) := by decide +kernel
theorem dX3_seeRun_21 : decode cX3_seeRun 21 = .ok (.iconst 1, 1) := by decide +kernel
theorem dX3_seeRun_22 : decode cX3_seeRun 22 = .ok (.iload_n 3, 1) := by decide +kernel
theorem dX3_seeRun_23 : decode cX3_seeRun 23 = .ok (.ishl, 1) := by decide +kernel
theorem dX3_seeRun_24 : decode cX3_seeRun 24 = .ok (.iconst 1, 1) := by decide +kernel
theorem dX3_seeRun_25 : decode cX3_seeRun 25 = .ok (.iload_n 2, 1) := by decide +kernel
theorem dX3_seeRun_26 : decode cX3_seeRun 26 = .ok (.ishl, 1) := by decide +kernel
theorem dX3_seeRun_27 : decode cX3_seeRun 27 = .ok (.isub, 1) := by decide +kernel
theorem dX3_seeRun_28 : decode cX3_seeRun 28 = .ok (.ior, 1) := by decide +kernel
theorem dX3_seeRun_29 : decode cX3_seeRun 29 = .ok (.iastore, 1) := by decide +kernel
theorem dX3_seeRun_30 : decode cX3_seeRun 30 = .ok (.aload_n 0, 1) := by decide +kernel
theorem dX3_seeRun_31 : decode cX3_seeRun 31 = .ok (.getfield 25, 3) := by decide +kernel
theorem dX3_seeRun_34 : decode cX3_seeRun 34 = .ok (.iload_n 1, 1) := by decide +kernel
theorem dX3_seeRun_35 : decode cX3_seeRun 35 = .ok (.iaload, 1) := by decide +kernel
theorem dX3_seeRun_36 : decode cX3_seeRun 36 = .ok (.aload_n 0, 1) := by decide +kernel
theorem dX3_seeRun_37 : decode cX3_seeRun 37 = .ok (.getfield 18, 3) := by decide +kernel
theorem dX3_seeRun_40 : decode cX3_seeRun 40 = .ok (.iload_n 1, 1) := by decide +kernel
theorem dX3_seeRun_41 : decode cX3_seeRun 41 = .ok (.iaload, 1) := by decide +kernel
theorem dX3_seeRun_42 : decode cX3_seeRun 42 = .ok (.if_icmp .le 15, 3) := by decide +kernel
theorem dX3_seeRun_45 : decode cX3_seeRun 45 = .ok (.aload_n 0, 1) := by decide +kernel
theorem dX3_seeRun_46 : decode cX3_seeRun 46 = .ok (.getfield 34, 3) := by decide +kernel
theorem dX3_seeRun_49 : decode cX3_seeRun 49 = .ok (.iconst 0, 1) := by decide +kernel
theorem dX3_seeRun_50 : decode cX3_seeRun 50 = .ok (.dup2, 1) := by decide +kernel
theorem dX3_seeRun_51 : decode cX3_seeRun 51 = .ok (.iaload, 1) := by decide +kernel
theorem dX3_seeRun_52 : decode cX3_seeRun 52 = .ok (.iconst 1, 1) := by decide +kernel
theorem dX3_seeRun_53 : decode cX3_seeRun 53 = .ok (.iload_n 3, 1) := by decide +kernel
theorem dX3_seeRun_54 : decode cX3_seeRun 54 = .ok (.ishl, 1) := by decide +kernel
theorem dX3_seeRun_55 : decode cX3_seeRun 55 = .ok (.ior, 1) := by decide +kernel
theorem dX3_seeRun_56 : decode cX3_seeRun 56 = .ok (.iastore, 1) := by decide +kernel
theorem dX3_seeRun_57 : decode cX3_seeRun 57 = .ok (.return_, 1) := by decide +kernel
theorem dX3_seenAt_0 : decode cX3_seenAt 0 = .ok (.iconst 0, 1) := by decide +kernel
theorem dX3_seenAt_1 : decode cX3_seenAt 1 = .ok (.istore_n 2, 1) := by decide +kernel
theorem dX3_seenAt_2 : decode cX3_seenAt 2 = .ok (.iconst 0, 1) := by decide +kernel
theorem dX3_seenAt_3 : decode cX3_seenAt 3 = .ok (.istore_n 3, 1) := by decide +kernel
theorem dX3_seenAt_4 : decode cX3_seenAt 4 = .ok (.iload_n 3, 1) := by decide +kernel
theorem dX3_seenAt_5 : decode cX3_seenAt 5 = .ok (.iconst 3, 1) := by decide +kernel
theorem dX3_seenAt_6 : decode cX3_seenAt 6 = .ok (.if_icmp .gt 24, 3) := by decide +kernel
theorem dX3_seenAt_9 : decode cX3_seenAt 9 = .ok (.iload_n 2, 1) := by decide +kernel
theorem dX3_seenAt_10 : decode cX3_seenAt 10 = .ok (.aload_n 0, 1) := by decide +kernel
theorem dX3_seenAt_11 : decode cX3_seenAt 11 = .ok (.getfield 34, 3) := by decide +kernel
theorem dX3_seenAt_14 : decode cX3_seenAt 14 = .ok (.iload_n 3, 1) := by decide +kernel
theorem dX3_seenAt_15 : decode cX3_seenAt 15 = .ok (.iaload, 1) := by decide +kernel
theorem dX3_seenAt_16 : decode cX3_seenAt 16 = .ok (.iload_n 1, 1) := by decide +kernel
theorem dX3_seenAt_17 : decode cX3_seenAt 17 = .ok (.ishr, 1) := by decide +kernel
theorem dX3_seenAt_18 : decode cX3_seenAt 18 = .ok (.iconst 1, 1) := by decide +kernel
theorem dX3_seenAt_19 : decode cX3_seenAt 19 = .ok (.iand, 1) := by decide +kernel
theorem dX3_seenAt_20 : decode cX3_seenAt 20 = .ok (.iload_n 3, 1) := by decide +kernel
theorem dX3_seenAt_21 : decode cX3_seenAt 21 = .ok (.ishl, 1) := by decide +kernel
theorem dX3_seenAt_22 : decode cX3_seenAt 22 = .ok (.ior, 1) := by decide +kernel
theorem dX3_seenAt_23 : decode cX3_seenAt 23 = .ok (.istore_n 2, 1) := by decide +kernel
theorem dX3_seenAt_24 : decode cX3_seenAt 24 = .ok (.iinc 3 1, 3) := by decide +kernel
theorem dX3_seenAt_27 : decode cX3_seenAt 27 = .ok (.goto (-23), 3) := by decide +kernel
theorem dX3_seenAt_30 : decode cX3_seenAt 30 = .ok (.iload_n 2, 1) := by decide +kernel
theorem dX3_seenAt_31 : decode cX3_seenAt 31 = .ok (.ireturn, 1) := by decide +kernel
end
section
theorem dX4_init_0 : decode cX4_init 0 = .ok (.aload_n 0, 1) := by decide +kernel
theorem dX4_init_1 : decode cX4_init 1 = .ok (.invokespecial 1, 3) := by decide +kernel
theorem dX4_init_4 : decode cX4_init 4 = .ok (.aload_n 0, 1) := by decide +kernel
theorem dX4_init_5 : decode cX4_init 5 = .ok (.new 7, 3) := by decide +kernel
theorem dX4_init_8 : decode cX4_init 8 = .ok (.dup, 1) := by decide +kernel
theorem dX4_init_9 : decode cX4_init 9 = .ok (.invokespecial 9, 3) := by decide +kernel
theorem dX4_init_12 : decode cX4_init 12 = .ok (.putfield 10, 3) := by decide +kernel
theorem dX4_init_15 : decode cX4_init 15 = .ok (.aload_n 0, 1) := by decide +kernel
theorem dX4_init_16 : decode cX4_init 16 = .ok (.new 16, 3) := by decide +kernel
theorem dX4_init_19 : decode cX4_init 19 = .ok (.dup, 1) := by decide +kernel
theorem dX4_init_20 : decode cX4_init 20 = .ok (.invokespecial 18, 3) := by decide +kernel
theorem dX4_init_23 : decode cX4_init 23 = .ok (.putfield 19, 3) := by decide +kernel
theorem dX4_init_26 : decode cX4_init 26 = .ok (.aload_n 0, 1) := by decide +kernel
theorem dX4_init_27 : decode cX4_init 27 = .ok (.iconst 0, 1) := by decide +kernel
theorem dX4_init_28 : decode cX4_init 28 = .ok (.putfield 23, 3) := by decide +kernel
theorem dX4_init_31 : decode cX4_init 31 = .ok (.aload_n 0, 1) := by decide +kernel
theorem dX4_init_32 : decode cX4_init 32 = .ok (.iconst 0, 1) := by decide +kernel
theorem dX4_init_33 : decode cX4_init 33 = .ok (.putfield 27, 3) := by decide +kernel
theorem dX4_init_36 : decode cX4_init 36 = .ok (.return_, 1) := by decide +kernel
theorem dX4_begin_0 : decode cX4_begin 0 = .ok (.aload_n 0, 1) := by decide +kernel
theorem dX4_begin_1 : decode cX4_begin 1 = .ok (.iconst 0, 1) := by decide +kernel
theorem dX4_begin_2 : decode cX4_begin 2 = .ok (.putfield 23, 3) := by decide +kernel
theorem dX4_begin_5 : decode cX4_begin 5 = .ok (.aload_n 0, 1) := by decide +kernel
theorem dX4_begin_6 : decode cX4_begin 6 = .ok (.aload_n 1, 1) := by decide +kernel
theorem dX4_begin_7 : decode cX4_begin 7 = .ok (.aload_n 1, 1) := by decide +kernel
theorem dX4_begin_8 : decode cX4_begin 8 = .ok (.invokevirtual 30, 3) := by decide +kernel
theorem dX4_begin_11 : decode cX4_begin 11 = .ok (.invokevirtual 34, 3) := by decide +kernel
theorem dX4_begin_14 : decode cX4_begin 14 = .ok (.ireturn, 1) := by decide +kernel
theorem dX4_probeRound_0 : decode cX4_probeRound 0 = .ok (.iconst 0, 1) := by decide +kernel
theorem dX4_probeRound_1 : decode cX4_probeRound 1 = .ok (.istore_n 2, 1) := by decide +kernel
theorem dX4_probeRound_2 : decode cX4_probeRound 2 = .ok (.iload_n 2, 1) := by decide +kernel
theorem dX4_probeRound_3 : decode cX4_probeRound 3 = .ok (.aload_n 1, 1) := by decide +kernel
theorem dX4_probeRound_4 : decode cX4_probeRound 4 = .ok (.invokevirtual 38, 3) := by decide +kernel
theorem dX4_probeRound_7 : decode cX4_probeRound 7 = .ok (.if_icmp .ge 103, 3) := by decide +kernel
theorem dX4_probeRound_10 : decode cX4_probeRound 10 = .ok (.iconst 0, 1) := by decide +kernel
theorem dX4_probeRound_11 : decode cX4_probeRound 11 = .ok (.istore_n 3, 1) := by decide +kernel
theorem dX4_probeRound_12 : decode cX4_probeRound 12 = .ok (.iload_n 3, 1) := by decide +kernel
theorem dX4_probeRound_13 : decode cX4_probeRound 13 = .ok (.aload_n 1, 1) := by decide +kernel
theorem dX4_probeRound_14 : decode cX4_probeRound 14 = .ok (.getfield 41, 3) := by decide +kernel
theorem dX4_probeRound_17 : decode cX4_probeRound 17 = .ok (.if_icmp .gt 87, 3) := by decide +kernel
theorem dX4_probeRound_20 : decode cX4_probeRound 20 = .ok (.aload_n 1, 1) := by decide +kernel
theorem dX4_probeRound_21 : decode cX4_probeRound 21 = .ok (.iload_n 2, 1) := by decide +kernel
theorem dX4_probeRound_22 : decode cX4_probeRound 22 = .ok (.iload_n 3, 1) := by decide +kernel
theorem dX4_probeRound_23 : decode cX4_probeRound 23 = .ok (.invokevirtual 44, 3) := by decide +kernel
theorem dX4_probeRound_26 : decode cX4_probeRound 26 = .ok (.ifCond .eq 15, 3) := by decide +kernel
theorem dX4_probeRound_29 : decode cX4_probeRound 29 = .ok (.aload_n 1, 1) := by decide +kernel
theorem dX4_probeRound_30 : decode cX4_probeRound 30 = .ok (.iload_n 2, 1) := by decide +kernel
theorem dX4_probeRound_31 : decode cX4_probeRound 31 = .ok (.invokevirtual 48, 3) := by decide +kernel
theorem dX4_probeRound_34 : decode cX4_probeRound 34 = .ok (.ifCond .ne 7, 3) := by decide +kernel
theorem dX4_probeRound_37 : decode cX4_probeRound 37 = .ok (.iconst 1, 1) := by decide +kernel
theorem dX4_probeRound_38 : decode cX4_probeRound 38 = .ok (.goto 4, 3) := by decide +kernel
theorem dX4_probeRound_41 : decode cX4_probeRound 41 = .ok (.iconst 0, 1) := by decide +kernel
theorem dX4_probeRound_42 : decode cX4_probeRound 42 = .ok (.istore 4, 2) := by decide +kernel
theorem dX4_probeRound_44 : decode cX4_probeRound 44 = .ok (.iload 4, 2) := by decide +kernel
theorem dX4_probeRound_46 : decode cX4_probeRound 46 = .ok (.ifCond .eq 52, 3) := by decide +kernel
theorem dX4_probeRound_49 : decode cX4_probeRound 49 = .ok (.aload_n 0, 1) := by decide +kernel
theorem dX4_probeRound_50 : decode cX4_probeRound 50 = .ok (.aload_n 1, 1) := by decide +kernel
theorem dX4_probeRound_51 : decode cX4_probeRound 51 = .ok (.iload_n 2, 1) := by decide +kernel
theorem dX4_probeRound_52 : decode cX4_probeRound 52 = .ok (.iload_n 3, 1) := by decide +kernel
theorem dX4_probeRound_53 : decode cX4_probeRound 53 = .ok (.invokevirtual 52, 3) := by decide +kernel
theorem dX4_probeRound_56 : decode cX4_probeRound 56 = .ok (.ifCond .eq 42, 3) := by decide +kernel
theorem dX4_probeRound_59 : decode cX4_probeRound 59 = .ok (.aload_n 0, 1) := by decide +kernel
theorem dX4_probeRound_60 : decode cX4_probeRound 60 = .ok (.dup, 1) := by decide +kernel
theorem dX4_probeRound_61 : decode cX4_probeRound 61 = .ok (.getfield 23, 3) := by decide +kernel
theorem dX4_probeRound_64 : decode cX4_probeRound 64 = .ok (.iconst 1, 1) := by decide +kernel
theorem dX4_probeRound_65 : decode cX4_probeRound 65 = .ok (.iadd, 1) := by decide +kernel
theorem dX4_probeRound_66 : decode cX4_probeRound 66 = .ok (.putfield 23, 3) := by decide +kernel
theorem dX4_probeRound_69 : decode cX4_probeRound 69 = .ok (.aload_n 1, 1) := by decide +kernel
theorem dX4_probeRound_70 : decode cX4_probeRound 70 = .ok (.getfield 56, 3) := by decide +kernel
theorem dX4_probeRound_73 : decode cX4_probeRound 73 = .ok (.iload_n 2, 1) := by decide +kernel
theorem dX4_probeRound_74 : decode cX4_probeRound 74 = .ok (.dup2, 1) := by decide +kernel
theorem dX4_probeRound_75 : decode cX4_probeRound 75 = .ok (.iaload, 1) := by decide +kernel
theorem dX4_probeRound_76 : decode cX4_probeRound 76 = .ok (.iconst 1, 1) := by decide +kernel
theorem dX4_probeRound_77 : decode cX4_probeRound 77 = .ok (.iload_n 3, 1) := by decide +kernel
theorem dX4_probeRound_78 : decode cX4_probeRound 78 = .ok (.ishl, 1) := by decide +kernel
theorem dX4_probeRound_79 : decode cX4_probeRound 79 = .ok (.iconst (-1), 1) := by decide +kernel
theorem dX4_probeRound_80 : decode cX4_probeRound 80 = .ok (.ixor, 1) := by decide +kernel
theorem dX4_probeRound_81 : decode cX4_probeRound 81 = .ok (.iand, 1) := by decide +kernel
theorem dX4_probeRound_82 : decode cX4_probeRound 82 = .ok (.iastore, 1) := by decide +kernel
theorem dX4_probeRound_83 : decode cX4_probeRound 83 = .ok (.aload_n 0, 1) := by decide +kernel
theorem dX4_probeRound_84 : decode cX4_probeRound 84 = .ok (.aload_n 1, 1) := by decide +kernel
theorem dX4_probeRound_85 : decode cX4_probeRound 85 = .ok (.aload_n 1, 1) := by decide +kernel
theorem dX4_probeRound_86 : decode cX4_probeRound 86 = .ok (.iload_n 2, 1) := by decide +kernel
theorem dX4_probeRound_87 : decode cX4_probeRound 87 = .ok (.invokevirtual 60, 3) := by decide +kernel
theorem dX4_probeRound_90 : decode cX4_probeRound 90 = .ok (.invokevirtual 34, 3) := by decide +kernel
theorem dX4_probeRound_93 : decode cX4_probeRound 93 = .ok (.ifCond .ne 5, 3) := by decide +kernel
theorem dX4_probeRound_96 : decode cX4_probeRound 96 = .ok (.iconst 0, 1) := by decide +kernel
theorem dX4_probeRound_97 : decode cX4_probeRound 97 = .ok (.ireturn, 1) := by decide +kernel
theorem dX4_probeRound_98 : decode cX4_probeRound 98 = .ok (.iinc 3 1, 3) := by decide +kernel
theorem dX4_probeRound_101 : decode cX4_probeRound 101 = .ok (.goto (-89), 3) := by decide +kernel
theorem dX4_probeRound_104 : decode cX4_probeRound 104 = .ok (.iinc 2 1, 3) := by decide +kernel
theorem dX4_probeRound_107 : decode cX4_probeRound 107 = .ok (.goto (-105), 3) := by decide +kernel
theorem dX4_probeRound_110 : decode cX4_probeRound 110 = .ok (.iconst 1, 1) := by decide +kernel
theorem dX4_probeRound_111 : decode cX4_probeRound 111 = .ok (.ireturn, 1) := by decide +kernel
theorem dX4_failsWith_0 : decode cX4_failsWith 0 = .ok (.aload_n 0, 1) := by decide +kernel
theorem dX4_failsWith_1 : decode cX4_failsWith 1 = .ok (.getfield 10, 3) := by decide +kernel
theorem dX4_failsWith_4 : decode cX4_failsWith 4 = .ok (.aload_n 1, 1) := by decide +kernel
theorem dX4_failsWith_5 : decode cX4_failsWith 5 = .ok (.invokevirtual 64, 3) := by decide +kernel
theorem dX4_failsWith_8 : decode cX4_failsWith 8 = .ok (.aload_n 0, 1) := by decide +kernel
theorem dX4_failsWith_9 : decode cX4_failsWith 9 = .ok (.getfield 10, 3) := by decide +kernel
theorem dX4_failsWith_12 : decode cX4_failsWith 12 = .ok (.getfield 56, 3) := by decide +kernel
theorem dX4_failsWith_15 : decode cX4_failsWith 15 = .ok (.iload_n 2, 1) := by decide +kernel
theorem dX4_failsWith_16 : decode cX4_failsWith 16 = .ok (.iconst 1, 1) := by decide +kernel
theorem dX4_failsWith_17 : decode cX4_failsWith 17 = .ok (.iload_n 3, 1) := by decide +kernel
theorem dX4_failsWith_18 : decode cX4_failsWith 18 = .ok (.ishl, 1) := by decide +kernel
theorem dX4_failsWith_19 : decode cX4_failsWith 19 = .ok (.iastore, 1) := by decide +kernel
theorem dX4_failsWith_20 : decode cX4_failsWith 20 = .ok (.aload_n 0, 1) := by decide +kernel
theorem dX4_failsWith_21 : decode cX4_failsWith 21 = .ok (.getfield 19, 3) := by decide +kernel
theorem dX4_failsWith_24 : decode cX4_failsWith 24 = .ok (.aload_n 0, 1) := by decide +kernel
theorem dX4_failsWith_25 : decode cX4_failsWith 25 = .ok (.getfield 10, 3) := by decide +kernel
theorem dX4_failsWith_28 : decode cX4_failsWith 28 = .ok (.aload_n 0, 1) := by decide +kernel
theorem dX4_failsWith_29 : decode cX4_failsWith 29 = .ok (.getfield 10, 3) := by decide +kernel
theorem dX4_failsWith_32 : decode cX4_failsWith 32 = .ok (.iload_n 2, 1) := by decide +kernel
theorem dX4_failsWith_33 : decode cX4_failsWith 33 = .ok (.invokevirtual 60, 3) := by decide +kernel
theorem dX4_failsWith_36 : decode cX4_failsWith 36 = .ok (.invokevirtual 68, 3) := by decide +kernel
theorem dX4_failsWith_39 : decode cX4_failsWith 39 = .ok (.ifCond .ne 7, 3) := by decide +kernel
theorem dX4_failsWith_42 : decode cX4_failsWith 42 = .ok (.iconst 1, 1) := by decide +kernel
theorem dX4_failsWith_43 : decode cX4_failsWith 43 = .ok (.goto 4, 3) := by decide +kernel
theorem dX4_failsWith_46 : decode cX4_failsWith 46 = .ok (.iconst 0, 1) := by decide +kernel
theorem dX4_failsWith_47 : decode cX4_failsWith 47 = .ok (.ireturn, 1) := by decide +kernel
theorem dX4_settle_0 : decode cX4_settle 0 = .ok (.aload_n 0, 1) := by decide +kernel
theorem dX4_settle_1 : decode cX4_settle 1 = .ok (.getfield 19, 3) := by decide +kernel
theorem dX4_settle_4 : decode cX4_settle 4 = .ok (.aload_n 1, 1) := by decide +kernel
theorem dX4_settle_5 : decode cX4_settle 5 = .ok (.iload_n 2, 1) := by decide +kernel
theorem dX4_settle_6 : decode cX4_settle 6 = .ok (.invokevirtual 68, 3) := by decide +kernel
theorem dX4_settle_9 : decode cX4_settle 9 = .ok (.istore_n 3, 1) := by decide +kernel
theorem dX4_settle_10 : decode cX4_settle 10 = .ok (.aload_n 0, 1) := by decide +kernel
theorem dX4_settle_11 : decode cX4_settle 11 = .ok (.aload_n 0, 1) := by decide +kernel
theorem dX4_settle_12 : decode cX4_settle 12 = .ok (.getfield 19, 3) := by decide +kernel
theorem dX4_settle_15 : decode cX4_settle 15 = .ok (.getfield 69, 3) := by decide +kernel
theorem dX4_settle_18 : decode cX4_settle 18 = .ok (.putfield 27, 3) := by decide +kernel
theorem dX4_settle_21 : decode cX4_settle 21 = .ok (.iload_n 3, 1) := by decide +kernel
theorem dX4_settle_22 : decode cX4_settle 22 = .ok (.ireturn, 1) := by decide +kernel
theorem dX5_init_0 : decode cX5_init 0 = .ok (.aload_n 0, 1) := by decide +kernel
theorem dX5_init_1 : decode cX5_init 1 = .ok (.invokespecial 3, 3) := by decide +kernel
theorem dX5_init_4 : decode cX5_init 4 = .ok (.aload_n 0, 1) := by decide +kernel
theorem dX5_init_5 : decode cX5_init 5 = .ok (.new 9, 3) := by decide +kernel
theorem dX5_init_8 : decode cX5_init 8 = .ok (.dup, 1) := by decide +kernel
theorem dX5_init_9 : decode cX5_init 9 = .ok (.invokespecial 11, 3) := by decide +kernel
theorem dX5_init_12 : decode cX5_init 12 = .ok (.putfield 12, 3) := by decide +kernel
theorem dX5_init_15 : decode cX5_init 15 = .ok (.aload_n 0, 1) := by decide +kernel
theorem dX5_init_16 : decode cX5_init 16 = .ok (.iconst 0, 1) := by decide +kernel
theorem dX5_init_17 : decode cX5_init 17 = .ok (.putfield 18, 3) := by decide +kernel
theorem dX5_init_20 : decode cX5_init 20 = .ok (.aload_n 0, 1) := by decide +kernel
theorem dX5_init_21 : decode cX5_init 21 = .ok (.iconst 0, 1) := by decide +kernel
theorem dX5_init_22 : decode cX5_init 22 = .ok (.putfield 22, 3) := by decide +kernel
theorem dX5_init_25 : decode cX5_init 25 = .ok (.aload_n 0, 1) := by decide +kernel
theorem dX5_init_26 : decode cX5_init 26 = .ok (.iconst 0, 1) := by decide +kernel
theorem dX5_init_27 : decode cX5_init 27 = .ok (.putfield 25, 3) := by decide +kernel
theorem dX5_init_30 : decode cX5_init 30 = .ok (.return_, 1) := by decide +kernel
theorem dX5_settle_0 : decode cX5_settle 0 = .ok (.iload_n 2, 1) := by decide +kernel
theorem dX5_settle_1 : decode cX5_settle 1 = .ok (.istore_n 3, 1) := by decide +kernel
theorem dX5_settle_2 : decode cX5_settle 2 = .ok (.aload_n 0, 1) := by decide +kernel
theorem dX5_settle_3 : decode cX5_settle 3 = .ok (.iconst 0, 1) := by decide +kernel
theorem dX5_settle_4 : decode cX5_settle 4 = .ok (.putfield 18, 3) := by decide +kernel
theorem dX5_settle_7 : decode cX5_settle 7 = .ok (.aload_n 0, 1) := by decide +kernel
theorem dX5_settle_8 : decode cX5_settle 8 = .ok (.iconst 0, 1) := by decide +kernel
theorem dX5_settle_9 : decode cX5_settle 9 = .ok (.putfield 22, 3) := by decide +kernel
theorem dX5_settle_12 : decode cX5_settle 12 = .ok (.iconst 0, 1) := by decide +kernel
theorem dX5_settle_13 : decode cX5_settle 13 = .ok (.istore 4, 2) := by decide +kernel
theorem dX5_settle_15 : decode cX5_settle 15 = .ok (.iload 4, 2) := by decide +kernel
theorem dX5_settle_17 : decode cX5_settle 17 = .ok (.sipush 192, 3) := by decide +kernel
theorem dX5_settle_20 : decode cX5_settle 20 = .ok (.if_icmp .gt 122, 3) := by decide +kernel
theorem dX5_settle_23 : decode cX5_settle 23 = .ok (.aload_n 0, 1) := by decide +kernel
theorem dX5_settle_24 : decode cX5_settle 24 = .ok (.getfield 22, 3) := by decide +kernel
theorem dX5_settle_27 : decode cX5_settle 27 = .ok (.istore 5, 2) := by decide +kernel
theorem dX5_settle_29 : decode cX5_settle 29 = .ok (.aload_n 0, 1) := by decide +kernel
theorem dX5_settle_30 : decode cX5_settle 30 = .ok (.dup, 1) := by decide +kernel
theorem dX5_settle_31 : decode cX5_settle 31 = .ok (.getfield 18, 3) := by decide +kernel
theorem dX5_settle_34 : decode cX5_settle 34 = .ok (.iconst 1, 1) := by decide +kernel
theorem dX5_settle_35 : decode cX5_settle 35 = .ok (.iadd, 1) := by decide +kernel
theorem dX5_settle_36 : decode cX5_settle 36 = .ok (.putfield 18, 3) := by decide +kernel
theorem dX5_settle_39 : decode cX5_settle 39 = .ok (.iconst 0, 1) := by decide +kernel
theorem dX5_settle_40 : decode cX5_settle 40 = .ok (.istore 6, 2) := by decide +kernel
theorem dX5_settle_42 : decode cX5_settle 42 = .ok (.iload 6, 2) := by decide +kernel
theorem dX5_settle_44 : decode cX5_settle 44 = .ok (.aload_n 1, 1) := by decide +kernel
theorem dX5_settle_45 : decode cX5_settle 45 = .ok (.invokevirtual 28, 3) := by decide +kernel
theorem dX5_settle_48 : decode cX5_settle 48 = .ok (.if_icmp .ge 77, 3) := by decide +kernel
theorem dX5_settle_51 : decode cX5_settle 51 = .ok (.iload_n 3, 1) := by decide +kernel
theorem dX5_settle_52 : decode cX5_settle 52 = .ok (.iload 6, 2) := by decide +kernel
theorem dX5_settle_54 : decode cX5_settle 54 = .ok (.ishr, 1) := by decide +kernel
theorem dX5_settle_55 : decode cX5_settle 55 = .ok (.iconst 1, 1) := by decide +kernel
theorem dX5_settle_56 : decode cX5_settle 56 = .ok (.iand, 1) := by decide +kernel
theorem dX5_settle_57 : decode cX5_settle 57 = .ok (.ifCond .ne 6, 3) := by decide +kernel
theorem dX5_settle_60 : decode cX5_settle 60 = .ok (.goto 59, 3) := by decide +kernel
theorem dX5_settle_63 : decode cX5_settle 63 = .ok (.aload_n 0, 1) := by decide +kernel
theorem dX5_settle_64 : decode cX5_settle 64 = .ok (.getfield 12, 3) := by decide +kernel
theorem dX5_settle_67 : decode cX5_settle 67 = .ok (.aload_n 1, 1) := by decide +kernel
theorem dX5_settle_68 : decode cX5_settle 68 = .ok (.iload 6, 2) := by decide +kernel
theorem dX5_settle_70 : decode cX5_settle 70 = .ok (.invokevirtual 34, 3) := by decide +kernel
theorem dX5_settle_73 : decode cX5_settle 73 = .ok (.ifCond .ne 11, 3) := by decide +kernel
theorem dX5_settle_76 : decode cX5_settle 76 = .ok (.aload_n 0, 1) := by decide +kernel
theorem dX5_settle_77 : decode cX5_settle 77 = .ok (.iload 6, 2) := by decide +kernel
theorem dX5_settle_79 : decode cX5_settle 79 = .ok (.putfield 25, 3) := by decide +kernel
theorem dX5_settle_82 : decode cX5_settle 82 = .ok (.iconst 0, 1) := by decide +kernel
theorem dX5_settle_83 : decode cX5_settle 83 = .ok (.ireturn, 1) := by decide +kernel
theorem dX5_settle_84 : decode cX5_settle 84 = .ok (.aload_n 0, 1) := by decide +kernel
theorem dX5_settle_85 : decode cX5_settle 85 = .ok (.dup, 1) := by decide +kernel
theorem dX5_settle_86 : decode cX5_settle 86 = .ok (.getfield 22, 3) := by decide +kernel
theorem dX5_settle_89 : decode cX5_settle 89 = .ok (.aload_n 0, 1) := by decide +kernel
theorem dX5_settle_90 : decode cX5_settle 90 = .ok (.getfield 12, 3) := by decide +kernel
theorem dX5_settle_93 : decode cX5_settle 93 = .ok (.getfield 38, 3) := by decide +kernel
theorem dX5_settle_96 : decode cX5_settle 96 = .ok (.iadd, 1) := by decide +kernel
theorem dX5_settle_97 : decode cX5_settle 97 = .ok (.putfield 22, 3) := by decide +kernel
theorem dX5_settle_100 : decode cX5_settle 100 = .ok (.iload_n 3, 1) := by decide +kernel
theorem dX5_settle_101 : decode cX5_settle 101 = .ok (.iconst 1, 1) := by decide +kernel
theorem dX5_settle_102 : decode cX5_settle 102 = .ok (.iload 6, 2) := by decide +kernel
theorem dX5_settle_104 : decode cX5_settle 104 = .ok (.ishl, 1) := by decide +kernel
theorem dX5_settle_105 : decode cX5_settle 105 = .ok (.iconst (-1), 1) := by decide +kernel
theorem dX5_settle_106 : decode cX5_settle 106 = .ok (.ixor, 1) := by decide +kernel
theorem dX5_settle_107 : decode cX5_settle 107 = .ok (.iand, 1) := by decide +kernel
theorem dX5_settle_108 : decode cX5_settle 108 = .ok (.istore_n 3, 1) := by decide +kernel
theorem dX5_settle_109 : decode cX5_settle 109 = .ok (.iload_n 3, 1) := by decide +kernel
theorem dX5_settle_110 : decode cX5_settle 110 = .ok (.aload_n 0, 1) := by decide +kernel
theorem dX5_settle_111 : decode cX5_settle 111 = .ok (.getfield 12, 3) := by decide +kernel
theorem dX5_settle_114 : decode cX5_settle 114 = .ok (.getfield 39, 3) := by decide +kernel
theorem dX5_settle_117 : decode cX5_settle 117 = .ok (.ior, 1) := by decide +kernel
theorem dX5_settle_118 : decode cX5_settle 118 = .ok (.istore_n 3, 1) := by decide +kernel
theorem dX5_settle_119 : decode cX5_settle 119 = .ok (.iinc 6 1, 3) := by decide +kernel
theorem dX5_settle_122 : decode cX5_settle 122 = .ok (.goto (-80), 3) := by decide +kernel
theorem dX5_settle_125 : decode cX5_settle 125 = .ok (.aload_n 0, 1) := by decide +kernel
theorem dX5_settle_126 : decode cX5_settle 126 = .ok (.getfield 22, 3) := by decide +kernel
theorem dX5_settle_129 : decode cX5_settle 129 = .ok (.iload 5, 2) := by decide +kernel
theorem dX5_settle_131 : decode cX5_settle 131 = .ok (.if_icmp .ne 5, 3) := by decide +kernel
theorem dX5_settle_134 : decode cX5_settle 134 = .ok (.iconst 1, 1) := by decide +kernel
theorem dX5_settle_135 : decode cX5_settle 135 = .ok (.ireturn, 1) := by decide +kernel
theorem dX5_settle_136 : decode cX5_settle 136 = .ok (.iinc 4 1, 3) := by decide +kernel
theorem dX5_settle_139 : decode cX5_settle 139 = .ok (.goto (-124), 3) := by decide +kernel
theorem dX5_settle_142 : decode cX5_settle 142 = .ok (.iconst 1, 1) := by decide +kernel
theorem dX5_settle_143 : decode cX5_settle 143 = .ok (.ireturn, 1) := by decide +kernel
theorem dX6_init_0 : decode cX6_init 0 = .ok (.aload_n 0, 1) := by decide +kernel
theorem dX6_init_1 : decode cX6_init 1 = .ok (.invokespecial 3, 3) := by decide +kernel
theorem dX6_init_4 : decode cX6_init 4 = .ok (.aload_n 0, 1) := by decide +kernel
theorem dX6_init_5 : decode cX6_init 5 = .ok (.new 9, 3) := by decide +kernel
theorem dX6_init_8 : decode cX6_init 8 = .ok (.dup, 1) := by decide +kernel
theorem dX6_init_9 : decode cX6_init 9 = .ok (.invokespecial 11, 3) := by decide +kernel
theorem dX6_init_12 : decode cX6_init 12 = .ok (.putfield 12, 3) := by decide +kernel
theorem dX6_init_15 : decode cX6_init 15 = .ok (.aload_n 0, 1) := by decide +kernel
theorem dX6_init_16 : decode cX6_init 16 = .ok (.new 18, 3) := by decide +kernel
theorem dX6_init_19 : decode cX6_init 19 = .ok (.dup, 1) := by decide +kernel
theorem dX6_init_20 : decode cX6_init 20 = .ok (.invokespecial 20, 3) := by decide +kernel
theorem dX6_init_23 : decode cX6_init 23 = .ok (.putfield 21, 3) := by decide +kernel
theorem dX6_init_26 : decode cX6_init 26 = .ok (.aload_n 0, 1) := by decide +kernel
theorem dX6_init_27 : decode cX6_init 27 = .ok (.sipush 3840, 3) := by decide +kernel
theorem dX6_init_30 : decode cX6_init 30 = .ok (.newarray .int, 2) := by decide +kernel
theorem dX6_init_32 : decode cX6_init 32 = .ok (.putfield 25, 3) := by decide +kernel
theorem dX6_init_35 : decode cX6_init 35 = .ok (.aload_n 0, 1) := by decide +kernel
theorem dX6_init_36 : decode cX6_init 36 = .ok (.bipush 60, 2) := by decide +kernel
theorem dX6_init_38 : decode cX6_init 38 = .ok (.newarray .int, 2) := by decide +kernel
theorem dX6_init_40 : decode cX6_init 40 = .ok (.putfield 29, 3) := by decide +kernel
theorem dX6_init_43 : decode cX6_init 43 = .ok (.aload_n 0, 1) := by decide +kernel
theorem dX6_init_44 : decode cX6_init 44 = .ok (.bipush 60, 2) := by decide +kernel
theorem dX6_init_46 : decode cX6_init 46 = .ok (.newarray .int, 2) := by decide +kernel
theorem dX6_init_48 : decode cX6_init 48 = .ok (.putfield 32, 3) := by decide +kernel
theorem dX6_init_51 : decode cX6_init 51 = .ok (.aload_n 0, 1) := by decide +kernel
theorem dX6_init_52 : decode cX6_init 52 = .ok (.iconst 0, 1) := by decide +kernel
theorem dX6_init_53 : decode cX6_init 53 = .ok (.putfield 35, 3) := by decide +kernel
theorem dX6_init_56 : decode cX6_init 56 = .ok (.aload_n 0, 1) := by decide +kernel
theorem dX6_init_57 : decode cX6_init 57 = .ok (.iconst 0, 1) := by decide +kernel
theorem dX6_init_58 : decode cX6_init 58 = .ok (.putfield 39, 3) := by decide +kernel
theorem dX6_init_61 : decode cX6_init 61 = .ok (.aload_n 0, 1) := by decide +kernel
theorem dX6_init_62 : decode cX6_init 62 = .ok (.iconst 0, 1) := by decide +kernel
theorem dX6_init_63 : decode cX6_init 63 = .ok (.putfield 42, 3) := by decide +kernel
theorem dX6_init_66 : decode cX6_init 66 = .ok (.aload_n 0, 1) := by decide +kernel
theorem dX6_init_67 : decode cX6_init 67 = .ok (.iconst 0, 1) := by decide +kernel
theorem dX6_init_68 : decode cX6_init 68 = .ok (.putfield 45, 3) := by decide +kernel
theorem dX6_init_71 : decode cX6_init 71 = .ok (.aload_n 0, 1) := by decide +kernel
theorem dX6_init_72 : decode cX6_init 72 = .ok (.iconst 0, 1) := by decide +kernel
theorem dX6_init_73 : decode cX6_init 73 = .ok (.putfield 48, 3) := by decide +kernel
theorem dX6_init_76 : decode cX6_init 76 = .ok (.return_, 1) := by decide +kernel
theorem dX6_find_0 : decode cX6_find 0 = .ok (.aload_n 0, 1) := by decide +kernel
theorem dX6_find_1 : decode cX6_find 1 = .ok (.getfield 12, 3) := by decide +kernel
theorem dX6_find_4 : decode cX6_find 4 = .ok (.aload_n 1, 1) := by decide +kernel
theorem dX6_find_5 : decode cX6_find 5 = .ok (.invokevirtual 52, 3) := by decide +kernel
theorem dX6_find_8 : decode cX6_find 8 = .ok (.aload_n 0, 1) := by decide +kernel
theorem dX6_find_9 : decode cX6_find 9 = .ok (.iload_n 2, 1) := by decide +kernel
theorem dX6_find_10 : decode cX6_find 10 = .ok (.putfield 39, 3) := by decide +kernel
theorem dX6_find_13 : decode cX6_find 13 = .ok (.aload_n 0, 1) := by decide +kernel
theorem dX6_find_14 : decode cX6_find 14 = .ok (.iconst 0, 1) := by decide +kernel
theorem dX6_find_15 : decode cX6_find 15 = .ok (.putfield 35, 3) := by decide +kernel
theorem dX6_find_18 : decode cX6_find 18 = .ok (.aload_n 0, 1) := by decide +kernel
theorem dX6_find_19 : decode cX6_find 19 = .ok (.iconst 0, 1) := by decide +kernel
theorem dX6_find_20 : decode cX6_find 20 = .ok (.putfield 42, 3) := by decide +kernel
theorem dX6_find_23 : decode cX6_find 23 = .ok (.aload_n 0, 1) := by decide +kernel
theorem dX6_find_24 : decode cX6_find 24 = .ok (.iconst 0, 1) := by decide +kernel
theorem dX6_find_25 : decode cX6_find 25 = .ok (.putfield 45, 3) := by decide +kernel
theorem dX6_find_28 : decode cX6_find 28 = .ok (.aload_n 0, 1) := by decide +kernel
theorem dX6_find_29 : decode cX6_find 29 = .ok (.iconst 0, 1) := by decide +kernel
theorem dX6_find_30 : decode cX6_find 30 = .ok (.putfield 48, 3) := by decide +kernel
theorem dX6_find_33 : decode cX6_find 33 = .ok (.aload_n 0, 1) := by decide +kernel
theorem dX6_find_34 : decode cX6_find 34 = .ok (.aload_n 0, 1) := by decide +kernel
theorem dX6_find_35 : decode cX6_find 35 = .ok (.getfield 12, 3) := by decide +kernel
theorem dX6_find_38 : decode cX6_find 38 = .ok (.invokevirtual 56, 3) := by decide +kernel
theorem dX6_find_41 : decode cX6_find 41 = .ok (.invokevirtual 60, 3) := by decide +kernel
theorem dX6_find_44 : decode cX6_find 44 = .ok (.iconst 0, 1) := by decide +kernel
theorem dX6_find_45 : decode cX6_find 45 = .ok (.istore 4, 2) := by decide +kernel
theorem dX6_find_47 : decode cX6_find 47 = .ok (.iload 4, 2) := by decide +kernel
theorem dX6_find_49 : decode cX6_find 49 = .ok (.bipush 121, 2) := by decide +kernel
theorem dX6_find_51 : decode cX6_find 51 = .ok (.if_icmp .ge 73, 3) := by decide +kernel
theorem dX6_find_54 : decode cX6_find 54 = .ok (.aload_n 0, 1) := by decide +kernel
theorem dX6_find_55 : decode cX6_find 55 = .ok (.getfield 35, 3) := by decide +kernel
theorem dX6_find_58 : decode cX6_find 58 = .ok (.ifCond .le 66, 3) := by decide +kernel
theorem dX6_find_61 : decode cX6_find 61 = .ok (.aload_n 0, 1) := by decide +kernel
theorem dX6_find_62 : decode cX6_find 62 = .ok (.getfield 45, 3) := by decide +kernel
theorem dX6_find_65 : decode cX6_find 65 = .ok (.iload_n 3, 1) := by decide +kernel
theorem dX6_find_66 : decode cX6_find 66 = .ok (.if_icmp .ge 58, 3) := by decide +kernel
theorem dX6_find_69 : decode cX6_find 69 = .ok (.aload_n 0, 1) := by decide +kernel
theorem dX6_find_70 : decode cX6_find 70 = .ok (.getfield 48, 3) := by decide +kernel
theorem dX6_find_73 : decode cX6_find 73 = .ok (.ifCond .ne 51, 3) := by decide +kernel
theorem dX6_find_76 : decode cX6_find 76 = .ok (.aload_n 0, 1) := by decide +kernel
theorem dX6_find_77 : decode cX6_find 77 = .ok (.invokevirtual 64, 3) := by decide +kernel
theorem dX6_find_80 : decode cX6_find 80 = .ok (.ifCond .eq 28, 3) := by decide +kernel
theorem dX6_find_83 : decode cX6_find 83 = .ok (.aload_n 0, 1) := by decide +kernel
theorem dX6_find_84 : decode cX6_find 84 = .ok (.aload_n 0, 1) := by decide +kernel
theorem dX6_find_85 : decode cX6_find 85 = .ok (.getfield 12, 3) := by decide +kernel
theorem dX6_find_88 : decode cX6_find 88 = .ok (.aload_n 0, 1) := by decide +kernel
theorem dX6_find_89 : decode cX6_find 89 = .ok (.getfield 29, 3) := by decide +kernel
theorem dX6_find_92 : decode cX6_find 92 = .ok (.aload_n 0, 1) := by decide +kernel
theorem dX6_find_93 : decode cX6_find 93 = .ok (.getfield 35, 3) := by decide +kernel
theorem dX6_find_96 : decode cX6_find 96 = .ok (.iconst 1, 1) := by decide +kernel
theorem dX6_find_97 : decode cX6_find 97 = .ok (.isub, 1) := by decide +kernel
theorem dX6_find_98 : decode cX6_find 98 = .ok (.iaload, 1) := by decide +kernel
theorem dX6_find_99 : decode cX6_find 99 = .ok (.invokevirtual 68, 3) := by decide +kernel
theorem dX6_find_102 : decode cX6_find 102 = .ok (.invokevirtual 60, 3) := by decide +kernel
theorem dX6_find_105 : decode cX6_find 105 = .ok (.goto 13, 3) := by decide +kernel
theorem dX6_find_108 : decode cX6_find 108 = .ok (.aload_n 0, 1) := by decide +kernel
theorem dX6_find_109 : decode cX6_find 109 = .ok (.dup, 1) := by decide +kernel
theorem dX6_find_110 : decode cX6_find 110 = .ok (.getfield 35, 3) := by decide +kernel
theorem dX6_find_113 : decode cX6_find 113 = .ok (.iconst 1, 1) := by decide +kernel
theorem dX6_find_114 : decode cX6_find 114 = .ok (.isub, 1) := by decide +kernel
theorem dX6_find_115 : decode cX6_find 115 = .ok (.putfield 35, 3) := by decide +kernel
theorem dX6_find_118 : decode cX6_find 118 = .ok (.iinc 4 1, 3) := by decide +kernel
theorem dX6_find_121 : decode cX6_find 121 = .ok (.goto (-74), 3) := by decide +kernel
theorem dX6_find_124 : decode cX6_find 124 = .ok (.return_, 1) := by decide +kernel
theorem dX6_lastSolutionColor_0 : decode cX6_lastSolutionColor 0 = .ok (.aload_n 0, 1) := by decide +kernel
theorem dX6_lastSolutionColor_1 : decode cX6_lastSolutionColor 1 = .ok (.getfield 12, 3) := by decide +kernel
theorem dX6_lastSolutionColor_4 : decode cX6_lastSolutionColor 4 = .ok (.iload_n 1, 1) := by decide +kernel
theorem dX6_lastSolutionColor_5 : decode cX6_lastSolutionColor 5 = .ok (.invokevirtual 72, 3) := by decide +kernel
theorem dX6_lastSolutionColor_8 : decode cX6_lastSolutionColor 8 = .ok (.ireturn, 1) := by decide +kernel
theorem dX6_makeNextChild_0 : decode cX6_makeNextChild 0 = .ok (.aload_n 0, 1) := by decide +kernel
theorem dX6_makeNextChild_1 : decode cX6_makeNextChild 1 = .ok (.getfield 35, 3) := by decide +kernel
theorem dX6_makeNextChild_4 : decode cX6_makeNextChild 4 = .ok (.iconst 1, 1) := by decide +kernel
theorem dX6_makeNextChild_5 : decode cX6_makeNextChild 5 = .ok (.isub, 1) := by decide +kernel
theorem dX6_makeNextChild_6 : decode cX6_makeNextChild 6 = .ok (.istore_n 1, 1) := by decide +kernel
theorem dX6_makeNextChild_7 : decode cX6_makeNextChild 7 = .ok (.aload_n 0, 1) := by decide +kernel
theorem dX6_makeNextChild_8 : decode cX6_makeNextChild 8 = .ok (.getfield 29, 3) := by decide +kernel
theorem dX6_makeNextChild_11 : decode cX6_makeNextChild 11 = .ok (.iload_n 1, 1) := by decide +kernel
theorem dX6_makeNextChild_12 : decode cX6_makeNextChild 12 = .ok (.iaload, 1) := by decide +kernel
theorem dX6_makeNextChild_13 : decode cX6_makeNextChild 13 = .ok (.istore_n 2, 1) := by decide +kernel
theorem dX6_makeNextChild_14 : decode cX6_makeNextChild 14 = .ok (.aload_n 0, 1) := by decide +kernel
theorem dX6_makeNextChild_15 : decode cX6_makeNextChild 15 = .ok (.getfield 25, 3) := by decide +kernel
theorem dX6_makeNextChild_18 : decode cX6_makeNextChild 18 = .ok (.iload_n 1, 1) := by decide +kernel
theorem dX6_makeNextChild_19 : decode cX6_makeNextChild 19 = .ok (.bipush 64, 2) := by decide +kernel
theorem dX6_makeNextChild_21 : decode cX6_makeNextChild 21 = .ok (.imul, 1) := by decide +kernel
theorem dX6_makeNextChild_22 : decode cX6_makeNextChild 22 = .ok (.aload_n 0, 1) := by decide +kernel
theorem dX6_makeNextChild_23 : decode cX6_makeNextChild 23 = .ok (.getfield 12, 3) := by decide +kernel
theorem dX6_makeNextChild_26 : decode cX6_makeNextChild 26 = .ok (.getfield 75, 3) := by decide +kernel
theorem dX6_makeNextChild_29 : decode cX6_makeNextChild 29 = .ok (.iconst 0, 1) := by decide +kernel
theorem dX6_makeNextChild_30 : decode cX6_makeNextChild 30 = .ok (.bipush 64, 2) := by decide +kernel
theorem dX6_makeNextChild_32 : decode cX6_makeNextChild 32 = .ok (.invokestatic 78, 3) := by decide +kernel
theorem dX6_makeNextChild_35 : decode cX6_makeNextChild 35 = .ok (.aload_n 0, 1) := by decide +kernel
theorem dX6_makeNextChild_36 : decode cX6_makeNextChild 36 = .ok (.getfield 32, 3) := by decide +kernel
theorem dX6_makeNextChild_39 : decode cX6_makeNextChild 39 = .ok (.iload_n 1, 1) := by decide +kernel
theorem dX6_makeNextChild_40 : decode cX6_makeNextChild 40 = .ok (.iaload, 1) := by decide +kernel
theorem dX6_makeNextChild_41 : decode cX6_makeNextChild 41 = .ok (.istore_n 3, 1) := by decide +kernel
theorem dX6_makeNextChild_42 : decode cX6_makeNextChild 42 = .ok (.iload_n 3, 1) := by decide +kernel
theorem dX6_makeNextChild_43 : decode cX6_makeNextChild 43 = .ok (.aload_n 0, 1) := by decide +kernel
theorem dX6_makeNextChild_44 : decode cX6_makeNextChild 44 = .ok (.getfield 12, 3) := by decide +kernel
theorem dX6_makeNextChild_47 : decode cX6_makeNextChild 47 = .ok (.getfield 84, 3) := by decide +kernel
theorem dX6_makeNextChild_50 : decode cX6_makeNextChild 50 = .ok (.if_icmp .gt 21, 3) := by decide +kernel
theorem dX6_makeNextChild_53 : decode cX6_makeNextChild 53 = .ok (.aload_n 0, 1) := by decide +kernel
theorem dX6_makeNextChild_54 : decode cX6_makeNextChild 54 = .ok (.getfield 12, 3) := by decide +kernel
theorem dX6_makeNextChild_57 : decode cX6_makeNextChild 57 = .ok (.iload_n 2, 1) := by decide +kernel
theorem dX6_makeNextChild_58 : decode cX6_makeNextChild 58 = .ok (.iload_n 3, 1) := by decide +kernel
theorem dX6_makeNextChild_59 : decode cX6_makeNextChild 59 = .ok (.invokevirtual 87, 3) := by decide +kernel
theorem dX6_makeNextChild_62 : decode cX6_makeNextChild 62 = .ok (.ifCond .ne 9, 3) := by decide +kernel
theorem dX6_makeNextChild_65 : decode cX6_makeNextChild 65 = .ok (.iinc 3 1, 3) := by decide +kernel
theorem dX6_makeNextChild_68 : decode cX6_makeNextChild 68 = .ok (.goto (-26), 3) := by decide +kernel
theorem dX6_makeNextChild_71 : decode cX6_makeNextChild 71 = .ok (.iload_n 3, 1) := by decide +kernel
theorem dX6_makeNextChild_72 : decode cX6_makeNextChild 72 = .ok (.aload_n 0, 1) := by decide +kernel
theorem dX6_makeNextChild_73 : decode cX6_makeNextChild 73 = .ok (.getfield 12, 3) := by decide +kernel
theorem dX6_makeNextChild_76 : decode cX6_makeNextChild 76 = .ok (.getfield 84, 3) := by decide +kernel
theorem dX6_makeNextChild_79 : decode cX6_makeNextChild 79 = .ok (.if_icmp .le 5, 3) := by decide +kernel
theorem dX6_makeNextChild_82 : decode cX6_makeNextChild 82 = .ok (.iconst 0, 1) := by decide +kernel
theorem dX6_makeNextChild_83 : decode cX6_makeNextChild 83 = .ok (.ireturn, 1) := by decide +kernel
theorem dX6_makeNextChild_84 : decode cX6_makeNextChild 84 = .ok (.aload_n 0, 1) := by decide +kernel
theorem dX6_makeNextChild_85 : decode cX6_makeNextChild 85 = .ok (.getfield 32, 3) := by decide +kernel
theorem dX6_makeNextChild_88 : decode cX6_makeNextChild 88 = .ok (.iload_n 1, 1) := by decide +kernel
theorem dX6_makeNextChild_89 : decode cX6_makeNextChild 89 = .ok (.iload_n 3, 1) := by decide +kernel
theorem dX6_makeNextChild_90 : decode cX6_makeNextChild 90 = .ok (.iconst 1, 1) := by decide +kernel
theorem dX6_makeNextChild_91 : decode cX6_makeNextChild 91 = .ok (.iadd, 1) := by decide +kernel
theorem dX6_makeNextChild_92 : decode cX6_makeNextChild 92 = .ok (.iastore, 1) := by decide +kernel
theorem dX6_makeNextChild_93 : decode cX6_makeNextChild 93 = .ok (.aload_n 0, 1) := by decide +kernel
theorem dX6_makeNextChild_94 : decode cX6_makeNextChild 94 = .ok (.getfield 12, 3) := by decide +kernel
theorem dX6_makeNextChild_97 : decode cX6_makeNextChild 97 = .ok (.getfield 75, 3) := by decide +kernel
theorem dX6_makeNextChild_100 : decode cX6_makeNextChild 100 = .ok (.iload_n 2, 1) := by decide +kernel
theorem dX6_makeNextChild_101 : decode cX6_makeNextChild 101 = .ok (.iconst 1, 1) := by decide +kernel
theorem dX6_makeNextChild_102 : decode cX6_makeNextChild 102 = .ok (.iload_n 3, 1) := by decide +kernel
theorem dX6_makeNextChild_103 : decode cX6_makeNextChild 103 = .ok (.ishl, 1) := by decide +kernel
theorem dX6_makeNextChild_104 : decode cX6_makeNextChild 104 = .ok (.iastore, 1) := by decide +kernel
theorem dX6_makeNextChild_105 : decode cX6_makeNextChild 105 = .ok (.iconst 1, 1) := by decide +kernel
theorem dX6_makeNextChild_106 : decode cX6_makeNextChild 106 = .ok (.ireturn, 1) := by decide +kernel
theorem dX6_visit_0 : decode cX6_visit 0 = .ok (.aload_n 0, 1) := by decide +kernel
theorem dX6_visit_1 : decode cX6_visit 1 = .ok (.getfield 42, 3) := by decide +kernel
theorem dX6_visit_4 : decode cX6_visit 4 = .ok (.bipush 60, 2) := by decide +kernel
theorem dX6_visit_6 : decode cX6_visit 6 = .ok (.if_icmp .lt 9, 3) := by decide +kernel
theorem dX6_visit_9 : decode cX6_visit 9 = .ok (.aload_n 0, 1) := by decide +kernel
theorem dX6_visit_10 : decode cX6_visit 10 = .ok (.iconst 1, 1) := by decide +kernel
theorem dX6_visit_11 : decode cX6_visit 11 = .ok (.putfield 48, 3) := by decide +kernel
theorem dX6_visit_14 : decode cX6_visit 14 = .ok (.return_, 1) := by decide +kernel
theorem dX6_visit_15 : decode cX6_visit 15 = .ok (.aload_n 0, 1) := by decide +kernel
theorem dX6_visit_16 : decode cX6_visit 16 = .ok (.dup, 1) := by decide +kernel
theorem dX6_visit_17 : decode cX6_visit 17 = .ok (.getfield 42, 3) := by decide +kernel
theorem dX6_visit_20 : decode cX6_visit 20 = .ok (.iconst 1, 1) := by decide +kernel
theorem dX6_visit_21 : decode cX6_visit 21 = .ok (.iadd, 1) := by decide +kernel
theorem dX6_visit_22 : decode cX6_visit 22 = .ok (.putfield 42, 3) := by decide +kernel
theorem dX6_visit_25 : decode cX6_visit 25 = .ok (.aload_n 0, 1) := by decide +kernel
theorem dX6_visit_26 : decode cX6_visit 26 = .ok (.getfield 21, 3) := by decide +kernel
theorem dX6_visit_29 : decode cX6_visit 29 = .ok (.aload_n 0, 1) := by decide +kernel
theorem dX6_visit_30 : decode cX6_visit 30 = .ok (.getfield 12, 3) := by decide +kernel
theorem dX6_visit_33 : decode cX6_visit 33 = .ok (.iload_n 1, 1) := by decide +kernel
theorem dX6_visit_34 : decode cX6_visit 34 = .ok (.invokevirtual 91, 3) := by decide +kernel
theorem dX6_visit_37 : decode cX6_visit 37 = .ok (.ifCond .ne 4, 3) := by decide +kernel
theorem dX6_visit_40 : decode cX6_visit 40 = .ok (.return_, 1) := by decide +kernel
theorem dX6_visit_41 : decode cX6_visit 41 = .ok (.aload_n 0, 1) := by decide +kernel
theorem dX6_visit_42 : decode cX6_visit 42 = .ok (.getfield 12, 3) := by decide +kernel
theorem dX6_visit_45 : decode cX6_visit 45 = .ok (.invokevirtual 95, 3) := by decide +kernel
theorem dX6_visit_48 : decode cX6_visit 48 = .ok (.ifCond .eq 14, 3) := by decide +kernel
theorem dX6_visit_51 : decode cX6_visit 51 = .ok (.aload_n 0, 1) := by decide +kernel
theorem dX6_visit_52 : decode cX6_visit 52 = .ok (.dup, 1) := by decide +kernel
theorem dX6_visit_53 : decode cX6_visit 53 = .ok (.getfield 45, 3) := by decide +kernel
theorem dX6_visit_56 : decode cX6_visit 56 = .ok (.iconst 1, 1) := by decide +kernel
theorem dX6_visit_57 : decode cX6_visit 57 = .ok (.iadd, 1) := by decide +kernel
theorem dX6_visit_58 : decode cX6_visit 58 = .ok (.putfield 45, 3) := by decide +kernel
theorem dX6_visit_61 : decode cX6_visit 61 = .ok (.return_, 1) := by decide +kernel
theorem dX6_visit_62 : decode cX6_visit 62 = .ok (.aload_n 0, 1) := by decide +kernel
theorem dX6_visit_63 : decode cX6_visit 63 = .ok (.getfield 12, 3) := by decide +kernel
theorem dX6_visit_66 : decode cX6_visit 66 = .ok (.getfield 75, 3) := by decide +kernel
theorem dX6_visit_69 : decode cX6_visit 69 = .ok (.iconst 0, 1) := by decide +kernel
theorem dX6_visit_70 : decode cX6_visit 70 = .ok (.aload_n 0, 1) := by decide +kernel
theorem dX6_visit_71 : decode cX6_visit 71 = .ok (.getfield 25, 3) := by decide +kernel
theorem dX6_visit_74 : decode cX6_visit 74 = .ok (.aload_n 0, 1) := by decide +kernel
theorem dX6_visit_75 : decode cX6_visit 75 = .ok (.getfield 35, 3) := by decide +kernel
theorem dX6_visit_78 : decode cX6_visit 78 = .ok (.bipush 64, 2) := by decide +kernel
theorem dX6_visit_80 : decode cX6_visit 80 = .ok (.imul, 1) := by decide +kernel
theorem dX6_visit_81 : decode cX6_visit 81 = .ok (.bipush 64, 2) := by decide +kernel
theorem dX6_visit_83 : decode cX6_visit 83 = .ok (.invokestatic 78, 3) := by decide +kernel
theorem dX6_visit_86 : decode cX6_visit 86 = .ok (.aload_n 0, 1) := by decide +kernel
theorem dX6_visit_87 : decode cX6_visit 87 = .ok (.getfield 29, 3) := by decide +kernel
theorem dX6_visit_90 : decode cX6_visit 90 = .ok (.aload_n 0, 1) := by decide +kernel
theorem dX6_visit_91 : decode cX6_visit 91 = .ok (.getfield 35, 3) := by decide +kernel
theorem dX6_visit_94 : decode cX6_visit 94 = .ok (.aload_n 0, 1) := by decide +kernel
theorem dX6_visit_95 : decode cX6_visit 95 = .ok (.invokevirtual 98, 3) := by decide +kernel
theorem dX6_visit_98 : decode cX6_visit 98 = .ok (.iastore, 1) := by decide +kernel
theorem dX6_visit_99 : decode cX6_visit 99 = .ok (.aload_n 0, 1) := by decide +kernel
theorem dX6_visit_100 : decode cX6_visit 100 = .ok (.getfield 32, 3) := by decide +kernel
theorem dX6_visit_103 : decode cX6_visit 103 = .ok (.aload_n 0, 1) := by decide +kernel
theorem dX6_visit_104 : decode cX6_visit 104 = .ok (.getfield 35, 3) := by decide +kernel
theorem dX6_visit_107 : decode cX6_visit 107 = .ok (.iconst 0, 1) := by decide +kernel
theorem dX6_visit_108 : decode cX6_visit 108 = .ok (.iastore, 1) := by decide +kernel
theorem dX6_visit_109 : decode cX6_visit 109 = .ok (.aload_n 0, 1) := by decide +kernel
theorem dX6_visit_110 : decode cX6_visit 110 = .ok (.dup, 1) := by decide +kernel
theorem dX6_visit_111 : decode cX6_visit 111 = .ok (.getfield 35, 3) := by decide +kernel
theorem dX6_visit_114 : decode cX6_visit 114 = .ok (.iconst 1, 1) := by decide +kernel
theorem dX6_visit_115 : decode cX6_visit 115 = .ok (.iadd, 1) := by decide +kernel
theorem dX6_visit_116 : decode cX6_visit 116 = .ok (.putfield 35, 3) := by decide +kernel
theorem dX6_visit_119 : decode cX6_visit 119 = .ok (.return_, 1) := by decide +kernel
theorem dX6_selectCell_0 : decode cX6_selectCell 0 = .ok (.iconst 0, 1) := by decide +kernel
theorem dX6_selectCell_1 : decode cX6_selectCell 1 = .ok (.istore_n 1, 1) := by decide +kernel
theorem dX6_selectCell_2 : decode cX6_selectCell 2 = .ok (.iconst (-1), 1) := by decide +kernel
theorem dX6_selectCell_3 : decode cX6_selectCell 3 = .ok (.istore_n 2, 1) := by decide +kernel
theorem dX6_selectCell_4 : decode cX6_selectCell 4 = .ok (.iconst 0, 1) := by decide +kernel
theorem dX6_selectCell_5 : decode cX6_selectCell 5 = .ok (.istore_n 3, 1) := by decide +kernel
theorem dX6_selectCell_6 : decode cX6_selectCell 6 = .ok (.iload_n 3, 1) := by decide +kernel
theorem dX6_selectCell_7 : decode cX6_selectCell 7 = .ok (.aload_n 0, 1) := by decide +kernel
theorem dX6_selectCell_8 : decode cX6_selectCell 8 = .ok (.getfield 12, 3) := by decide +kernel
theorem dX6_selectCell_11 : decode cX6_selectCell 11 = .ok (.invokevirtual 101, 3) := by decide +kernel
theorem dX6_selectCell_14 : decode cX6_selectCell 14 = .ok (.if_icmp .ge 37, 3) := by decide +kernel
theorem dX6_selectCell_17 : decode cX6_selectCell 17 = .ok (.aload_n 0, 1) := by decide +kernel
theorem dX6_selectCell_18 : decode cX6_selectCell 18 = .ok (.getfield 12, 3) := by decide +kernel
theorem dX6_selectCell_21 : decode cX6_selectCell 21 = .ok (.iload_n 3, 1) := by decide +kernel
theorem dX6_selectCell_22 : decode cX6_selectCell 22 = .ok (.invokevirtual 104, 3) := by decide +kernel
theorem dX6_selectCell_25 : decode cX6_selectCell 25 = .ok (.ifCond .ne 20, 3) := by decide +kernel
theorem dX6_selectCell_28 : decode cX6_selectCell 28 = .ok (.aload_n 0, 1) := by decide +kernel
theorem dX6_selectCell_29 : decode cX6_selectCell 29 = .ok (.iload_n 3, 1) := by decide +kernel
theorem dX6_selectCell_30 : decode cX6_selectCell 30 = .ok (.invokevirtual 108, 3) := by decide +kernel
theorem dX6_selectCell_33 : decode cX6_selectCell 33 = .ok (.iload_n 2, 1) := by decide +kernel
theorem dX6_selectCell_34 : decode cX6_selectCell 34 = .ok (.if_icmp .le 11, 3) := by decide +kernel
theorem dX6_selectCell_37 : decode cX6_selectCell 37 = .ok (.iload_n 3, 1) := by decide +kernel
theorem dX6_selectCell_38 : decode cX6_selectCell 38 = .ok (.istore_n 1, 1) := by decide +kernel
theorem dX6_selectCell_39 : decode cX6_selectCell 39 = .ok (.aload_n 0, 1) := by decide +kernel
theorem dX6_selectCell_40 : decode cX6_selectCell 40 = .ok (.iload_n 3, 1) := by decide +kernel
theorem dX6_selectCell_41 : decode cX6_selectCell 41 = .ok (.invokevirtual 108, 3) := by decide +kernel
theorem dX6_selectCell_44 : decode cX6_selectCell 44 = .ok (.istore_n 2, 1) := by decide +kernel
theorem dX6_selectCell_45 : decode cX6_selectCell 45 = .ok (.iinc 3 1, 3) := by decide +kernel
theorem dX6_selectCell_48 : decode cX6_selectCell 48 = .ok (.goto (-42), 3) := by decide +kernel
theorem dX6_selectCell_51 : decode cX6_selectCell 51 = .ok (.iload_n 1, 1) := by decide +kernel
theorem dX6_selectCell_52 : decode cX6_selectCell 52 = .ok (.ireturn, 1) := by decide +kernel
theorem dX6_score_0 : decode cX6_score 0 = .ok (.aload_n 0, 1) := by decide +kernel
theorem dX6_score_1 : decode cX6_score 1 = .ok (.getfield 39, 3) := by decide +kernel
theorem dX6_score_4 : decode cX6_score 4 = .ok (.lookupswitch 75 #[(1, 28), (2, 43)], 28) := by decide +kernel
theorem dX6_score_32 : decode cX6_score 32 = .ok (.iconst 4, 1) := by decide +kernel
theorem dX6_score_33 : decode cX6_score 33 = .ok (.aload_n 0, 1) := by decide +kernel
theorem dX6_score_34 : decode cX6_score 34 = .ok (.getfield 12, 3) := by decide +kernel
theorem dX6_score_37 : decode cX6_score 37 = .ok (.getfield 75, 3) := by decide +kernel
theorem dX6_score_40 : decode cX6_score 40 = .ok (.iload_n 1, 1) := by decide +kernel
theorem dX6_score_41 : decode cX6_score 41 = .ok (.iaload, 1) := by decide +kernel
theorem dX6_score_42 : decode cX6_score 42 = .ok (.invokestatic 111, 3) := by decide +kernel
theorem dX6_score_45 : decode cX6_score 45 = .ok (.isub, 1) := by decide +kernel
theorem dX6_score_46 : decode cX6_score 46 = .ok (.ireturn, 1) := by decide +kernel
theorem dX6_score_47 : decode cX6_score 47 = .ok (.aload_n 0, 1) := by decide +kernel
theorem dX6_score_48 : decode cX6_score 48 = .ok (.getfield 12, 3) := by decide +kernel
theorem dX6_score_51 : decode cX6_score 51 = .ok (.aload_n 0, 1) := by decide +kernel
theorem dX6_score_52 : decode cX6_score 52 = .ok (.getfield 12, 3) := by decide +kernel
theorem dX6_score_55 : decode cX6_score 55 = .ok (.iload_n 1, 1) := by decide +kernel
theorem dX6_score_56 : decode cX6_score 56 = .ok (.invokevirtual 116, 3) := by decide +kernel
theorem dX6_score_59 : decode cX6_score 59 = .ok (.invokevirtual 119, 3) := by decide +kernel
theorem dX6_score_62 : decode cX6_score 62 = .ok (.aload_n 0, 1) := by decide +kernel
theorem dX6_score_63 : decode cX6_score 63 = .ok (.getfield 12, 3) := by decide +kernel
theorem dX6_score_66 : decode cX6_score 66 = .ok (.aload_n 0, 1) := by decide +kernel
theorem dX6_score_67 : decode cX6_score 67 = .ok (.getfield 12, 3) := by decide +kernel
theorem dX6_score_70 : decode cX6_score 70 = .ok (.iload_n 1, 1) := by decide +kernel
theorem dX6_score_71 : decode cX6_score 71 = .ok (.invokevirtual 122, 3) := by decide +kernel
theorem dX6_score_74 : decode cX6_score 74 = .ok (.invokevirtual 119, 3) := by decide +kernel
theorem dX6_score_77 : decode cX6_score 77 = .ok (.iadd, 1) := by decide +kernel
theorem dX6_score_78 : decode cX6_score 78 = .ok (.ireturn, 1) := by decide +kernel
theorem dX6_score_79 : decode cX6_score 79 = .ok (.iconst 0, 1) := by decide +kernel
theorem dX6_score_80 : decode cX6_score 80 = .ok (.ireturn, 1) := by decide +kernel
theorem dX7_init_0 : decode cX7_init 0 = .ok (.aload_n 0, 1) := by decide +kernel
theorem dX7_init_1 : decode cX7_init 1 = .ok (.invokespecial 3, 3) := by decide +kernel
theorem dX7_init_4 : decode cX7_init 4 = .ok (.aload_n 0, 1) := by decide +kernel
theorem dX7_init_5 : decode cX7_init 5 = .ok (.bipush 64, 2) := by decide +kernel
theorem dX7_init_7 : decode cX7_init 7 = .ok (.newarray .int, 2) := by decide +kernel
theorem dX7_init_9 : decode cX7_init 9 = .ok (.putfield 9, 3) := by decide +kernel
theorem dX7_init_12 : decode cX7_init 12 = .ok (.aload_n 0, 1) := by decide +kernel
theorem dX7_init_13 : decode cX7_init 13 = .ok (.iconst (-1), 1) := by decide +kernel
theorem dX7_init_14 : decode cX7_init 14 = .ok (.putfield 15, 3) := by decide +kernel
theorem dX7_init_17 : decode cX7_init 17 = .ok (.aload_n 0, 1) := by decide +kernel
theorem dX7_init_18 : decode cX7_init 18 = .ok (.iconst 0, 1) := by decide +kernel
theorem dX7_init_19 : decode cX7_init 19 = .ok (.putfield 19, 3) := by decide +kernel
theorem dX7_init_22 : decode cX7_init 22 = .ok (.return_, 1) := by decide +kernel
theorem dX7_start_0 : decode cX7_start 0 = .ok (.aload_n 0, 1) := by decide +kernel
theorem dX7_start_1 : decode cX7_start 1 = .ok (.iload_n 1, 1) := by decide +kernel
theorem dX7_start_2 : decode cX7_start 2 = .ok (.putfield 15, 3) := by decide +kernel
theorem dX7_start_5 : decode cX7_start 5 = .ok (.aload_n 0, 1) := by decide +kernel
theorem dX7_start_6 : decode cX7_start 6 = .ok (.iload_n 2, 1) := by decide +kernel
theorem dX7_start_7 : decode cX7_start 7 = .ok (.putfield 19, 3) := by decide +kernel
theorem dX7_start_10 : decode cX7_start 10 = .ok (.aload_n 0, 1) := by decide +kernel
theorem dX7_start_11 : decode cX7_start 11 = .ok (.getfield 9, 3) := by decide +kernel
theorem dX7_start_14 : decode cX7_start 14 = .ok (.iconst 0, 1) := by decide +kernel
theorem dX7_start_15 : decode cX7_start 15 = .ok (.invokestatic 22, 3) := by decide +kernel
theorem dX7_start_18 : decode cX7_start 18 = .ok (.return_, 1) := by decide +kernel
theorem dX7_store_0 : decode cX7_store 0 = .ok (.aload_n 0, 1) := by decide +kernel
theorem dX7_store_1 : decode cX7_store 1 = .ok (.getfield 15, 3) := by decide +kernel
theorem dX7_store_4 : decode cX7_store 4 = .ok (.ifCond .ne 14, 3) := by decide +kernel
theorem dX7_store_7 : decode cX7_store 7 = .ok (.aload_n 0, 1) := by decide +kernel
theorem dX7_store_8 : decode cX7_store 8 = .ok (.getfield 9, 3) := by decide +kernel
theorem dX7_store_11 : decode cX7_store 11 = .ok (.iload_n 1, 1) := by decide +kernel
theorem dX7_store_12 : decode cX7_store 12 = .ok (.iload_n 2, 1) := by decide +kernel
theorem dX7_store_13 : decode cX7_store 13 = .ok (.i2b, 1) := by decide +kernel
theorem dX7_store_14 : decode cX7_store 14 = .ok (.iastore, 1) := by decide +kernel
theorem dX7_store_15 : decode cX7_store 15 = .ok (.goto 36, 3) := by decide +kernel
theorem dX7_store_18 : decode cX7_store 18 = .ok (.aload_n 0, 1) := by decide +kernel
theorem dX7_store_19 : decode cX7_store 19 = .ok (.getfield 15, 3) := by decide +kernel
theorem dX7_store_22 : decode cX7_store 22 = .ok (.iconst 2, 1) := by decide +kernel
theorem dX7_store_23 : decode cX7_store 23 = .ok (.if_icmp .ne 21, 3) := by decide +kernel
theorem dX7_store_26 : decode cX7_store 26 = .ok (.aload_n 0, 1) := by decide +kernel
theorem dX7_store_27 : decode cX7_store 27 = .ok (.getfield 9, 3) := by decide +kernel
theorem dX7_store_30 : decode cX7_store 30 = .ok (.iload_n 1, 1) := by decide +kernel
theorem dX7_store_31 : decode cX7_store 31 = .ok (.iload_n 2, 1) := by decide +kernel
theorem dX7_store_32 : decode cX7_store 32 = .ok (.ifCond .eq 7, 3) := by decide +kernel
theorem dX7_store_35 : decode cX7_store 35 = .ok (.iconst 1, 1) := by decide +kernel
theorem dX7_store_36 : decode cX7_store 36 = .ok (.goto 4, 3) := by decide +kernel
theorem dX7_store_39 : decode cX7_store 39 = .ok (.iconst 0, 1) := by decide +kernel
theorem dX7_store_40 : decode cX7_store 40 = .ok (.iastore, 1) := by decide +kernel
theorem dX7_store_41 : decode cX7_store 41 = .ok (.goto 10, 3) := by decide +kernel
theorem dX7_store_44 : decode cX7_store 44 = .ok (.aload_n 0, 1) := by decide +kernel
theorem dX7_store_45 : decode cX7_store 45 = .ok (.getfield 9, 3) := by decide +kernel
theorem dX7_store_48 : decode cX7_store 48 = .ok (.iload_n 1, 1) := by decide +kernel
theorem dX7_store_49 : decode cX7_store 49 = .ok (.iload_n 2, 1) := by decide +kernel
theorem dX7_store_50 : decode cX7_store 50 = .ok (.iastore, 1) := by decide +kernel
theorem dX7_store_51 : decode cX7_store 51 = .ok (.return_, 1) := by decide +kernel
theorem dX8_init_0 : decode cX8_init 0 = .ok (.aload_n 0, 1) := by decide +kernel
theorem dX8_init_1 : decode cX8_init 1 = .ok (.invokespecial 1, 3) := by decide +kernel
theorem dX8_init_4 : decode cX8_init 4 = .ok (.aload_n 0, 1) := by decide +kernel
theorem dX8_init_5 : decode cX8_init 5 = .ok (.iconst 0, 1) := by decide +kernel
theorem dX8_init_6 : decode cX8_init 6 = .ok (.putfield 7, 3) := by decide +kernel
theorem dX8_init_9 : decode cX8_init 9 = .ok (.aload_n 0, 1) := by decide +kernel
theorem dX8_init_10 : decode cX8_init 10 = .ok (.iload_n 1, 1) := by decide +kernel
theorem dX8_init_11 : decode cX8_init 11 = .ok (.iconst 0, 1) := by decide +kernel
theorem dX8_init_12 : decode cX8_init 12 = .ok (.invokestatic 13, 3) := by decide +kernel
theorem dX8_init_15 : decode cX8_init 15 = .ok (.newarray .int, 2) := by decide +kernel
theorem dX8_init_17 : decode cX8_init 17 = .ok (.putfield 19, 3) := by decide +kernel
theorem dX8_init_20 : decode cX8_init 20 = .ok (.return_, 1) := by decide +kernel
theorem dX8_append_0 : decode cX8_append 0 = .ok (.aload_n 0, 1) := by decide +kernel
theorem dX8_append_1 : decode cX8_append 1 = .ok (.getfield 7, 3) := by decide +kernel
theorem dX8_append_4 : decode cX8_append 4 = .ok (.aload_n 0, 1) := by decide +kernel
theorem dX8_append_5 : decode cX8_append 5 = .ok (.getfield 19, 3) := by decide +kernel
theorem dX8_append_8 : decode cX8_append 8 = .ok (.arraylength, 1) := by decide +kernel
theorem dX8_append_9 : decode cX8_append 9 = .ok (.if_icmp .lt 5, 3) := by decide +kernel
theorem dX8_append_12 : decode cX8_append 12 = .ok (.iconst 0, 1) := by decide +kernel
theorem dX8_append_13 : decode cX8_append 13 = .ok (.ireturn, 1) := by decide +kernel
theorem dX8_append_14 : decode cX8_append 14 = .ok (.aload_n 0, 1) := by decide +kernel
theorem dX8_append_15 : decode cX8_append 15 = .ok (.getfield 19, 3) := by decide +kernel
theorem dX8_append_18 : decode cX8_append 18 = .ok (.aload_n 0, 1) := by decide +kernel
theorem dX8_append_19 : decode cX8_append 19 = .ok (.getfield 7, 3) := by decide +kernel
theorem dX8_append_22 : decode cX8_append 22 = .ok (.iload_n 1, 1) := by decide +kernel
theorem dX8_append_23 : decode cX8_append 23 = .ok (.iastore, 1) := by decide +kernel
theorem dX8_append_24 : decode cX8_append 24 = .ok (.aload_n 0, 1) := by decide +kernel
theorem dX8_append_25 : decode cX8_append 25 = .ok (.dup, 1) := by decide +kernel
theorem dX8_append_26 : decode cX8_append 26 = .ok (.getfield 7, 3) := by decide +kernel
theorem dX8_append_29 : decode cX8_append 29 = .ok (.iconst 1, 1) := by decide +kernel
theorem dX8_append_30 : decode cX8_append 30 = .ok (.iadd, 1) := by decide +kernel
theorem dX8_append_31 : decode cX8_append 31 = .ok (.putfield 7, 3) := by decide +kernel
theorem dX8_append_34 : decode cX8_append 34 = .ok (.iconst 1, 1) := by decide +kernel
theorem dX8_append_35 : decode cX8_append 35 = .ok (.ireturn, 1) := by decide +kernel
theorem dX8_clear_0 : decode cX8_clear 0 = .ok (.aload_n 0, 1) := by decide +kernel
theorem dX8_clear_1 : decode cX8_clear 1 = .ok (.iconst 0, 1) := by decide +kernel
theorem dX8_clear_2 : decode cX8_clear 2 = .ok (.putfield 7, 3) := by decide +kernel
theorem dX8_clear_5 : decode cX8_clear 5 = .ok (.return_, 1) := by decide +kernel
theorem dJ6_bitCount_0f7a4_0 : decode cJ6_bitCount_0f7a4 0 = .ok (.iload_n 0, 1) := by decide +kernel
theorem dJ6_bitCount_0f7a4_1 : decode cJ6_bitCount_0f7a4 1 = .ok (.iload_n 0, 1) := by decide +kernel
theorem dJ6_bitCount_0f7a4_2 : decode cJ6_bitCount_0f7a4 2 = .ok (.iconst 1, 1) := by decide +kernel
theorem dJ6_bitCount_0f7a4_3 : decode cJ6_bitCount_0f7a4 3 = .ok (.iushr, 1) := by decide +kernel
theorem dJ6_bitCount_0f7a4_4 : decode cJ6_bitCount_0f7a4 4 = .ok (.ldc_w 265, 3) := by decide +kernel
theorem dJ6_bitCount_0f7a4_7 : decode cJ6_bitCount_0f7a4 7 = .ok (.iand, 1) := by decide +kernel
theorem dJ6_bitCount_0f7a4_8 : decode cJ6_bitCount_0f7a4 8 = .ok (.isub, 1) := by decide +kernel
theorem dJ6_bitCount_0f7a4_9 : decode cJ6_bitCount_0f7a4 9 = .ok (.istore_n 0, 1) := by decide +kernel
theorem dJ6_bitCount_0f7a4_10 : decode cJ6_bitCount_0f7a4 10 = .ok (.iload_n 0, 1) := by decide +kernel
theorem dJ6_bitCount_0f7a4_11 : decode cJ6_bitCount_0f7a4 11 = .ok (.ldc_w 266, 3) := by decide +kernel
theorem dJ6_bitCount_0f7a4_14 : decode cJ6_bitCount_0f7a4 14 = .ok (.iand, 1) := by decide +kernel
theorem dJ6_bitCount_0f7a4_15 : decode cJ6_bitCount_0f7a4 15 = .ok (.iload_n 0, 1) := by decide +kernel
theorem dJ6_bitCount_0f7a4_16 : decode cJ6_bitCount_0f7a4 16 = .ok (.iconst 2, 1) := by decide +kernel
theorem dJ6_bitCount_0f7a4_17 : decode cJ6_bitCount_0f7a4 17 = .ok (.iushr, 1) := by decide +kernel
theorem dJ6_bitCount_0f7a4_18 : decode cJ6_bitCount_0f7a4 18 = .ok (.ldc_w 266, 3) := by decide +kernel
theorem dJ6_bitCount_0f7a4_21 : decode cJ6_bitCount_0f7a4 21 = .ok (.iand, 1) := by decide +kernel
theorem dJ6_bitCount_0f7a4_22 : decode cJ6_bitCount_0f7a4 22 = .ok (.iadd, 1) := by decide +kernel
theorem dJ6_bitCount_0f7a4_23 : decode cJ6_bitCount_0f7a4 23 = .ok (.istore_n 0, 1) := by decide +kernel
theorem dJ6_bitCount_0f7a4_24 : decode cJ6_bitCount_0f7a4 24 = .ok (.iload_n 0, 1) := by decide +kernel
theorem dJ6_bitCount_0f7a4_25 : decode cJ6_bitCount_0f7a4 25 = .ok (.iload_n 0, 1) := by decide +kernel
theorem dJ6_bitCount_0f7a4_26 : decode cJ6_bitCount_0f7a4 26 = .ok (.iconst 4, 1) := by decide +kernel
theorem dJ6_bitCount_0f7a4_27 : decode cJ6_bitCount_0f7a4 27 = .ok (.iushr, 1) := by decide +kernel
theorem dJ6_bitCount_0f7a4_28 : decode cJ6_bitCount_0f7a4 28 = .ok (.iadd, 1) := by decide +kernel
theorem dJ6_bitCount_0f7a4_29 : decode cJ6_bitCount_0f7a4 29 = .ok (.ldc_w 267, 3) := by decide +kernel
theorem dJ6_bitCount_0f7a4_32 : decode cJ6_bitCount_0f7a4 32 = .ok (.iand, 1) := by decide +kernel
theorem dJ6_bitCount_0f7a4_33 : decode cJ6_bitCount_0f7a4 33 = .ok (.istore_n 0, 1) := by decide +kernel
theorem dJ6_bitCount_0f7a4_34 : decode cJ6_bitCount_0f7a4 34 = .ok (.iload_n 0, 1) := by decide +kernel
theorem dJ6_bitCount_0f7a4_35 : decode cJ6_bitCount_0f7a4 35 = .ok (.iload_n 0, 1) := by decide +kernel
theorem dJ6_bitCount_0f7a4_36 : decode cJ6_bitCount_0f7a4 36 = .ok (.bipush 8, 2) := by decide +kernel
theorem dJ6_bitCount_0f7a4_38 : decode cJ6_bitCount_0f7a4 38 = .ok (.iushr, 1) := by decide +kernel
theorem dJ6_bitCount_0f7a4_39 : decode cJ6_bitCount_0f7a4 39 = .ok (.iadd, 1) := by decide +kernel
theorem dJ6_bitCount_0f7a4_40 : decode cJ6_bitCount_0f7a4 40 = .ok (.istore_n 0, 1) := by decide +kernel
theorem dJ6_bitCount_0f7a4_41 : decode cJ6_bitCount_0f7a4 41 = .ok (.iload_n 0, 1) := by decide +kernel
theorem dJ6_bitCount_0f7a4_42 : decode cJ6_bitCount_0f7a4 42 = .ok (.iload_n 0, 1) := by decide +kernel
theorem dJ6_bitCount_0f7a4_43 : decode cJ6_bitCount_0f7a4 43 = .ok (.bipush 16, 2) := by decide +kernel
theorem dJ6_bitCount_0f7a4_45 : decode cJ6_bitCount_0f7a4 45 = .ok (.iushr, 1) := by decide +kernel
theorem dJ6_bitCount_0f7a4_46 : decode cJ6_bitCount_0f7a4 46 = .ok (.iadd, 1) := by decide +kernel
theorem dJ6_bitCount_0f7a4_47 : decode cJ6_bitCount_0f7a4 47 = .ok (.istore_n 0, 1) := by decide +kernel
theorem dJ6_bitCount_0f7a4_48 : decode cJ6_bitCount_0f7a4 48 = .ok (.iload_n 0, 1) := by decide +kernel
theorem dJ6_bitCount_0f7a4_49 : decode cJ6_bitCount_0f7a4 49 = .ok (.bipush 63, 2) := by decide +kernel
theorem dJ6_bitCount_0f7a4_51 : decode cJ6_bitCount_0f7a4 51 = .ok (.iand, 1) := by decide +kernel
theorem dJ6_bitCount_0f7a4_52 : decode cJ6_bitCount_0f7a4 52 = .ok (.ireturn, 1) := by decide +kernel
theorem dJ7_fill_53178_0 : decode cJ7_fill_53178 0 = .ok (.iconst 0, 1) := by decide +kernel
theorem dJ7_fill_53178_1 : decode cJ7_fill_53178 1 = .ok (.istore_n 2, 1) := by decide +kernel
theorem dJ7_fill_53178_2 : decode cJ7_fill_53178 2 = .ok (.aload_n 0, 1) := by decide +kernel
theorem dJ7_fill_53178_3 : decode cJ7_fill_53178 3 = .ok (.arraylength, 1) := by decide +kernel
theorem dJ7_fill_53178_4 : decode cJ7_fill_53178 4 = .ok (.istore_n 3, 1) := by decide +kernel
theorem dJ7_fill_53178_5 : decode cJ7_fill_53178 5 = .ok (.iload_n 2, 1) := by decide +kernel
theorem dJ7_fill_53178_6 : decode cJ7_fill_53178 6 = .ok (.iload_n 3, 1) := by decide +kernel
theorem dJ7_fill_53178_7 : decode cJ7_fill_53178 7 = .ok (.if_icmp .ge 13, 3) := by decide +kernel
theorem dJ7_fill_53178_10 : decode cJ7_fill_53178 10 = .ok (.aload_n 0, 1) := by decide +kernel
theorem dJ7_fill_53178_11 : decode cJ7_fill_53178 11 = .ok (.iload_n 2, 1) := by decide +kernel
theorem dJ7_fill_53178_12 : decode cJ7_fill_53178 12 = .ok (.iload_n 1, 1) := by decide +kernel
theorem dJ7_fill_53178_13 : decode cJ7_fill_53178 13 = .ok (.iastore, 1) := by decide +kernel
theorem dJ7_fill_53178_14 : decode cJ7_fill_53178 14 = .ok (.iinc 2 1, 3) := by decide +kernel
theorem dJ7_fill_53178_17 : decode cJ7_fill_53178 17 = .ok (.goto (-12), 3) := by decide +kernel
theorem dJ7_fill_53178_20 : decode cJ7_fill_53178 20 = .ok (.return_, 1) := by decide +kernel
theorem dJ9_max_7cf53_0 : decode cJ9_max_7cf53 0 = .ok (.iload_n 0, 1) := by decide +kernel
theorem dJ9_max_7cf53_1 : decode cJ9_max_7cf53 1 = .ok (.iload_n 1, 1) := by decide +kernel
theorem dJ9_max_7cf53_2 : decode cJ9_max_7cf53 2 = .ok (.if_icmp .lt 7, 3) := by decide +kernel
theorem dJ9_max_7cf53_5 : decode cJ9_max_7cf53 5 = .ok (.iload_n 0, 1) := by decide +kernel
theorem dJ9_max_7cf53_6 : decode cJ9_max_7cf53 6 = .ok (.goto 4, 3) := by decide +kernel
theorem dJ9_max_7cf53_9 : decode cJ9_max_7cf53 9 = .ok (.iload_n 1, 1) := by decide +kernel
theorem dJ9_max_7cf53_10 : decode cJ9_max_7cf53 10 = .ok (.ireturn, 1) := by decide +kernel
theorem dJ9_min_7cf53_0 : decode cJ9_min_7cf53 0 = .ok (.iload_n 0, 1) := by decide +kernel
theorem dJ9_min_7cf53_1 : decode cJ9_min_7cf53 1 = .ok (.iload_n 1, 1) := by decide +kernel
theorem dJ9_min_7cf53_2 : decode cJ9_min_7cf53 2 = .ok (.if_icmp .gt 7, 3) := by decide +kernel
theorem dJ9_min_7cf53_5 : decode cJ9_min_7cf53 5 = .ok (.iload_n 0, 1) := by decide +kernel
theorem dJ9_min_7cf53_6 : decode cJ9_min_7cf53 6 = .ok (.goto 4, 3) := by decide +kernel
theorem dJ9_min_7cf53_9 : decode cJ9_min_7cf53 9 = .ok (.iload_n 1, 1) := by decide +kernel
theorem dJ9_min_7cf53_10 : decode cJ9_min_7cf53 10 = .ok (.ireturn, 1) := by decide +kernel
end
section
theorem dX9_init_0 : decode cX9_init 0 = .ok (.aload_n 0, 1) := by decide +kernel
theorem dX9_init_1 : decode cX9_init 1 = .ok (.invokespecial 3, 3) := by decide +kernel
theorem dX9_init_4 : decode cX9_init 4 = .ok (.aload_n 0, 1) := by decide +kernel
theorem dX9_init_5 : decode cX9_init 5 = .ok (.new 9, 3) := by decide +kernel
theorem dX9_init_8 : decode cX9_init 8 = .ok (.dup, 1) := by decide +kernel
theorem dX9_init_9 : decode cX9_init 9 = .ok (.invokespecial 11, 3) := by decide +kernel
theorem dX9_init_12 : decode cX9_init 12 = .ok (.putfield 12, 3) := by decide +kernel
theorem dX9_init_15 : decode cX9_init 15 = .ok (.aload_n 0, 1) := by decide +kernel
theorem dX9_init_16 : decode cX9_init 16 = .ok (.new 9, 3) := by decide +kernel
theorem dX9_init_19 : decode cX9_init 19 = .ok (.dup, 1) := by decide +kernel
theorem dX9_init_20 : decode cX9_init 20 = .ok (.invokespecial 11, 3) := by decide +kernel
theorem dX9_init_23 : decode cX9_init 23 = .ok (.putfield 16, 3) := by decide +kernel
theorem dX9_init_26 : decode cX9_init 26 = .ok (.aload_n 0, 1) := by decide +kernel
theorem dX9_init_27 : decode cX9_init 27 = .ok (.new 9, 3) := by decide +kernel
theorem dX9_init_30 : decode cX9_init 30 = .ok (.dup, 1) := by decide +kernel
theorem dX9_init_31 : decode cX9_init 31 = .ok (.invokespecial 11, 3) := by decide +kernel
theorem dX9_init_34 : decode cX9_init 34 = .ok (.putfield 19, 3) := by decide +kernel
theorem dX9_init_37 : decode cX9_init 37 = .ok (.aload_n 0, 1) := by decide +kernel
theorem dX9_init_38 : decode cX9_init 38 = .ok (.iconst 0, 1) := by decide +kernel
theorem dX9_init_39 : decode cX9_init 39 = .ok (.putfield 22, 3) := by decide +kernel
theorem dX9_init_42 : decode cX9_init 42 = .ok (.aload_n 0, 1) := by decide +kernel
theorem dX9_init_43 : decode cX9_init 43 = .ok (.new 26, 3) := by decide +kernel
theorem dX9_init_46 : decode cX9_init 46 = .ok (.dup, 1) := by decide +kernel
theorem dX9_init_47 : decode cX9_init 47 = .ok (.invokespecial 28, 3) := by decide +kernel
theorem dX9_init_50 : decode cX9_init 50 = .ok (.putfield 29, 3) := by decide +kernel
theorem dX9_init_53 : decode cX9_init 53 = .ok (.aload_n 0, 1) := by decide +kernel
theorem dX9_init_54 : decode cX9_init 54 = .ok (.new 33, 3) := by decide +kernel
theorem dX9_init_57 : decode cX9_init 57 = .ok (.dup, 1) := by decide +kernel
theorem dX9_init_58 : decode cX9_init 58 = .ok (.invokespecial 35, 3) := by decide +kernel
theorem dX9_init_61 : decode cX9_init 61 = .ok (.putfield 36, 3) := by decide +kernel
theorem dX9_init_64 : decode cX9_init 64 = .ok (.aload_n 0, 1) := by decide +kernel
theorem dX9_init_65 : decode cX9_init 65 = .ok (.new 40, 3) := by decide +kernel
theorem dX9_init_68 : decode cX9_init 68 = .ok (.dup, 1) := by decide +kernel
theorem dX9_init_69 : decode cX9_init 69 = .ok (.invokespecial 42, 3) := by decide +kernel
theorem dX9_init_72 : decode cX9_init 72 = .ok (.putfield 43, 3) := by decide +kernel
theorem dX9_init_75 : decode cX9_init 75 = .ok (.aload_n 0, 1) := by decide +kernel
theorem dX9_init_76 : decode cX9_init 76 = .ok (.new 47, 3) := by decide +kernel
theorem dX9_init_79 : decode cX9_init 79 = .ok (.dup, 1) := by decide +kernel
theorem dX9_init_80 : decode cX9_init 80 = .ok (.invokespecial 49, 3) := by decide +kernel
theorem dX9_init_83 : decode cX9_init 83 = .ok (.putfield 50, 3) := by decide +kernel
theorem dX9_init_86 : decode cX9_init 86 = .ok (.aload_n 0, 1) := by decide +kernel
theorem dX9_init_87 : decode cX9_init 87 = .ok (.new 54, 3) := by decide +kernel
theorem dX9_init_90 : decode cX9_init 90 = .ok (.dup, 1) := by decide +kernel
theorem dX9_init_91 : decode cX9_init 91 = .ok (.invokespecial 56, 3) := by decide +kernel
theorem dX9_init_94 : decode cX9_init 94 = .ok (.putfield 57, 3) := by decide +kernel
theorem dX9_init_97 : decode cX9_init 97 = .ok (.aload_n 0, 1) := by decide +kernel
theorem dX9_init_98 : decode cX9_init 98 = .ok (.iconst 0, 1) := by decide +kernel
theorem dX9_init_99 : decode cX9_init 99 = .ok (.putfield 61, 3) := by decide +kernel
theorem dX9_init_102 : decode cX9_init 102 = .ok (.aload_n 0, 1) := by decide +kernel
theorem dX9_init_103 : decode cX9_init 103 = .ok (.bipush (-8), 2) := by decide +kernel
theorem dX9_init_105 : decode cX9_init 105 = .ok (.putfield 65, 3) := by decide +kernel
theorem dX9_init_108 : decode cX9_init 108 = .ok (.aload_n 0, 1) := by decide +kernel
theorem dX9_init_109 : decode cX9_init 109 = .ok (.bipush (-8), 2) := by decide +kernel
theorem dX9_init_111 : decode cX9_init 111 = .ok (.putfield 68, 3) := by decide +kernel
theorem dX9_init_114 : decode cX9_init 114 = .ok (.aload_n 0, 1) := by decide +kernel
theorem dX9_init_115 : decode cX9_init 115 = .ok (.new 71, 3) := by decide +kernel
theorem dX9_init_118 : decode cX9_init 118 = .ok (.dup, 1) := by decide +kernel
theorem dX9_init_119 : decode cX9_init 119 = .ok (.bipush 120, 2) := by decide +kernel
theorem dX9_init_121 : decode cX9_init 121 = .ok (.invokespecial 73, 3) := by decide +kernel
theorem dX9_init_124 : decode cX9_init 124 = .ok (.putfield 76, 3) := by decide +kernel
theorem dX9_init_127 : decode cX9_init 127 = .ok (.aload_n 0, 1) := by decide +kernel
theorem dX9_init_128 : decode cX9_init 128 = .ok (.new 71, 3) := by decide +kernel
theorem dX9_init_131 : decode cX9_init 131 = .ok (.dup, 1) := by decide +kernel
theorem dX9_init_132 : decode cX9_init 132 = .ok (.sipush 271, 3) := by decide +kernel
theorem dX9_init_135 : decode cX9_init 135 = .ok (.invokespecial 73, 3) := by decide +kernel
theorem dX9_init_138 : decode cX9_init 138 = .ok (.putfield 80, 3) := by decide +kernel
theorem dX9_init_141 : decode cX9_init 141 = .ok (.aload_n 0, 1) := by decide +kernel
theorem dX9_init_142 : decode cX9_init 142 = .ok (.new 83, 3) := by decide +kernel
theorem dX9_init_145 : decode cX9_init 145 = .ok (.dup, 1) := by decide +kernel
theorem dX9_init_146 : decode cX9_init 146 = .ok (.invokespecial 85, 3) := by decide +kernel
theorem dX9_init_149 : decode cX9_init 149 = .ok (.putfield 86, 3) := by decide +kernel
theorem dX9_init_152 : decode cX9_init 152 = .ok (.aload_n 0, 1) := by decide +kernel
theorem dX9_init_153 : decode cX9_init 153 = .ok (.iconst 3, 1) := by decide +kernel
theorem dX9_init_154 : decode cX9_init 154 = .ok (.anewarray 90, 3) := by decide +kernel
theorem dX9_init_157 : decode cX9_init 157 = .ok (.dup, 1) := by decide +kernel
theorem dX9_init_158 : decode cX9_init 158 = .ok (.iconst 0, 1) := by decide +kernel
theorem dX9_init_159 : decode cX9_init 159 = .ok (.new 90, 3) := by decide +kernel
theorem dX9_init_162 : decode cX9_init 162 = .ok (.dup, 1) := by decide +kernel
theorem dX9_init_163 : decode cX9_init 163 = .ok (.invokespecial 92, 3) := by decide +kernel
theorem dX9_init_166 : decode cX9_init 166 = .ok (.aastore, 1) := by decide +kernel
theorem dX9_init_167 : decode cX9_init 167 = .ok (.dup, 1) := by decide +kernel
theorem dX9_init_168 : decode cX9_init 168 = .ok (.iconst 1, 1) := by decide +kernel
theorem dX9_init_169 : decode cX9_init 169 = .ok (.new 90, 3) := by decide +kernel
theorem dX9_init_172 : decode cX9_init 172 = .ok (.dup, 1) := by decide +kernel
theorem dX9_init_173 : decode cX9_init 173 = .ok (.invokespecial 92, 3) := by decide +kernel
theorem dX9_init_176 : decode cX9_init 176 = .ok (.aastore, 1) := by decide +kernel
theorem dX9_init_177 : decode cX9_init 177 = .ok (.dup, 1) := by decide +kernel
theorem dX9_init_178 : decode cX9_init 178 = .ok (.iconst 2, 1) := by decide +kernel
theorem dX9_init_179 : decode cX9_init 179 = .ok (.new 90, 3) := by decide +kernel
theorem dX9_init_182 : decode cX9_init 182 = .ok (.dup, 1) := by decide +kernel
theorem dX9_init_183 : decode cX9_init 183 = .ok (.invokespecial 92, 3) := by decide +kernel
theorem dX9_init_186 : decode cX9_init 186 = .ok (.aastore, 1) := by decide +kernel
theorem dX9_init_187 : decode cX9_init 187 = .ok (.putfield 93, 3) := by decide +kernel
theorem dX9_init_190 : decode cX9_init 190 = .ok (.aload_n 0, 1) := by decide +kernel
theorem dX9_init_191 : decode cX9_init 191 = .ok (.getfield 12, 3) := by decide +kernel
theorem dX9_init_194 : decode cX9_init 194 = .ok (.iconst 5, 1) := by decide +kernel
theorem dX9_init_195 : decode cX9_init 195 = .ok (.iconst 5, 1) := by decide +kernel
theorem dX9_init_196 : decode cX9_init 196 = .ok (.iconst 1, 1) := by decide +kernel
theorem dX9_init_197 : decode cX9_init 197 = .ok (.invokevirtual 97, 3) := by decide +kernel
theorem dX9_init_200 : decode cX9_init 200 = .ok (.return_, 1) := by decide +kernel
theorem dX9_reset_0 : decode cX9_reset 0 = .ok (.iload_n 1, 1) := by decide +kernel
theorem dX9_reset_1 : decode cX9_reset 1 = .ok (.iconst 1, 1) := by decide +kernel
theorem dX9_reset_2 : decode cX9_reset 2 = .ok (.bipush 8, 2) := by decide +kernel
theorem dX9_reset_4 : decode cX9_reset 4 = .ok (.invokestatic 101, 3) := by decide +kernel
theorem dX9_reset_7 : decode cX9_reset 7 = .ok (.ifCond .eq 22, 3) := by decide +kernel
theorem dX9_reset_10 : decode cX9_reset 10 = .ok (.iload_n 2, 1) := by decide +kernel
theorem dX9_reset_11 : decode cX9_reset 11 = .ok (.iconst 1, 1) := by decide +kernel
theorem dX9_reset_12 : decode cX9_reset 12 = .ok (.bipush 8, 2) := by decide +kernel
theorem dX9_reset_14 : decode cX9_reset 14 = .ok (.invokestatic 101, 3) := by decide +kernel
theorem dX9_reset_17 : decode cX9_reset 17 = .ok (.ifCond .eq 12, 3) := by decide +kernel
theorem dX9_reset_20 : decode cX9_reset 20 = .ok (.iload_n 3, 1) := by decide +kernel
theorem dX9_reset_21 : decode cX9_reset 21 = .ok (.iconst 1, 1) := by decide +kernel
theorem dX9_reset_22 : decode cX9_reset 22 = .ok (.iconst 3, 1) := by decide +kernel
theorem dX9_reset_23 : decode cX9_reset 23 = .ok (.invokestatic 101, 3) := by decide +kernel
theorem dX9_reset_26 : decode cX9_reset 26 = .ok (.ifCond .ne 6, 3) := by decide +kernel
theorem dX9_reset_29 : decode cX9_reset 29 = .ok (.bipush (-2), 2) := by decide +kernel
theorem dX9_reset_31 : decode cX9_reset 31 = .ok (.ireturn, 1) := by decide +kernel
theorem dX9_reset_32 : decode cX9_reset 32 = .ok (.aload_n 0, 1) := by decide +kernel
theorem dX9_reset_33 : decode cX9_reset 33 = .ok (.getfield 12, 3) := by decide +kernel
theorem dX9_reset_36 : decode cX9_reset 36 = .ok (.iload_n 1, 1) := by decide +kernel
theorem dX9_reset_37 : decode cX9_reset 37 = .ok (.iload_n 2, 1) := by decide +kernel
theorem dX9_reset_38 : decode cX9_reset 38 = .ok (.iload_n 3, 1) := by decide +kernel
theorem dX9_reset_39 : decode cX9_reset 39 = .ok (.invokevirtual 97, 3) := by decide +kernel
theorem dX9_reset_42 : decode cX9_reset 42 = .ok (.aload_n 0, 1) := by decide +kernel
theorem dX9_reset_43 : decode cX9_reset 43 = .ok (.getfield 29, 3) := by decide +kernel
theorem dX9_reset_46 : decode cX9_reset 46 = .ok (.invokevirtual 105, 3) := by decide +kernel
theorem dX9_reset_49 : decode cX9_reset 49 = .ok (.aload_n 0, 1) := by decide +kernel
theorem dX9_reset_50 : decode cX9_reset 50 = .ok (.invokevirtual 108, 3) := by decide +kernel
theorem dX9_reset_53 : decode cX9_reset 53 = .ok (.aload_n 0, 1) := by decide +kernel
theorem dX9_reset_54 : decode cX9_reset 54 = .ok (.getfield 12, 3) := by decide +kernel
theorem dX9_reset_57 : decode cX9_reset 57 = .ok (.invokevirtual 111, 3) := by decide +kernel
theorem dX9_reset_60 : decode cX9_reset 60 = .ok (.ireturn, 1) := by decide +kernel
theorem dX9_rowCount_0 : decode cX9_rowCount 0 = .ok (.aload_n 0, 1) := by decide +kernel
theorem dX9_rowCount_1 : decode cX9_rowCount 1 = .ok (.getfield 12, 3) := by decide +kernel
theorem dX9_rowCount_4 : decode cX9_rowCount 4 = .ok (.getfield 115, 3) := by decide +kernel
theorem dX9_rowCount_7 : decode cX9_rowCount 7 = .ok (.ireturn, 1) := by decide +kernel
theorem dX9_columnCount_0 : decode cX9_columnCount 0 = .ok (.aload_n 0, 1) := by decide +kernel
theorem dX9_columnCount_1 : decode cX9_columnCount 1 = .ok (.getfield 12, 3) := by decide +kernel
theorem dX9_columnCount_4 : decode cX9_columnCount 4 = .ok (.getfield 118, 3) := by decide +kernel
theorem dX9_columnCount_7 : decode cX9_columnCount 7 = .ok (.ireturn, 1) := by decide +kernel
theorem dX9_colorCount_0 : decode cX9_colorCount 0 = .ok (.aload_n 0, 1) := by decide +kernel
theorem dX9_colorCount_1 : decode cX9_colorCount 1 = .ok (.getfield 12, 3) := by decide +kernel
theorem dX9_colorCount_4 : decode cX9_colorCount 4 = .ok (.getfield 121, 3) := by decide +kernel
theorem dX9_colorCount_7 : decode cX9_colorCount 7 = .ok (.ireturn, 1) := by decide +kernel
theorem dX9_addRun_0 : decode cX9_addRun 0 = .ok (.aload_n 0, 1) := by decide +kernel
theorem dX9_addRun_1 : decode cX9_addRun 1 = .ok (.getfield 12, 3) := by decide +kernel
theorem dX9_addRun_4 : decode cX9_addRun 4 = .ok (.iload_n 1, 1) := by decide +kernel
theorem dX9_addRun_5 : decode cX9_addRun 5 = .ok (.invokevirtual 124, 3) := by decide +kernel
theorem dX9_addRun_8 : decode cX9_addRun 8 = .ok (.ifCond .ne 5, 3) := by decide +kernel
theorem dX9_addRun_11 : decode cX9_addRun 11 = .ok (.iconst (-1), 1) := by decide +kernel
theorem dX9_addRun_12 : decode cX9_addRun 12 = .ok (.ireturn, 1) := by decide +kernel
theorem dX9_addRun_13 : decode cX9_addRun 13 = .ok (.iload_n 2, 1) := by decide +kernel
theorem dX9_addRun_14 : decode cX9_addRun 14 = .ok (.iconst 1, 1) := by decide +kernel
theorem dX9_addRun_15 : decode cX9_addRun 15 = .ok (.bipush 8, 2) := by decide +kernel
theorem dX9_addRun_17 : decode cX9_addRun 17 = .ok (.invokestatic 101, 3) := by decide +kernel
theorem dX9_addRun_20 : decode cX9_addRun 20 = .ok (.ifCond .eq 18, 3) := by decide +kernel
theorem dX9_addRun_23 : decode cX9_addRun 23 = .ok (.iload_n 3, 1) := by decide +kernel
theorem dX9_addRun_24 : decode cX9_addRun 24 = .ok (.iconst 1, 1) := by decide +kernel
theorem dX9_addRun_25 : decode cX9_addRun 25 = .ok (.aload_n 0, 1) := by decide +kernel
theorem dX9_addRun_26 : decode cX9_addRun 26 = .ok (.getfield 12, 3) := by decide +kernel
theorem dX9_addRun_29 : decode cX9_addRun 29 = .ok (.getfield 121, 3) := by decide +kernel
theorem dX9_addRun_32 : decode cX9_addRun 32 = .ok (.invokestatic 101, 3) := by decide +kernel
theorem dX9_addRun_35 : decode cX9_addRun 35 = .ok (.ifCond .ne 6, 3) := by decide +kernel
theorem dX9_addRun_38 : decode cX9_addRun 38 = .ok (.bipush (-2), 2) := by decide +kernel
theorem dX9_addRun_40 : decode cX9_addRun 40 = .ok (.ireturn, 1) := by decide +kernel
theorem dX9_addRun_41 : decode cX9_addRun 41 = .ok (.aload_n 0, 1) := by decide +kernel
theorem dX9_addRun_42 : decode cX9_addRun 42 = .ok (.getfield 12, 3) := by decide +kernel
theorem dX9_addRun_45 : decode cX9_addRun 45 = .ok (.getfield 128, 3) := by decide +kernel
theorem dX9_addRun_48 : decode cX9_addRun 48 = .ok (.iload_n 1, 1) := by decide +kernel
theorem dX9_addRun_49 : decode cX9_addRun 49 = .ok (.invokevirtual 131, 3) := by decide +kernel
theorem dX9_addRun_52 : decode cX9_addRun 52 = .ok (.ifCond .eq 6, 3) := by decide +kernel
theorem dX9_addRun_55 : decode cX9_addRun 55 = .ok (.bipush (-3), 2) := by decide +kernel
theorem dX9_addRun_57 : decode cX9_addRun 57 = .ok (.ireturn, 1) := by decide +kernel
theorem dX9_addRun_58 : decode cX9_addRun 58 = .ok (.aload_n 0, 1) := by decide +kernel
theorem dX9_addRun_59 : decode cX9_addRun 59 = .ok (.getfield 29, 3) := by decide +kernel
theorem dX9_addRun_62 : decode cX9_addRun 62 = .ok (.aload_n 0, 1) := by decide +kernel
theorem dX9_addRun_63 : decode cX9_addRun 63 = .ok (.getfield 12, 3) := by decide +kernel
theorem dX9_addRun_66 : decode cX9_addRun 66 = .ok (.invokevirtual 134, 3) := by decide +kernel
theorem dX9_addRun_69 : decode cX9_addRun 69 = .ok (.aload_n 0, 1) := by decide +kernel
theorem dX9_addRun_70 : decode cX9_addRun 70 = .ok (.getfield 12, 3) := by decide +kernel
theorem dX9_addRun_73 : decode cX9_addRun 73 = .ok (.getfield 128, 3) := by decide +kernel
theorem dX9_addRun_76 : decode cX9_addRun 76 = .ok (.iload_n 1, 1) := by decide +kernel
theorem dX9_addRun_77 : decode cX9_addRun 77 = .ok (.iload_n 2, 1) := by decide +kernel
theorem dX9_addRun_78 : decode cX9_addRun 78 = .ok (.iload_n 3, 1) := by decide +kernel
theorem dX9_addRun_79 : decode cX9_addRun 79 = .ok (.invokevirtual 138, 3) := by decide +kernel
theorem dX9_addRun_82 : decode cX9_addRun 82 = .ok (.aload_n 0, 1) := by decide +kernel
theorem dX9_addRun_83 : decode cX9_addRun 83 = .ok (.getfield 12, 3) := by decide +kernel
theorem dX9_addRun_86 : decode cX9_addRun 86 = .ok (.getfield 128, 3) := by decide +kernel
theorem dX9_addRun_89 : decode cX9_addRun 89 = .ok (.iload_n 1, 1) := by decide +kernel
theorem dX9_addRun_90 : decode cX9_addRun 90 = .ok (.invokevirtual 141, 3) := by decide +kernel
theorem dX9_addRun_93 : decode cX9_addRun 93 = .ok (.ireturn, 1) := by decide +kernel
theorem dX9_clearClue_0 : decode cX9_clearClue 0 = .ok (.aload_n 0, 1) := by decide +kernel
theorem dX9_clearClue_1 : decode cX9_clearClue 1 = .ok (.getfield 12, 3) := by decide +kernel
theorem dX9_clearClue_4 : decode cX9_clearClue 4 = .ok (.iload_n 1, 1) := by decide +kernel
theorem dX9_clearClue_5 : decode cX9_clearClue 5 = .ok (.invokevirtual 124, 3) := by decide +kernel
theorem dX9_clearClue_8 : decode cX9_clearClue 8 = .ok (.ifCond .ne 5, 3) := by decide +kernel
theorem dX9_clearClue_11 : decode cX9_clearClue 11 = .ok (.iconst (-1), 1) := by decide +kernel
theorem dX9_clearClue_12 : decode cX9_clearClue 12 = .ok (.ireturn, 1) := by decide +kernel
theorem dX9_clearClue_13 : decode cX9_clearClue 13 = .ok (.aload_n 0, 1) := by decide +kernel
theorem dX9_clearClue_14 : decode cX9_clearClue 14 = .ok (.getfield 12, 3) := by decide +kernel
theorem dX9_clearClue_17 : decode cX9_clearClue 17 = .ok (.getfield 128, 3) := by decide +kernel
theorem dX9_clearClue_20 : decode cX9_clearClue 20 = .ok (.iload_n 1, 1) := by decide +kernel
theorem dX9_clearClue_21 : decode cX9_clearClue 21 = .ok (.invokevirtual 141, 3) := by decide +kernel
theorem dX9_clearClue_24 : decode cX9_clearClue 24 = .ok (.istore_n 2, 1) := by decide +kernel
theorem dX9_clearClue_25 : decode cX9_clearClue 25 = .ok (.aload_n 0, 1) := by decide +kernel
theorem dX9_clearClue_26 : decode cX9_clearClue 26 = .ok (.getfield 29, 3) := by decide +kernel
theorem dX9_clearClue_29 : decode cX9_clearClue 29 = .ok (.aload_n 0, 1) := by decide +kernel
theorem dX9_clearClue_30 : decode cX9_clearClue 30 = .ok (.getfield 12, 3) := by decide +kernel
theorem dX9_clearClue_33 : decode cX9_clearClue 33 = .ok (.invokevirtual 134, 3) := by decide +kernel
theorem dX9_clearClue_36 : decode cX9_clearClue 36 = .ok (.aload_n 0, 1) := by decide +kernel
theorem dX9_clearClue_37 : decode cX9_clearClue 37 = .ok (.getfield 12, 3) := by decide +kernel
theorem dX9_clearClue_40 : decode cX9_clearClue 40 = .ok (.getfield 128, 3) := by decide +kernel
theorem dX9_clearClue_43 : decode cX9_clearClue 43 = .ok (.iload_n 1, 1) := by decide +kernel
theorem dX9_clearClue_44 : decode cX9_clearClue 44 = .ok (.invokevirtual 145, 3) := by decide +kernel
theorem dX9_clearClue_47 : decode cX9_clearClue 47 = .ok (.iload_n 2, 1) := by decide +kernel
theorem dX9_clearClue_48 : decode cX9_clearClue 48 = .ok (.ireturn, 1) := by decide +kernel
theorem dX9_runCount_0 : decode cX9_runCount 0 = .ok (.aload_n 0, 1) := by decide +kernel
theorem dX9_runCount_1 : decode cX9_runCount 1 = .ok (.getfield 12, 3) := by decide +kernel
theorem dX9_runCount_4 : decode cX9_runCount 4 = .ok (.iload_n 1, 1) := by decide +kernel
theorem dX9_runCount_5 : decode cX9_runCount 5 = .ok (.invokevirtual 124, 3) := by decide +kernel
theorem dX9_runCount_8 : decode cX9_runCount 8 = .ok (.ifCond .eq 17, 3) := by decide +kernel
theorem dX9_runCount_11 : decode cX9_runCount 11 = .ok (.aload_n 0, 1) := by decide +kernel
theorem dX9_runCount_12 : decode cX9_runCount 12 = .ok (.getfield 12, 3) := by decide +kernel
theorem dX9_runCount_15 : decode cX9_runCount 15 = .ok (.getfield 128, 3) := by decide +kernel
theorem dX9_runCount_18 : decode cX9_runCount 18 = .ok (.iload_n 1, 1) := by decide +kernel
theorem dX9_runCount_19 : decode cX9_runCount 19 = .ok (.invokevirtual 141, 3) := by decide +kernel
theorem dX9_runCount_22 : decode cX9_runCount 22 = .ok (.goto 4, 3) := by decide +kernel
theorem dX9_runCount_25 : decode cX9_runCount 25 = .ok (.iconst (-1), 1) := by decide +kernel
theorem dX9_runCount_26 : decode cX9_runCount 26 = .ok (.ireturn, 1) := by decide +kernel
theorem dX9_runLength_0 : decode cX9_runLength 0 = .ok (.aload_n 0, 1) := by decide +kernel
theorem dX9_runLength_1 : decode cX9_runLength 1 = .ok (.iload_n 1, 1) := by decide +kernel
theorem dX9_runLength_2 : decode cX9_runLength 2 = .ok (.iload_n 2, 1) := by decide +kernel
theorem dX9_runLength_3 : decode cX9_runLength 3 = .ok (.invokevirtual 148, 3) := by decide +kernel
theorem dX9_runLength_6 : decode cX9_runLength 6 = .ok (.ifCond .eq 18, 3) := by decide +kernel
theorem dX9_runLength_9 : decode cX9_runLength 9 = .ok (.aload_n 0, 1) := by decide +kernel
theorem dX9_runLength_10 : decode cX9_runLength 10 = .ok (.getfield 12, 3) := by decide +kernel
theorem dX9_runLength_13 : decode cX9_runLength 13 = .ok (.getfield 128, 3) := by decide +kernel
theorem dX9_runLength_16 : decode cX9_runLength 16 = .ok (.iload_n 1, 1) := by decide +kernel
theorem dX9_runLength_17 : decode cX9_runLength 17 = .ok (.iload_n 2, 1) := by decide +kernel
theorem dX9_runLength_18 : decode cX9_runLength 18 = .ok (.invokevirtual 152, 3) := by decide +kernel
theorem dX9_runLength_21 : decode cX9_runLength 21 = .ok (.goto 4, 3) := by decide +kernel
theorem dX9_runLength_24 : decode cX9_runLength 24 = .ok (.iconst (-1), 1) := by decide +kernel
theorem dX9_runLength_25 : decode cX9_runLength 25 = .ok (.ireturn, 1) := by decide +kernel
theorem dX9_runColor_0 : decode cX9_runColor 0 = .ok (.aload_n 0, 1) := by decide +kernel
theorem dX9_runColor_1 : decode cX9_runColor 1 = .ok (.iload_n 1, 1) := by decide +kernel
theorem dX9_runColor_2 : decode cX9_runColor 2 = .ok (.iload_n 2, 1) := by decide +kernel
theorem dX9_runColor_3 : decode cX9_runColor 3 = .ok (.invokevirtual 148, 3) := by decide +kernel
theorem dX9_runColor_6 : decode cX9_runColor 6 = .ok (.ifCond .eq 18, 3) := by decide +kernel
theorem dX9_runColor_9 : decode cX9_runColor 9 = .ok (.aload_n 0, 1) := by decide +kernel
theorem dX9_runColor_10 : decode cX9_runColor 10 = .ok (.getfield 12, 3) := by decide +kernel
theorem dX9_runColor_13 : decode cX9_runColor 13 = .ok (.getfield 128, 3) := by decide +kernel
theorem dX9_runColor_16 : decode cX9_runColor 16 = .ok (.iload_n 1, 1) := by decide +kernel
theorem dX9_runColor_17 : decode cX9_runColor 17 = .ok (.iload_n 2, 1) := by decide +kernel
theorem dX9_runColor_18 : decode cX9_runColor 18 = .ok (.invokevirtual 156, 3) := by decide +kernel
theorem dX9_runColor_21 : decode cX9_runColor 21 = .ok (.goto 4, 3) := by decide +kernel
theorem dX9_runColor_24 : decode cX9_runColor 24 = .ok (.iconst (-1), 1) := by decide +kernel
theorem dX9_runColor_25 : decode cX9_runColor 25 = .ok (.ireturn, 1) := by decide +kernel
theorem dX9_minimumLength_0 : decode cX9_minimumLength 0 = .ok (.aload_n 0, 1) := by decide +kernel
theorem dX9_minimumLength_1 : decode cX9_minimumLength 1 = .ok (.getfield 12, 3) := by decide +kernel
theorem dX9_minimumLength_4 : decode cX9_minimumLength 4 = .ok (.iload_n 1, 1) := by decide +kernel
theorem dX9_minimumLength_5 : decode cX9_minimumLength 5 = .ok (.invokevirtual 124, 3) := by decide +kernel
theorem dX9_minimumLength_8 : decode cX9_minimumLength 8 = .ok (.ifCond .eq 17, 3) := by decide +kernel
theorem dX9_minimumLength_11 : decode cX9_minimumLength 11 = .ok (.aload_n 0, 1) := by decide +kernel
theorem dX9_minimumLength_12 : decode cX9_minimumLength 12 = .ok (.getfield 12, 3) := by decide +kernel
theorem dX9_minimumLength_15 : decode cX9_minimumLength 15 = .ok (.getfield 128, 3) := by decide +kernel
theorem dX9_minimumLength_18 : decode cX9_minimumLength 18 = .ok (.iload_n 1, 1) := by decide +kernel
theorem dX9_minimumLength_19 : decode cX9_minimumLength 19 = .ok (.invokevirtual 159, 3) := by decide +kernel
theorem dX9_minimumLength_22 : decode cX9_minimumLength 22 = .ok (.goto 4, 3) := by decide +kernel
theorem dX9_minimumLength_25 : decode cX9_minimumLength 25 = .ok (.iconst (-1), 1) := by decide +kernel
theorem dX9_minimumLength_26 : decode cX9_minimumLength 26 = .ok (.ireturn, 1) := by decide +kernel
theorem dX9_candidates_0 : decode cX9_candidates 0 = .ok (.aload_n 0, 1) := by decide +kernel
theorem dX9_candidates_1 : decode cX9_candidates 1 = .ok (.getfield 12, 3) := by decide +kernel
theorem dX9_candidates_4 : decode cX9_candidates 4 = .ok (.iload_n 1, 1) := by decide +kernel
theorem dX9_candidates_5 : decode cX9_candidates 5 = .ok (.iload_n 2, 1) := by decide +kernel
theorem dX9_candidates_6 : decode cX9_candidates 6 = .ok (.invokevirtual 162, 3) := by decide +kernel
theorem dX9_candidates_9 : decode cX9_candidates 9 = .ok (.ifCond .eq 23, 3) := by decide +kernel
theorem dX9_candidates_12 : decode cX9_candidates 12 = .ok (.aload_n 0, 1) := by decide +kernel
theorem dX9_candidates_13 : decode cX9_candidates 13 = .ok (.getfield 12, 3) := by decide +kernel
theorem dX9_candidates_16 : decode cX9_candidates 16 = .ok (.getfield 165, 3) := by decide +kernel
theorem dX9_candidates_19 : decode cX9_candidates 19 = .ok (.aload_n 0, 1) := by decide +kernel
theorem dX9_candidates_20 : decode cX9_candidates 20 = .ok (.getfield 12, 3) := by decide +kernel
theorem dX9_candidates_23 : decode cX9_candidates 23 = .ok (.iload_n 1, 1) := by decide +kernel
theorem dX9_candidates_24 : decode cX9_candidates 24 = .ok (.iload_n 2, 1) := by decide +kernel
theorem dX9_candidates_25 : decode cX9_candidates 25 = .ok (.invokevirtual 169, 3) := by decide +kernel
theorem dX9_candidates_28 : decode cX9_candidates 28 = .ok (.iaload, 1) := by decide +kernel
theorem dX9_candidates_29 : decode cX9_candidates 29 = .ok (.goto 4, 3) := by decide +kernel
theorem dX9_candidates_32 : decode cX9_candidates 32 = .ok (.iconst (-1), 1) := by decide +kernel
theorem dX9_candidates_33 : decode cX9_candidates 33 = .ok (.ireturn, 1) := by decide +kernel
theorem dX9_color_0 : decode cX9_color 0 = .ok (.aload_n 0, 1) := by decide +kernel
theorem dX9_color_1 : decode cX9_color 1 = .ok (.getfield 12, 3) := by decide +kernel
theorem dX9_color_4 : decode cX9_color 4 = .ok (.iload_n 1, 1) := by decide +kernel
theorem dX9_color_5 : decode cX9_color 5 = .ok (.iload_n 2, 1) := by decide +kernel
theorem dX9_color_6 : decode cX9_color 6 = .ok (.invokevirtual 162, 3) := by decide +kernel
theorem dX9_color_9 : decode cX9_color 9 = .ok (.ifCond .ne 5, 3) := by decide +kernel
theorem dX9_color_12 : decode cX9_color 12 = .ok (.iconst (-1), 1) := by decide +kernel
theorem dX9_color_13 : decode cX9_color 13 = .ok (.ireturn, 1) := by decide +kernel
theorem dX9_color_14 : decode cX9_color 14 = .ok (.aload_n 0, 1) := by decide +kernel
theorem dX9_color_15 : decode cX9_color 15 = .ok (.getfield 12, 3) := by decide +kernel
theorem dX9_color_18 : decode cX9_color 18 = .ok (.iload_n 1, 1) := by decide +kernel
theorem dX9_color_19 : decode cX9_color 19 = .ok (.iload_n 2, 1) := by decide +kernel
theorem dX9_color_20 : decode cX9_color 20 = .ok (.invokevirtual 169, 3) := by decide +kernel
theorem dX9_color_23 : decode cX9_color 23 = .ok (.istore_n 3, 1) := by decide +kernel
theorem dX9_color_24 : decode cX9_color 24 = .ok (.aload_n 0, 1) := by decide +kernel
theorem dX9_color_25 : decode cX9_color 25 = .ok (.getfield 12, 3) := by decide +kernel
theorem dX9_color_28 : decode cX9_color 28 = .ok (.iload_n 3, 1) := by decide +kernel
theorem dX9_color_29 : decode cX9_color 29 = .ok (.invokevirtual 172, 3) := by decide +kernel
theorem dX9_color_32 : decode cX9_color 32 = .ok (.ifCond .eq 14, 3) := by decide +kernel
theorem dX9_color_35 : decode cX9_color 35 = .ok (.aload_n 0, 1) := by decide +kernel
theorem dX9_color_36 : decode cX9_color 36 = .ok (.getfield 12, 3) := by decide +kernel
theorem dX9_color_39 : decode cX9_color 39 = .ok (.iload_n 3, 1) := by decide +kernel
theorem dX9_color_40 : decode cX9_color 40 = .ok (.invokevirtual 175, 3) := by decide +kernel
theorem dX9_color_43 : decode cX9_color 43 = .ok (.goto 5, 3) := by decide +kernel
theorem dX9_color_46 : decode cX9_color 46 = .ok (.bipush (-6), 2) := by decide +kernel
theorem dX9_color_48 : decode cX9_color 48 = .ok (.ireturn, 1) := by decide +kernel
theorem dX9_keepOnly_0 : decode cX9_keepOnly 0 = .ok (.aload_n 0, 1) := by decide +kernel
theorem dX9_keepOnly_1 : decode cX9_keepOnly 1 = .ok (.iload_n 1, 1) := by decide +kernel
theorem dX9_keepOnly_2 : decode cX9_keepOnly 2 = .ok (.iload_n 2, 1) := by decide +kernel
theorem dX9_keepOnly_3 : decode cX9_keepOnly 3 = .ok (.iload_n 3, 1) := by decide +kernel
theorem dX9_keepOnly_4 : decode cX9_keepOnly 4 = .ok (.invokevirtual 178, 3) := by decide +kernel
theorem dX9_keepOnly_7 : decode cX9_keepOnly 7 = .ok (.istore 4, 2) := by decide +kernel
theorem dX9_keepOnly_9 : decode cX9_keepOnly 9 = .ok (.iload 4, 2) := by decide +kernel
theorem dX9_keepOnly_11 : decode cX9_keepOnly 11 = .ok (.ifCond .eq 6, 3) := by decide +kernel
theorem dX9_keepOnly_14 : decode cX9_keepOnly 14 = .ok (.iload 4, 2) := by decide +kernel
theorem dX9_keepOnly_16 : decode cX9_keepOnly 16 = .ok (.ireturn, 1) := by decide +kernel
theorem dX9_keepOnly_17 : decode cX9_keepOnly 17 = .ok (.aload_n 0, 1) := by decide +kernel
theorem dX9_keepOnly_18 : decode cX9_keepOnly 18 = .ok (.getfield 12, 3) := by decide +kernel
theorem dX9_keepOnly_21 : decode cX9_keepOnly 21 = .ok (.iload_n 1, 1) := by decide +kernel
theorem dX9_keepOnly_22 : decode cX9_keepOnly 22 = .ok (.iload_n 2, 1) := by decide +kernel
theorem dX9_keepOnly_23 : decode cX9_keepOnly 23 = .ok (.invokevirtual 169, 3) := by decide +kernel
theorem dX9_keepOnly_26 : decode cX9_keepOnly 26 = .ok (.istore 5, 2) := by decide +kernel
theorem dX9_keepOnly_28 : decode cX9_keepOnly 28 = .ok (.aload_n 0, 1) := by decide +kernel
theorem dX9_keepOnly_29 : decode cX9_keepOnly 29 = .ok (.getfield 12, 3) := by decide +kernel
theorem dX9_keepOnly_32 : decode cX9_keepOnly 32 = .ok (.getfield 165, 3) := by decide +kernel
theorem dX9_keepOnly_35 : decode cX9_keepOnly 35 = .ok (.iload 5, 2) := by decide +kernel
theorem dX9_keepOnly_37 : decode cX9_keepOnly 37 = .ok (.iaload, 1) := by decide +kernel
theorem dX9_keepOnly_38 : decode cX9_keepOnly 38 = .ok (.invokestatic 182, 3) := by decide +kernel
theorem dX9_keepOnly_41 : decode cX9_keepOnly 41 = .ok (.iconst 1, 1) := by decide +kernel
theorem dX9_keepOnly_42 : decode cX9_keepOnly 42 = .ok (.isub, 1) := by decide +kernel
theorem dX9_keepOnly_43 : decode cX9_keepOnly 43 = .ok (.istore 6, 2) := by decide +kernel
theorem dX9_keepOnly_45 : decode cX9_keepOnly 45 = .ok (.aload_n 0, 1) := by decide +kernel
theorem dX9_keepOnly_46 : decode cX9_keepOnly 46 = .ok (.getfield 29, 3) := by decide +kernel
theorem dX9_keepOnly_49 : decode cX9_keepOnly 49 = .ok (.aload_n 0, 1) := by decide +kernel
theorem dX9_keepOnly_50 : decode cX9_keepOnly 50 = .ok (.getfield 12, 3) := by decide +kernel
theorem dX9_keepOnly_53 : decode cX9_keepOnly 53 = .ok (.invokevirtual 134, 3) := by decide +kernel
theorem dX9_keepOnly_56 : decode cX9_keepOnly 56 = .ok (.aload_n 0, 1) := by decide +kernel
theorem dX9_keepOnly_57 : decode cX9_keepOnly 57 = .ok (.getfield 12, 3) := by decide +kernel
theorem dX9_keepOnly_60 : decode cX9_keepOnly 60 = .ok (.getfield 165, 3) := by decide +kernel
theorem dX9_keepOnly_63 : decode cX9_keepOnly 63 = .ok (.iload 5, 2) := by decide +kernel
theorem dX9_keepOnly_65 : decode cX9_keepOnly 65 = .ok (.iconst 1, 1) := by decide +kernel
theorem dX9_keepOnly_66 : decode cX9_keepOnly 66 = .ok (.iload_n 3, 1) := by decide +kernel
theorem dX9_keepOnly_67 : decode cX9_keepOnly 67 = .ok (.ishl, 1) := by decide +kernel
theorem dX9_keepOnly_68 : decode cX9_keepOnly 68 = .ok (.iastore, 1) := by decide +kernel
theorem dX9_keepOnly_69 : decode cX9_keepOnly 69 = .ok (.iload 6, 2) := by decide +kernel
theorem dX9_keepOnly_71 : decode cX9_keepOnly 71 = .ok (.ireturn, 1) := by decide +kernel
theorem dX9_eliminate_0 : decode cX9_eliminate 0 = .ok (.aload_n 0, 1) := by decide +kernel
theorem dX9_eliminate_1 : decode cX9_eliminate 1 = .ok (.iload_n 1, 1) := by decide +kernel
theorem dX9_eliminate_2 : decode cX9_eliminate 2 = .ok (.iload_n 2, 1) := by decide +kernel
theorem dX9_eliminate_3 : decode cX9_eliminate 3 = .ok (.iload_n 3, 1) := by decide +kernel
theorem dX9_eliminate_4 : decode cX9_eliminate 4 = .ok (.invokevirtual 187, 3) := by decide +kernel
theorem dX9_eliminate_7 : decode cX9_eliminate 7 = .ok (.istore 4, 2) := by decide +kernel
theorem dX9_eliminate_9 : decode cX9_eliminate 9 = .ok (.iload 4, 2) := by decide +kernel
theorem dX9_eliminate_11 : decode cX9_eliminate 11 = .ok (.ifCond .eq 6, 3) := by decide +kernel
theorem dX9_eliminate_14 : decode cX9_eliminate 14 = .ok (.iload 4, 2) := by decide +kernel
theorem dX9_eliminate_16 : decode cX9_eliminate 16 = .ok (.ireturn, 1) := by decide +kernel
theorem dX9_eliminate_17 : decode cX9_eliminate 17 = .ok (.aload_n 0, 1) := by decide +kernel
theorem dX9_eliminate_18 : decode cX9_eliminate 18 = .ok (.getfield 12, 3) := by decide +kernel
theorem dX9_eliminate_21 : decode cX9_eliminate 21 = .ok (.iload_n 1, 1) := by decide +kernel
theorem dX9_eliminate_22 : decode cX9_eliminate 22 = .ok (.iload_n 2, 1) := by decide +kernel
theorem dX9_eliminate_23 : decode cX9_eliminate 23 = .ok (.invokevirtual 169, 3) := by decide +kernel
theorem dX9_eliminate_26 : decode cX9_eliminate 26 = .ok (.istore 5, 2) := by decide +kernel
theorem dX9_eliminate_28 : decode cX9_eliminate 28 = .ok (.aload_n 0, 1) := by decide +kernel
theorem dX9_eliminate_29 : decode cX9_eliminate 29 = .ok (.getfield 29, 3) := by decide +kernel
theorem dX9_eliminate_32 : decode cX9_eliminate 32 = .ok (.aload_n 0, 1) := by decide +kernel
theorem dX9_eliminate_33 : decode cX9_eliminate 33 = .ok (.getfield 12, 3) := by decide +kernel
theorem dX9_eliminate_36 : decode cX9_eliminate 36 = .ok (.invokevirtual 134, 3) := by decide +kernel
theorem dX9_eliminate_39 : decode cX9_eliminate 39 = .ok (.aload_n 0, 1) := by decide +kernel
theorem dX9_eliminate_40 : decode cX9_eliminate 40 = .ok (.getfield 12, 3) := by decide +kernel
theorem dX9_eliminate_43 : decode cX9_eliminate 43 = .ok (.getfield 165, 3) := by decide +kernel
theorem dX9_eliminate_46 : decode cX9_eliminate 46 = .ok (.iload 5, 2) := by decide +kernel
theorem dX9_eliminate_48 : decode cX9_eliminate 48 = .ok (.dup2, 1) := by decide +kernel
theorem dX9_eliminate_49 : decode cX9_eliminate 49 = .ok (.iaload, 1) := by decide +kernel
theorem dX9_eliminate_50 : decode cX9_eliminate 50 = .ok (.iconst 1, 1) := by decide +kernel
theorem dX9_eliminate_51 : decode cX9_eliminate 51 = .ok (.iload_n 3, 1) := by decide +kernel
theorem dX9_eliminate_52 : decode cX9_eliminate 52 = .ok (.ishl, 1) := by decide +kernel
theorem dX9_eliminate_53 : decode cX9_eliminate 53 = .ok (.iconst (-1), 1) := by decide +kernel
theorem dX9_eliminate_54 : decode cX9_eliminate 54 = .ok (.ixor, 1) := by decide +kernel
theorem dX9_eliminate_55 : decode cX9_eliminate 55 = .ok (.iand, 1) := by decide +kernel
theorem dX9_eliminate_56 : decode cX9_eliminate 56 = .ok (.iastore, 1) := by decide +kernel
theorem dX9_eliminate_57 : decode cX9_eliminate 57 = .ok (.aload_n 0, 1) := by decide +kernel
theorem dX9_eliminate_58 : decode cX9_eliminate 58 = .ok (.getfield 12, 3) := by decide +kernel
theorem dX9_eliminate_61 : decode cX9_eliminate 61 = .ok (.getfield 165, 3) := by decide +kernel
theorem dX9_eliminate_64 : decode cX9_eliminate 64 = .ok (.iload 5, 2) := by decide +kernel
theorem dX9_eliminate_66 : decode cX9_eliminate 66 = .ok (.iaload, 1) := by decide +kernel
theorem dX9_eliminate_67 : decode cX9_eliminate 67 = .ok (.invokestatic 182, 3) := by decide +kernel
theorem dX9_eliminate_70 : decode cX9_eliminate 70 = .ok (.ireturn, 1) := by decide +kernel
theorem dX9_decidedCount_0 : decode cX9_decidedCount 0 = .ok (.aload_n 0, 1) := by decide +kernel
theorem dX9_decidedCount_1 : decode cX9_decidedCount 1 = .ok (.getfield 12, 3) := by decide +kernel
theorem dX9_decidedCount_4 : decode cX9_decidedCount 4 = .ok (.invokevirtual 190, 3) := by decide +kernel
theorem dX9_decidedCount_7 : decode cX9_decidedCount 7 = .ok (.ireturn, 1) := by decide +kernel
theorem dX9_averageCandidates_0 : decode cX9_averageCandidates 0 = .ok (.aload_n 0, 1) := by decide +kernel
theorem dX9_averageCandidates_1 : decode cX9_averageCandidates 1 = .ok (.getfield 12, 3) := by decide +kernel
theorem dX9_averageCandidates_4 : decode cX9_averageCandidates 4 = .ok (.iload_n 1, 1) := by decide +kernel
theorem dX9_averageCandidates_5 : decode cX9_averageCandidates 5 = .ok (.invokevirtual 124, 3) := by decide +kernel
theorem dX9_averageCandidates_8 : decode cX9_averageCandidates 8 = .ok (.ifCond .ne 5, 3) := by decide +kernel
theorem dX9_averageCandidates_11 : decode cX9_averageCandidates 11 = .ok (.iconst (-1), 1) := by decide +kernel
theorem dX9_averageCandidates_12 : decode cX9_averageCandidates 12 = .ok (.ireturn, 1) := by decide +kernel
theorem dX9_averageCandidates_13 : decode cX9_averageCandidates 13 = .ok (.iconst 0, 1) := by decide +kernel
theorem dX9_averageCandidates_14 : decode cX9_averageCandidates 14 = .ok (.istore_n 2, 1) := by decide +kernel
theorem dX9_averageCandidates_15 : decode cX9_averageCandidates 15 = .ok (.iconst 0, 1) := by decide +kernel
theorem dX9_averageCandidates_16 : decode cX9_averageCandidates 16 = .ok (.istore_n 3, 1) := by decide +kernel
theorem dX9_averageCandidates_17 : decode cX9_averageCandidates 17 = .ok (.iconst 0, 1) := by decide +kernel
theorem dX9_averageCandidates_18 : decode cX9_averageCandidates 18 = .ok (.istore 4, 2) := by decide +kernel
theorem dX9_averageCandidates_20 : decode cX9_averageCandidates 20 = .ok (.iload 4, 2) := by decide +kernel
theorem dX9_averageCandidates_22 : decode cX9_averageCandidates 22 = .ok (.aload_n 0, 1) := by decide +kernel
theorem dX9_averageCandidates_23 : decode cX9_averageCandidates 23 = .ok (.getfield 12, 3) := by decide +kernel
theorem dX9_averageCandidates_26 : decode cX9_averageCandidates 26 = .ok (.iload_n 1, 1) := by decide +kernel
theorem dX9_averageCandidates_27 : decode cX9_averageCandidates 27 = .ok (.invokevirtual 193, 3) := by decide +kernel
theorem dX9_averageCandidates_30 : decode cX9_averageCandidates 30 = .ok (.if_icmp .ge 52, 3) := by decide +kernel
theorem dX9_averageCandidates_33 : decode cX9_averageCandidates 33 = .ok (.aload_n 0, 1) := by decide +kernel
theorem dX9_averageCandidates_34 : decode cX9_averageCandidates 34 = .ok (.getfield 12, 3) := by decide +kernel
theorem dX9_averageCandidates_37 : decode cX9_averageCandidates 37 = .ok (.iload_n 1, 1) := by decide +kernel
theorem dX9_averageCandidates_38 : decode cX9_averageCandidates 38 = .ok (.iload 4, 2) := by decide +kernel
theorem dX9_averageCandidates_40 : decode cX9_averageCandidates 40 = .ok (.invokevirtual 196, 3) := by decide +kernel
theorem dX9_averageCandidates_43 : decode cX9_averageCandidates 43 = .ok (.istore 5, 2) := by decide +kernel
theorem dX9_averageCandidates_45 : decode cX9_averageCandidates 45 = .ok (.aload_n 0, 1) := by decide +kernel
theorem dX9_averageCandidates_46 : decode cX9_averageCandidates 46 = .ok (.getfield 12, 3) := by decide +kernel
theorem dX9_averageCandidates_49 : decode cX9_averageCandidates 49 = .ok (.iload 5, 2) := by decide +kernel
theorem dX9_averageCandidates_51 : decode cX9_averageCandidates 51 = .ok (.invokevirtual 172, 3) := by decide +kernel
theorem dX9_averageCandidates_54 : decode cX9_averageCandidates 54 = .ok (.ifCond .ne 22, 3) := by decide +kernel
theorem dX9_averageCandidates_57 : decode cX9_averageCandidates 57 = .ok (.iinc 2 1, 3) := by decide +kernel
theorem dX9_averageCandidates_60 : decode cX9_averageCandidates 60 = .ok (.iload_n 3, 1) := by decide +kernel
theorem dX9_averageCandidates_61 : decode cX9_averageCandidates 61 = .ok (.aload_n 0, 1) := by decide +kernel
theorem dX9_averageCandidates_62 : decode cX9_averageCandidates 62 = .ok (.getfield 12, 3) := by decide +kernel
theorem dX9_averageCandidates_65 : decode cX9_averageCandidates 65 = .ok (.getfield 165, 3) := by decide +kernel
theorem dX9_averageCandidates_68 : decode cX9_averageCandidates 68 = .ok (.iload 5, 2) := by decide +kernel
theorem dX9_averageCandidates_70 : decode cX9_averageCandidates 70 = .ok (.iaload, 1) := by decide +kernel
theorem dX9_averageCandidates_71 : decode cX9_averageCandidates 71 = .ok (.invokestatic 182, 3) := by decide +kernel
theorem dX9_averageCandidates_74 : decode cX9_averageCandidates 74 = .ok (.iadd, 1) := by decide +kernel
theorem dX9_averageCandidates_75 : decode cX9_averageCandidates 75 = .ok (.istore_n 3, 1) := by decide +kernel
theorem dX9_averageCandidates_76 : decode cX9_averageCandidates 76 = .ok (.iinc 4 1, 3) := by decide +kernel
theorem dX9_averageCandidates_79 : decode cX9_averageCandidates 79 = .ok (.goto (-59), 3) := by decide +kernel
theorem dX9_averageCandidates_82 : decode cX9_averageCandidates 82 = .ok (.iload_n 2, 1) := by decide +kernel
theorem dX9_averageCandidates_83 : decode cX9_averageCandidates 83 = .ok (.ifCond .ne 8, 3) := by decide +kernel
theorem dX9_averageCandidates_86 : decode cX9_averageCandidates 86 = .ok (.bipush (-8), 2) := by decide +kernel
theorem dX9_averageCandidates_88 : decode cX9_averageCandidates 88 = .ok (.goto 9, 3) := by decide +kernel
theorem dX9_averageCandidates_91 : decode cX9_averageCandidates 91 = .ok (.iload_n 3, 1) := by decide +kernel
theorem dX9_averageCandidates_92 : decode cX9_averageCandidates 92 = .ok (.bipush 100, 2) := by decide +kernel
theorem dX9_averageCandidates_94 : decode cX9_averageCandidates 94 = .ok (.imul, 1) := by decide +kernel
theorem dX9_averageCandidates_95 : decode cX9_averageCandidates 95 = .ok (.iload_n 2, 1) := by decide +kernel
theorem dX9_averageCandidates_96 : decode cX9_averageCandidates 96 = .ok (.idiv, 1) := by decide +kernel
theorem dX9_averageCandidates_97 : decode cX9_averageCandidates 97 = .ok (.ireturn, 1) := by decide +kernel
theorem dX9_assignmentCount_0 : decode cX9_assignmentCount 0 = .ok (.aload_n 0, 1) := by decide +kernel
theorem dX9_assignmentCount_1 : decode cX9_assignmentCount 1 = .ok (.getfield 12, 3) := by decide +kernel
theorem dX9_assignmentCount_4 : decode cX9_assignmentCount 4 = .ok (.iload_n 1, 1) := by decide +kernel
theorem dX9_assignmentCount_5 : decode cX9_assignmentCount 5 = .ok (.invokevirtual 124, 3) := by decide +kernel
theorem dX9_assignmentCount_8 : decode cX9_assignmentCount 8 = .ok (.ifCond .ne 5, 3) := by decide +kernel
theorem dX9_assignmentCount_11 : decode cX9_assignmentCount 11 = .ok (.iconst (-1), 1) := by decide +kernel
theorem dX9_assignmentCount_12 : decode cX9_assignmentCount 12 = .ok (.ireturn, 1) := by decide +kernel
theorem dX9_assignmentCount_13 : decode cX9_assignmentCount 13 = .ok (.aload_n 0, 1) := by decide +kernel
theorem dX9_assignmentCount_14 : decode cX9_assignmentCount 14 = .ok (.getfield 36, 3) := by decide +kernel
theorem dX9_assignmentCount_17 : decode cX9_assignmentCount 17 = .ok (.aload_n 0, 1) := by decide +kernel
theorem dX9_assignmentCount_18 : decode cX9_assignmentCount 18 = .ok (.getfield 12, 3) := by decide +kernel
theorem dX9_assignmentCount_21 : decode cX9_assignmentCount 21 = .ok (.iload_n 1, 1) := by decide +kernel
theorem dX9_assignmentCount_22 : decode cX9_assignmentCount 22 = .ok (.invokevirtual 199, 3) := by decide +kernel
theorem dX9_assignmentCount_25 : decode cX9_assignmentCount 25 = .ok (.aload_n 0, 1) := by decide +kernel
theorem dX9_assignmentCount_26 : decode cX9_assignmentCount 26 = .ok (.getfield 36, 3) := by decide +kernel
theorem dX9_assignmentCount_29 : decode cX9_assignmentCount 29 = .ok (.invokevirtual 203, 3) := by decide +kernel
theorem dX9_assignmentCount_32 : decode cX9_assignmentCount 32 = .ok (.ireturn, 1) := by decide +kernel
theorem dX9_assignmentColor_0 : decode cX9_assignmentColor 0 = .ok (.aload_n 0, 1) := by decide +kernel
theorem dX9_assignmentColor_1 : decode cX9_assignmentColor 1 = .ok (.getfield 12, 3) := by decide +kernel
theorem dX9_assignmentColor_4 : decode cX9_assignmentColor 4 = .ok (.iload_n 1, 1) := by decide +kernel
theorem dX9_assignmentColor_5 : decode cX9_assignmentColor 5 = .ok (.invokevirtual 124, 3) := by decide +kernel
theorem dX9_assignmentColor_8 : decode cX9_assignmentColor 8 = .ok (.ifCond .eq 21, 3) := by decide +kernel
theorem dX9_assignmentColor_11 : decode cX9_assignmentColor 11 = .ok (.iload_n 3, 1) := by decide +kernel
theorem dX9_assignmentColor_12 : decode cX9_assignmentColor 12 = .ok (.iconst 0, 1) := by decide +kernel
theorem dX9_assignmentColor_13 : decode cX9_assignmentColor 13 = .ok (.aload_n 0, 1) := by decide +kernel
theorem dX9_assignmentColor_14 : decode cX9_assignmentColor 14 = .ok (.getfield 12, 3) := by decide +kernel
theorem dX9_assignmentColor_17 : decode cX9_assignmentColor 17 = .ok (.iload_n 1, 1) := by decide +kernel
theorem dX9_assignmentColor_18 : decode cX9_assignmentColor 18 = .ok (.invokevirtual 193, 3) := by decide +kernel
theorem dX9_assignmentColor_21 : decode cX9_assignmentColor 21 = .ok (.iconst 1, 1) := by decide +kernel
theorem dX9_assignmentColor_22 : decode cX9_assignmentColor 22 = .ok (.isub, 1) := by decide +kernel
theorem dX9_assignmentColor_23 : decode cX9_assignmentColor 23 = .ok (.invokestatic 101, 3) := by decide +kernel
theorem dX9_assignmentColor_26 : decode cX9_assignmentColor 26 = .ok (.ifCond .ne 5, 3) := by decide +kernel
theorem dX9_assignmentColor_29 : decode cX9_assignmentColor 29 = .ok (.iconst (-1), 1) := by decide +kernel
theorem dX9_assignmentColor_30 : decode cX9_assignmentColor 30 = .ok (.ireturn, 1) := by decide +kernel
theorem dX9_assignmentColor_31 : decode cX9_assignmentColor 31 = .ok (.aload_n 0, 1) := by decide +kernel
theorem dX9_assignmentColor_32 : decode cX9_assignmentColor 32 = .ok (.getfield 36, 3) := by decide +kernel
theorem dX9_assignmentColor_35 : decode cX9_assignmentColor 35 = .ok (.aload_n 0, 1) := by decide +kernel
theorem dX9_assignmentColor_36 : decode cX9_assignmentColor 36 = .ok (.getfield 12, 3) := by decide +kernel
theorem dX9_assignmentColor_39 : decode cX9_assignmentColor 39 = .ok (.iload_n 1, 1) := by decide +kernel
theorem dX9_assignmentColor_40 : decode cX9_assignmentColor 40 = .ok (.invokevirtual 199, 3) := by decide +kernel
theorem dX9_assignmentColor_43 : decode cX9_assignmentColor 43 = .ok (.iload_n 2, 1) := by decide +kernel
theorem dX9_assignmentColor_44 : decode cX9_assignmentColor 44 = .ok (.iconst 0, 1) := by decide +kernel
theorem dX9_assignmentColor_45 : decode cX9_assignmentColor 45 = .ok (.aload_n 0, 1) := by decide +kernel
theorem dX9_assignmentColor_46 : decode cX9_assignmentColor 46 = .ok (.getfield 36, 3) := by decide +kernel
theorem dX9_assignmentColor_49 : decode cX9_assignmentColor 49 = .ok (.invokevirtual 203, 3) := by decide +kernel
theorem dX9_assignmentColor_52 : decode cX9_assignmentColor 52 = .ok (.iconst 1, 1) := by decide +kernel
theorem dX9_assignmentColor_53 : decode cX9_assignmentColor 53 = .ok (.isub, 1) := by decide +kernel
theorem dX9_assignmentColor_54 : decode cX9_assignmentColor 54 = .ok (.invokestatic 101, 3) := by decide +kernel
theorem dX9_assignmentColor_57 : decode cX9_assignmentColor 57 = .ok (.ifCond .ne 5, 3) := by decide +kernel
theorem dX9_assignmentColor_60 : decode cX9_assignmentColor 60 = .ok (.iconst (-1), 1) := by decide +kernel
theorem dX9_assignmentColor_61 : decode cX9_assignmentColor 61 = .ok (.ireturn, 1) := by decide +kernel
theorem dX9_assignmentColor_62 : decode cX9_assignmentColor 62 = .ok (.aload_n 0, 1) := by decide +kernel
theorem dX9_assignmentColor_63 : decode cX9_assignmentColor 63 = .ok (.getfield 36, 3) := by decide +kernel
theorem dX9_assignmentColor_66 : decode cX9_assignmentColor 66 = .ok (.iload_n 2, 1) := by decide +kernel
theorem dX9_assignmentColor_67 : decode cX9_assignmentColor 67 = .ok (.iload_n 3, 1) := by decide +kernel
theorem dX9_assignmentColor_68 : decode cX9_assignmentColor 68 = .ok (.invokevirtual 206, 3) := by decide +kernel
theorem dX9_assignmentColor_71 : decode cX9_assignmentColor 71 = .ok (.ireturn, 1) := by decide +kernel
theorem dX9_solveLine_0 : decode cX9_solveLine 0 = .ok (.aload_n 0, 1) := by decide +kernel
theorem dX9_solveLine_1 : decode cX9_solveLine 1 = .ok (.getfield 12, 3) := by decide +kernel
theorem dX9_solveLine_4 : decode cX9_solveLine 4 = .ok (.iload_n 1, 1) := by decide +kernel
theorem dX9_solveLine_5 : decode cX9_solveLine 5 = .ok (.invokevirtual 124, 3) := by decide +kernel
theorem dX9_solveLine_8 : decode cX9_solveLine 8 = .ok (.ifCond .ne 5, 3) := by decide +kernel
theorem dX9_solveLine_11 : decode cX9_solveLine 11 = .ok (.iconst (-1), 1) := by decide +kernel
theorem dX9_solveLine_12 : decode cX9_solveLine 12 = .ok (.ireturn, 1) := by decide +kernel
theorem dX9_solveLine_13 : decode cX9_solveLine 13 = .ok (.aload_n 0, 1) := by decide +kernel
theorem dX9_solveLine_14 : decode cX9_solveLine 14 = .ok (.getfield 16, 3) := by decide +kernel
theorem dX9_solveLine_17 : decode cX9_solveLine 17 = .ok (.aload_n 0, 1) := by decide +kernel
theorem dX9_solveLine_18 : decode cX9_solveLine 18 = .ok (.getfield 12, 3) := by decide +kernel
theorem dX9_solveLine_21 : decode cX9_solveLine 21 = .ok (.invokevirtual 209, 3) := by decide +kernel
theorem dX9_solveLine_24 : decode cX9_solveLine 24 = .ok (.aload_n 0, 1) := by decide +kernel
theorem dX9_solveLine_25 : decode cX9_solveLine 25 = .ok (.getfield 36, 3) := by decide +kernel
theorem dX9_solveLine_28 : decode cX9_solveLine 28 = .ok (.aload_n 0, 1) := by decide +kernel
theorem dX9_solveLine_29 : decode cX9_solveLine 29 = .ok (.getfield 16, 3) := by decide +kernel
theorem dX9_solveLine_32 : decode cX9_solveLine 32 = .ok (.iload_n 1, 1) := by decide +kernel
theorem dX9_solveLine_33 : decode cX9_solveLine 33 = .ok (.invokevirtual 212, 3) := by decide +kernel
theorem dX9_solveLine_36 : decode cX9_solveLine 36 = .ok (.ifCond .ne 10, 3) := by decide +kernel
theorem dX9_solveLine_39 : decode cX9_solveLine 39 = .ok (.aload_n 0, 1) := by decide +kernel
theorem dX9_solveLine_40 : decode cX9_solveLine 40 = .ok (.iload_n 1, 1) := by decide +kernel
theorem dX9_solveLine_41 : decode cX9_solveLine 41 = .ok (.iconst 0, 1) := by decide +kernel
theorem dX9_solveLine_42 : decode cX9_solveLine 42 = .ok (.invokevirtual 216, 3) := by decide +kernel
theorem dX9_solveLine_45 : decode cX9_solveLine 45 = .ok (.ireturn, 1) := by decide +kernel
theorem dX9_solveLine_46 : decode cX9_solveLine 46 = .ok (.aload_n 0, 1) := by decide +kernel
theorem dX9_solveLine_47 : decode cX9_solveLine 47 = .ok (.invokevirtual 219, 3) := by decide +kernel
theorem dX9_solveLine_50 : decode cX9_solveLine 50 = .ok (.aload_n 0, 1) := by decide +kernel
theorem dX9_solveLine_51 : decode cX9_solveLine 51 = .ok (.getfield 36, 3) := by decide +kernel
theorem dX9_solveLine_54 : decode cX9_solveLine 54 = .ok (.getfield 222, 3) := by decide +kernel
theorem dX9_solveLine_57 : decode cX9_solveLine 57 = .ok (.ireturn, 1) := by decide +kernel
theorem dX9_propagate_0 : decode cX9_propagate 0 = .ok (.aload_n 0, 1) := by decide +kernel
theorem dX9_propagate_1 : decode cX9_propagate 1 = .ok (.getfield 16, 3) := by decide +kernel
theorem dX9_propagate_4 : decode cX9_propagate 4 = .ok (.aload_n 0, 1) := by decide +kernel
theorem dX9_propagate_5 : decode cX9_propagate 5 = .ok (.getfield 12, 3) := by decide +kernel
theorem dX9_propagate_8 : decode cX9_propagate 8 = .ok (.invokevirtual 209, 3) := by decide +kernel
theorem dX9_propagate_11 : decode cX9_propagate 11 = .ok (.aload_n 0, 1) := by decide +kernel
theorem dX9_propagate_12 : decode cX9_propagate 12 = .ok (.getfield 43, 3) := by decide +kernel
theorem dX9_propagate_15 : decode cX9_propagate 15 = .ok (.aload_n 0, 1) := by decide +kernel
theorem dX9_propagate_16 : decode cX9_propagate 16 = .ok (.getfield 16, 3) := by decide +kernel
theorem dX9_propagate_19 : decode cX9_propagate 19 = .ok (.aload_n 0, 1) := by decide +kernel
theorem dX9_propagate_20 : decode cX9_propagate 20 = .ok (.getfield 16, 3) := by decide +kernel
theorem dX9_propagate_23 : decode cX9_propagate 23 = .ok (.invokevirtual 225, 3) := by decide +kernel
theorem dX9_propagate_26 : decode cX9_propagate 26 = .ok (.invokevirtual 228, 3) := by decide +kernel
theorem dX9_propagate_29 : decode cX9_propagate 29 = .ok (.ifCond .ne 16, 3) := by decide +kernel
theorem dX9_propagate_32 : decode cX9_propagate 32 = .ok (.aload_n 0, 1) := by decide +kernel
theorem dX9_propagate_33 : decode cX9_propagate 33 = .ok (.aload_n 0, 1) := by decide +kernel
theorem dX9_propagate_34 : decode cX9_propagate 34 = .ok (.getfield 43, 3) := by decide +kernel
theorem dX9_propagate_37 : decode cX9_propagate 37 = .ok (.getfield 231, 3) := by decide +kernel
theorem dX9_propagate_40 : decode cX9_propagate 40 = .ok (.iconst 0, 1) := by decide +kernel
theorem dX9_propagate_41 : decode cX9_propagate 41 = .ok (.invokevirtual 216, 3) := by decide +kernel
theorem dX9_propagate_44 : decode cX9_propagate 44 = .ok (.ireturn, 1) := by decide +kernel
theorem dX9_propagate_45 : decode cX9_propagate 45 = .ok (.aload_n 0, 1) := by decide +kernel
theorem dX9_propagate_46 : decode cX9_propagate 46 = .ok (.invokevirtual 219, 3) := by decide +kernel
theorem dX9_propagate_49 : decode cX9_propagate 49 = .ok (.aload_n 0, 1) := by decide +kernel
theorem dX9_propagate_50 : decode cX9_propagate 50 = .ok (.getfield 43, 3) := by decide +kernel
theorem dX9_propagate_53 : decode cX9_propagate 53 = .ok (.getfield 234, 3) := by decide +kernel
theorem dX9_propagate_56 : decode cX9_propagate 56 = .ok (.ireturn, 1) := by decide +kernel
theorem dX9_passCount_0 : decode cX9_passCount 0 = .ok (.aload_n 0, 1) := by decide +kernel
theorem dX9_passCount_1 : decode cX9_passCount 1 = .ok (.getfield 16, 3) := by decide +kernel
theorem dX9_passCount_4 : decode cX9_passCount 4 = .ok (.aload_n 0, 1) := by decide +kernel
theorem dX9_passCount_5 : decode cX9_passCount 5 = .ok (.getfield 12, 3) := by decide +kernel
theorem dX9_passCount_8 : decode cX9_passCount 8 = .ok (.invokevirtual 209, 3) := by decide +kernel
theorem dX9_passCount_11 : decode cX9_passCount 11 = .ok (.aload_n 0, 1) := by decide +kernel
theorem dX9_passCount_12 : decode cX9_passCount 12 = .ok (.getfield 43, 3) := by decide +kernel
theorem dX9_passCount_15 : decode cX9_passCount 15 = .ok (.aload_n 0, 1) := by decide +kernel
theorem dX9_passCount_16 : decode cX9_passCount 16 = .ok (.getfield 16, 3) := by decide +kernel
theorem dX9_passCount_19 : decode cX9_passCount 19 = .ok (.aload_n 0, 1) := by decide +kernel
theorem dX9_passCount_20 : decode cX9_passCount 20 = .ok (.getfield 16, 3) := by decide +kernel
theorem dX9_passCount_23 : decode cX9_passCount 23 = .ok (.invokevirtual 225, 3) := by decide +kernel
theorem dX9_passCount_26 : decode cX9_passCount 26 = .ok (.invokevirtual 228, 3) := by decide +kernel
theorem dX9_passCount_29 : decode cX9_passCount 29 = .ok (.ifCond .eq 13, 3) := by decide +kernel
theorem dX9_passCount_32 : decode cX9_passCount 32 = .ok (.aload_n 0, 1) := by decide +kernel
theorem dX9_passCount_33 : decode cX9_passCount 33 = .ok (.getfield 43, 3) := by decide +kernel
theorem dX9_passCount_36 : decode cX9_passCount 36 = .ok (.getfield 235, 3) := by decide +kernel
theorem dX9_passCount_39 : decode cX9_passCount 39 = .ok (.goto 5, 3) := by decide +kernel
theorem dX9_passCount_42 : decode cX9_passCount 42 = .ok (.bipush (-4), 2) := by decide +kernel
theorem dX9_passCount_44 : decode cX9_passCount 44 = .ok (.ireturn, 1) := by decide +kernel
theorem dX9_probe_0 : decode cX9_probe 0 = .ok (.aload_n 0, 1) := by decide +kernel
theorem dX9_probe_1 : decode cX9_probe 1 = .ok (.iload_n 1, 1) := by decide +kernel
theorem dX9_probe_2 : decode cX9_probe 2 = .ok (.iload_n 2, 1) := by decide +kernel
theorem dX9_probe_3 : decode cX9_probe 3 = .ok (.iload_n 3, 1) := by decide +kernel
theorem dX9_probe_4 : decode cX9_probe 4 = .ok (.invokevirtual 187, 3) := by decide +kernel
theorem dX9_probe_7 : decode cX9_probe 7 = .ok (.istore 4, 2) := by decide +kernel
theorem dX9_probe_9 : decode cX9_probe 9 = .ok (.iload 4, 2) := by decide +kernel
theorem dX9_probe_11 : decode cX9_probe 11 = .ok (.ifCond .eq 6, 3) := by decide +kernel
theorem dX9_probe_14 : decode cX9_probe 14 = .ok (.iload 4, 2) := by decide +kernel
theorem dX9_probe_16 : decode cX9_probe 16 = .ok (.ireturn, 1) := by decide +kernel
theorem dX9_probe_17 : decode cX9_probe 17 = .ok (.aload_n 0, 1) := by decide +kernel
theorem dX9_probe_18 : decode cX9_probe 18 = .ok (.getfield 16, 3) := by decide +kernel
theorem dX9_probe_21 : decode cX9_probe 21 = .ok (.aload_n 0, 1) := by decide +kernel
theorem dX9_probe_22 : decode cX9_probe 22 = .ok (.getfield 12, 3) := by decide +kernel
theorem dX9_probe_25 : decode cX9_probe 25 = .ok (.invokevirtual 209, 3) := by decide +kernel
theorem dX9_probe_28 : decode cX9_probe 28 = .ok (.aload_n 0, 1) := by decide +kernel
theorem dX9_probe_29 : decode cX9_probe 29 = .ok (.getfield 16, 3) := by decide +kernel
theorem dX9_probe_32 : decode cX9_probe 32 = .ok (.getfield 165, 3) := by decide +kernel
theorem dX9_probe_35 : decode cX9_probe 35 = .ok (.aload_n 0, 1) := by decide +kernel
theorem dX9_probe_36 : decode cX9_probe 36 = .ok (.getfield 16, 3) := by decide +kernel
theorem dX9_probe_39 : decode cX9_probe 39 = .ok (.iload_n 1, 1) := by decide +kernel
theorem dX9_probe_40 : decode cX9_probe 40 = .ok (.iload_n 2, 1) := by decide +kernel
theorem dX9_probe_41 : decode cX9_probe 41 = .ok (.invokevirtual 169, 3) := by decide +kernel
theorem dX9_probe_44 : decode cX9_probe 44 = .ok (.iconst 1, 1) := by decide +kernel
theorem dX9_probe_45 : decode cX9_probe 45 = .ok (.iload_n 3, 1) := by decide +kernel
theorem dX9_probe_46 : decode cX9_probe 46 = .ok (.ishl, 1) := by decide +kernel
theorem dX9_probe_47 : decode cX9_probe 47 = .ok (.iastore, 1) := by decide +kernel
theorem dX9_probe_48 : decode cX9_probe 48 = .ok (.aload_n 0, 1) := by decide +kernel
theorem dX9_probe_49 : decode cX9_probe 49 = .ok (.getfield 43, 3) := by decide +kernel
theorem dX9_probe_52 : decode cX9_probe 52 = .ok (.aload_n 0, 1) := by decide +kernel
theorem dX9_probe_53 : decode cX9_probe 53 = .ok (.getfield 16, 3) := by decide +kernel
theorem dX9_probe_56 : decode cX9_probe 56 = .ok (.aload_n 0, 1) := by decide +kernel
theorem dX9_probe_57 : decode cX9_probe 57 = .ok (.getfield 16, 3) := by decide +kernel
theorem dX9_probe_60 : decode cX9_probe 60 = .ok (.invokevirtual 225, 3) := by decide +kernel
theorem dX9_probe_63 : decode cX9_probe 63 = .ok (.invokevirtual 228, 3) := by decide +kernel
theorem dX9_probe_66 : decode cX9_probe 66 = .ok (.ifCond .eq 7, 3) := by decide +kernel
theorem dX9_probe_69 : decode cX9_probe 69 = .ok (.iconst 0, 1) := by decide +kernel
theorem dX9_probe_70 : decode cX9_probe 70 = .ok (.goto 4, 3) := by decide +kernel
theorem dX9_probe_73 : decode cX9_probe 73 = .ok (.iconst 1, 1) := by decide +kernel
theorem dX9_probe_74 : decode cX9_probe 74 = .ok (.ireturn, 1) := by decide +kernel
theorem dX9_probeAll_0 : decode cX9_probeAll 0 = .ok (.aload_n 0, 1) := by decide +kernel
theorem dX9_probeAll_1 : decode cX9_probeAll 1 = .ok (.getfield 16, 3) := by decide +kernel
theorem dX9_probeAll_4 : decode cX9_probeAll 4 = .ok (.aload_n 0, 1) := by decide +kernel
theorem dX9_probeAll_5 : decode cX9_probeAll 5 = .ok (.getfield 12, 3) := by decide +kernel
theorem dX9_probeAll_8 : decode cX9_probeAll 8 = .ok (.invokevirtual 209, 3) := by decide +kernel
theorem dX9_probeAll_11 : decode cX9_probeAll 11 = .ok (.aload_n 0, 1) := by decide +kernel
theorem dX9_probeAll_12 : decode cX9_probeAll 12 = .ok (.getfield 50, 3) := by decide +kernel
theorem dX9_probeAll_15 : decode cX9_probeAll 15 = .ok (.aload_n 0, 1) := by decide +kernel
theorem dX9_probeAll_16 : decode cX9_probeAll 16 = .ok (.getfield 16, 3) := by decide +kernel
theorem dX9_probeAll_19 : decode cX9_probeAll 19 = .ok (.invokevirtual 238, 3) := by decide +kernel
theorem dX9_probeAll_22 : decode cX9_probeAll 22 = .ok (.istore_n 1, 1) := by decide +kernel
theorem dX9_probeAll_23 : decode cX9_probeAll 23 = .ok (.iconst 0, 1) := by decide +kernel
theorem dX9_probeAll_24 : decode cX9_probeAll 24 = .ok (.istore_n 2, 1) := by decide +kernel
theorem dX9_probeAll_25 : decode cX9_probeAll 25 = .ok (.iconst 0, 1) := by decide +kernel
theorem dX9_probeAll_26 : decode cX9_probeAll 26 = .ok (.istore_n 3, 1) := by decide +kernel
theorem dX9_probeAll_27 : decode cX9_probeAll 27 = .ok (.iload_n 1, 1) := by decide +kernel
theorem dX9_probeAll_28 : decode cX9_probeAll 28 = .ok (.ifCond .eq 59, 3) := by decide +kernel
theorem dX9_probeAll_31 : decode cX9_probeAll 31 = .ok (.iload_n 2, 1) := by decide +kernel
theorem dX9_probeAll_32 : decode cX9_probeAll 32 = .ok (.ifCond .ne 55, 3) := by decide +kernel
theorem dX9_probeAll_35 : decode cX9_probeAll 35 = .ok (.iload_n 3, 1) := by decide +kernel
theorem dX9_probeAll_36 : decode cX9_probeAll 36 = .ok (.sipush 192, 3) := by decide +kernel
theorem dX9_probeAll_39 : decode cX9_probeAll 39 = .ok (.if_icmp .gt 48, 3) := by decide +kernel
theorem dX9_probeAll_42 : decode cX9_probeAll 42 = .ok (.aload_n 0, 1) := by decide +kernel
theorem dX9_probeAll_43 : decode cX9_probeAll 43 = .ok (.getfield 50, 3) := by decide +kernel
theorem dX9_probeAll_46 : decode cX9_probeAll 46 = .ok (.getfield 242, 3) := by decide +kernel
theorem dX9_probeAll_49 : decode cX9_probeAll 49 = .ok (.istore 4, 2) := by decide +kernel
theorem dX9_probeAll_51 : decode cX9_probeAll 51 = .ok (.aload_n 0, 1) := by decide +kernel
theorem dX9_probeAll_52 : decode cX9_probeAll 52 = .ok (.getfield 50, 3) := by decide +kernel
theorem dX9_probeAll_55 : decode cX9_probeAll 55 = .ok (.aload_n 0, 1) := by decide +kernel
theorem dX9_probeAll_56 : decode cX9_probeAll 56 = .ok (.getfield 16, 3) := by decide +kernel
theorem dX9_probeAll_59 : decode cX9_probeAll 59 = .ok (.invokevirtual 245, 3) := by decide +kernel
theorem dX9_probeAll_62 : decode cX9_probeAll 62 = .ok (.istore_n 1, 1) := by decide +kernel
theorem dX9_probeAll_63 : decode cX9_probeAll 63 = .ok (.aload_n 0, 1) := by decide +kernel
theorem dX9_probeAll_64 : decode cX9_probeAll 64 = .ok (.getfield 50, 3) := by decide +kernel
theorem dX9_probeAll_67 : decode cX9_probeAll 67 = .ok (.getfield 242, 3) := by decide +kernel
theorem dX9_probeAll_70 : decode cX9_probeAll 70 = .ok (.iload 4, 2) := by decide +kernel
theorem dX9_probeAll_72 : decode cX9_probeAll 72 = .ok (.if_icmp .ne 7, 3) := by decide +kernel
theorem dX9_probeAll_75 : decode cX9_probeAll 75 = .ok (.iconst 1, 1) := by decide +kernel
theorem dX9_probeAll_76 : decode cX9_probeAll 76 = .ok (.goto 4, 3) := by decide +kernel
theorem dX9_probeAll_79 : decode cX9_probeAll 79 = .ok (.iconst 0, 1) := by decide +kernel
theorem dX9_probeAll_80 : decode cX9_probeAll 80 = .ok (.istore_n 2, 1) := by decide +kernel
theorem dX9_probeAll_81 : decode cX9_probeAll 81 = .ok (.iinc 3 1, 3) := by decide +kernel
theorem dX9_probeAll_84 : decode cX9_probeAll 84 = .ok (.goto (-57), 3) := by decide +kernel
theorem dX9_probeAll_87 : decode cX9_probeAll 87 = .ok (.iload_n 1, 1) := by decide +kernel
theorem dX9_probeAll_88 : decode cX9_probeAll 88 = .ok (.ifCond .ne 22, 3) := by decide +kernel
theorem dX9_probeAll_91 : decode cX9_probeAll 91 = .ok (.aload_n 0, 1) := by decide +kernel
theorem dX9_probeAll_92 : decode cX9_probeAll 92 = .ok (.aload_n 0, 1) := by decide +kernel
theorem dX9_probeAll_93 : decode cX9_probeAll 93 = .ok (.getfield 50, 3) := by decide +kernel
theorem dX9_probeAll_96 : decode cX9_probeAll 96 = .ok (.getfield 248, 3) := by decide +kernel
theorem dX9_probeAll_99 : decode cX9_probeAll 99 = .ok (.aload_n 0, 1) := by decide +kernel
theorem dX9_probeAll_100 : decode cX9_probeAll 100 = .ok (.getfield 50, 3) := by decide +kernel
theorem dX9_probeAll_103 : decode cX9_probeAll 103 = .ok (.getfield 242, 3) := by decide +kernel
theorem dX9_probeAll_106 : decode cX9_probeAll 106 = .ok (.invokevirtual 216, 3) := by decide +kernel
theorem dX9_probeAll_109 : decode cX9_probeAll 109 = .ok (.ireturn, 1) := by decide +kernel
theorem dX9_probeAll_110 : decode cX9_probeAll 110 = .ok (.aload_n 0, 1) := by decide +kernel
theorem dX9_probeAll_111 : decode cX9_probeAll 111 = .ok (.invokevirtual 219, 3) := by decide +kernel
theorem dX9_probeAll_114 : decode cX9_probeAll 114 = .ok (.aload_n 0, 1) := by decide +kernel
theorem dX9_probeAll_115 : decode cX9_probeAll 115 = .ok (.getfield 50, 3) := by decide +kernel
theorem dX9_probeAll_118 : decode cX9_probeAll 118 = .ok (.getfield 242, 3) := by decide +kernel
theorem dX9_probeAll_121 : decode cX9_probeAll 121 = .ok (.ireturn, 1) := by decide +kernel
theorem dX9_contradictionLine_0 : decode cX9_contradictionLine 0 = .ok (.aload_n 0, 1) := by decide +kernel
theorem dX9_contradictionLine_1 : decode cX9_contradictionLine 1 = .ok (.getfield 65, 3) := by decide +kernel
theorem dX9_contradictionLine_4 : decode cX9_contradictionLine 4 = .ok (.ireturn, 1) := by decide +kernel
theorem dX9_contradictionDepth_0 : decode cX9_contradictionDepth 0 = .ok (.aload_n 0, 1) := by decide +kernel
theorem dX9_contradictionDepth_1 : decode cX9_contradictionDepth 1 = .ok (.getfield 68, 3) := by decide +kernel
theorem dX9_contradictionDepth_4 : decode cX9_contradictionDepth 4 = .ok (.ireturn, 1) := by decide +kernel
theorem dX9_setRule_0 : decode cX9_setRule 0 = .ok (.iload_n 1, 1) := by decide +kernel
theorem dX9_setRule_1 : decode cX9_setRule 1 = .ok (.iconst 0, 1) := by decide +kernel
theorem dX9_setRule_2 : decode cX9_setRule 2 = .ok (.iconst 2, 1) := by decide +kernel
theorem dX9_setRule_3 : decode cX9_setRule 3 = .ok (.invokestatic 101, 3) := by decide +kernel
theorem dX9_setRule_6 : decode cX9_setRule 6 = .ok (.ifCond .ne 6, 3) := by decide +kernel
theorem dX9_setRule_9 : decode cX9_setRule 9 = .ok (.bipush (-2), 2) := by decide +kernel
theorem dX9_setRule_11 : decode cX9_setRule 11 = .ok (.ireturn, 1) := by decide +kernel
theorem dX9_setRule_12 : decode cX9_setRule 12 = .ok (.aload_n 0, 1) := by decide +kernel
theorem dX9_setRule_13 : decode cX9_setRule 13 = .ok (.getfield 61, 3) := by decide +kernel
theorem dX9_setRule_16 : decode cX9_setRule 16 = .ok (.istore_n 2, 1) := by decide +kernel
theorem dX9_setRule_17 : decode cX9_setRule 17 = .ok (.aload_n 0, 1) := by decide +kernel
theorem dX9_setRule_18 : decode cX9_setRule 18 = .ok (.iload_n 1, 1) := by decide +kernel
theorem dX9_setRule_19 : decode cX9_setRule 19 = .ok (.putfield 61, 3) := by decide +kernel
theorem dX9_setRule_22 : decode cX9_setRule 22 = .ok (.iload_n 2, 1) := by decide +kernel
theorem dX9_setRule_23 : decode cX9_setRule 23 = .ok (.ireturn, 1) := by decide +kernel
theorem dX9_countSolutions_0 : decode cX9_countSolutions 0 = .ok (.iload_n 1, 1) := by decide +kernel
theorem dX9_countSolutions_1 : decode cX9_countSolutions 1 = .ok (.iconst 1, 1) := by decide +kernel
theorem dX9_countSolutions_2 : decode cX9_countSolutions 2 = .ok (.bipush 20, 2) := by decide +kernel
theorem dX9_countSolutions_4 : decode cX9_countSolutions 4 = .ok (.invokestatic 101, 3) := by decide +kernel
theorem dX9_countSolutions_7 : decode cX9_countSolutions 7 = .ok (.ifCond .ne 6, 3) := by decide +kernel
theorem dX9_countSolutions_10 : decode cX9_countSolutions 10 = .ok (.bipush (-2), 2) := by decide +kernel
theorem dX9_countSolutions_12 : decode cX9_countSolutions 12 = .ok (.ireturn, 1) := by decide +kernel
theorem dX9_countSolutions_13 : decode cX9_countSolutions 13 = .ok (.aload_n 0, 1) := by decide +kernel
theorem dX9_countSolutions_14 : decode cX9_countSolutions 14 = .ok (.getfield 57, 3) := by decide +kernel
theorem dX9_countSolutions_17 : decode cX9_countSolutions 17 = .ok (.aload_n 0, 1) := by decide +kernel
theorem dX9_countSolutions_18 : decode cX9_countSolutions 18 = .ok (.getfield 12, 3) := by decide +kernel
theorem dX9_countSolutions_21 : decode cX9_countSolutions 21 = .ok (.aload_n 0, 1) := by decide +kernel
theorem dX9_countSolutions_22 : decode cX9_countSolutions 22 = .ok (.getfield 61, 3) := by decide +kernel
theorem dX9_countSolutions_25 : decode cX9_countSolutions 25 = .ok (.iload_n 1, 1) := by decide +kernel
theorem dX9_countSolutions_26 : decode cX9_countSolutions 26 = .ok (.invokevirtual 249, 3) := by decide +kernel
theorem dX9_countSolutions_29 : decode cX9_countSolutions 29 = .ok (.aload_n 0, 1) := by decide +kernel
theorem dX9_countSolutions_30 : decode cX9_countSolutions 30 = .ok (.getfield 57, 3) := by decide +kernel
theorem dX9_countSolutions_33 : decode cX9_countSolutions 33 = .ok (.getfield 253, 3) := by decide +kernel
theorem dX9_countSolutions_36 : decode cX9_countSolutions 36 = .ok (.ifCond .eq 8, 3) := by decide +kernel
theorem dX9_countSolutions_39 : decode cX9_countSolutions 39 = .ok (.bipush (-7), 2) := by decide +kernel
theorem dX9_countSolutions_41 : decode cX9_countSolutions 41 = .ok (.goto 10, 3) := by decide +kernel
theorem dX9_countSolutions_44 : decode cX9_countSolutions 44 = .ok (.aload_n 0, 1) := by decide +kernel
theorem dX9_countSolutions_45 : decode cX9_countSolutions 45 = .ok (.getfield 57, 3) := by decide +kernel
theorem dX9_countSolutions_48 : decode cX9_countSolutions 48 = .ok (.getfield 256, 3) := by decide +kernel
theorem dX9_countSolutions_51 : decode cX9_countSolutions 51 = .ok (.ireturn, 1) := by decide +kernel
theorem dX9_solutionColor_0 : decode cX9_solutionColor 0 = .ok (.iload_n 1, 1) := by decide +kernel
theorem dX9_solutionColor_1 : decode cX9_solutionColor 1 = .ok (.iconst 0, 1) := by decide +kernel
theorem dX9_solutionColor_2 : decode cX9_solutionColor 2 = .ok (.bipush 19, 2) := by decide +kernel
theorem dX9_solutionColor_4 : decode cX9_solutionColor 4 = .ok (.invokestatic 101, 3) := by decide +kernel
theorem dX9_solutionColor_7 : decode cX9_solutionColor 7 = .ok (.ifCond .ne 6, 3) := by decide +kernel
theorem dX9_solutionColor_10 : decode cX9_solutionColor 10 = .ok (.bipush (-2), 2) := by decide +kernel
theorem dX9_solutionColor_12 : decode cX9_solutionColor 12 = .ok (.ireturn, 1) := by decide +kernel
theorem dX9_solutionColor_13 : decode cX9_solutionColor 13 = .ok (.aload_n 0, 1) := by decide +kernel
theorem dX9_solutionColor_14 : decode cX9_solutionColor 14 = .ok (.getfield 12, 3) := by decide +kernel
theorem dX9_solutionColor_17 : decode cX9_solutionColor 17 = .ok (.iload_n 2, 1) := by decide +kernel
theorem dX9_solutionColor_18 : decode cX9_solutionColor 18 = .ok (.iload_n 3, 1) := by decide +kernel
theorem dX9_solutionColor_19 : decode cX9_solutionColor 19 = .ok (.invokevirtual 162, 3) := by decide +kernel
theorem dX9_solutionColor_22 : decode cX9_solutionColor 22 = .ok (.ifCond .ne 5, 3) := by decide +kernel
theorem dX9_solutionColor_25 : decode cX9_solutionColor 25 = .ok (.iconst (-1), 1) := by decide +kernel
theorem dX9_solutionColor_26 : decode cX9_solutionColor 26 = .ok (.ireturn, 1) := by decide +kernel
theorem dX9_solutionColor_27 : decode cX9_solutionColor 27 = .ok (.aload_n 0, 1) := by decide +kernel
theorem dX9_solutionColor_28 : decode cX9_solutionColor 28 = .ok (.getfield 57, 3) := by decide +kernel
theorem dX9_solutionColor_31 : decode cX9_solutionColor 31 = .ok (.aload_n 0, 1) := by decide +kernel
theorem dX9_solutionColor_32 : decode cX9_solutionColor 32 = .ok (.getfield 12, 3) := by decide +kernel
theorem dX9_solutionColor_35 : decode cX9_solutionColor 35 = .ok (.aload_n 0, 1) := by decide +kernel
theorem dX9_solutionColor_36 : decode cX9_solutionColor 36 = .ok (.getfield 61, 3) := by decide +kernel
theorem dX9_solutionColor_39 : decode cX9_solutionColor 39 = .ok (.iload_n 1, 1) := by decide +kernel
theorem dX9_solutionColor_40 : decode cX9_solutionColor 40 = .ok (.iconst 1, 1) := by decide +kernel
theorem dX9_solutionColor_41 : decode cX9_solutionColor 41 = .ok (.iadd, 1) := by decide +kernel
theorem dX9_solutionColor_42 : decode cX9_solutionColor 42 = .ok (.invokevirtual 249, 3) := by decide +kernel
theorem dX9_solutionColor_45 : decode cX9_solutionColor 45 = .ok (.aload_n 0, 1) := by decide +kernel
theorem dX9_solutionColor_46 : decode cX9_solutionColor 46 = .ok (.getfield 57, 3) := by decide +kernel
theorem dX9_solutionColor_49 : decode cX9_solutionColor 49 = .ok (.getfield 253, 3) := by decide +kernel
theorem dX9_solutionColor_52 : decode cX9_solutionColor 52 = .ok (.ifCond .eq 6, 3) := by decide +kernel
theorem dX9_solutionColor_55 : decode cX9_solutionColor 55 = .ok (.bipush (-7), 2) := by decide +kernel
theorem dX9_solutionColor_57 : decode cX9_solutionColor 57 = .ok (.ireturn, 1) := by decide +kernel
theorem dX9_solutionColor_58 : decode cX9_solutionColor 58 = .ok (.aload_n 0, 1) := by decide +kernel
theorem dX9_solutionColor_59 : decode cX9_solutionColor 59 = .ok (.getfield 57, 3) := by decide +kernel
theorem dX9_solutionColor_62 : decode cX9_solutionColor 62 = .ok (.getfield 256, 3) := by decide +kernel
theorem dX9_solutionColor_65 : decode cX9_solutionColor 65 = .ok (.iload_n 1, 1) := by decide +kernel
theorem dX9_solutionColor_66 : decode cX9_solutionColor 66 = .ok (.if_icmp .le 22, 3) := by decide +kernel
theorem dX9_solutionColor_69 : decode cX9_solutionColor 69 = .ok (.aload_n 0, 1) := by decide +kernel
theorem dX9_solutionColor_70 : decode cX9_solutionColor 70 = .ok (.getfield 57, 3) := by decide +kernel
theorem dX9_solutionColor_73 : decode cX9_solutionColor 73 = .ok (.aload_n 0, 1) := by decide +kernel
theorem dX9_solutionColor_74 : decode cX9_solutionColor 74 = .ok (.getfield 12, 3) := by decide +kernel
theorem dX9_solutionColor_77 : decode cX9_solutionColor 77 = .ok (.iload_n 2, 1) := by decide +kernel
theorem dX9_solutionColor_78 : decode cX9_solutionColor 78 = .ok (.iload_n 3, 1) := by decide +kernel
theorem dX9_solutionColor_79 : decode cX9_solutionColor 79 = .ok (.invokevirtual 169, 3) := by decide +kernel
theorem dX9_solutionColor_82 : decode cX9_solutionColor 82 = .ok (.invokevirtual 259, 3) := by decide +kernel
theorem dX9_solutionColor_85 : decode cX9_solutionColor 85 = .ok (.goto 5, 3) := by decide +kernel
theorem dX9_solutionColor_88 : decode cX9_solutionColor 88 = .ok (.bipush (-8), 2) := by decide +kernel
theorem dX9_solutionColor_90 : decode cX9_solutionColor 90 = .ok (.ireturn, 1) := by decide +kernel
theorem dX9_searchNodes_0 : decode cX9_searchNodes 0 = .ok (.iload_n 1, 1) := by decide +kernel
theorem dX9_searchNodes_1 : decode cX9_searchNodes 1 = .ok (.iconst 1, 1) := by decide +kernel
theorem dX9_searchNodes_2 : decode cX9_searchNodes 2 = .ok (.bipush 20, 2) := by decide +kernel
theorem dX9_searchNodes_4 : decode cX9_searchNodes 4 = .ok (.invokestatic 101, 3) := by decide +kernel
theorem dX9_searchNodes_7 : decode cX9_searchNodes 7 = .ok (.ifCond .ne 6, 3) := by decide +kernel
theorem dX9_searchNodes_10 : decode cX9_searchNodes 10 = .ok (.bipush (-2), 2) := by decide +kernel
theorem dX9_searchNodes_12 : decode cX9_searchNodes 12 = .ok (.ireturn, 1) := by decide +kernel
theorem dX9_searchNodes_13 : decode cX9_searchNodes 13 = .ok (.aload_n 0, 1) := by decide +kernel
theorem dX9_searchNodes_14 : decode cX9_searchNodes 14 = .ok (.getfield 57, 3) := by decide +kernel
theorem dX9_searchNodes_17 : decode cX9_searchNodes 17 = .ok (.aload_n 0, 1) := by decide +kernel
theorem dX9_searchNodes_18 : decode cX9_searchNodes 18 = .ok (.getfield 12, 3) := by decide +kernel
theorem dX9_searchNodes_21 : decode cX9_searchNodes 21 = .ok (.aload_n 0, 1) := by decide +kernel
theorem dX9_searchNodes_22 : decode cX9_searchNodes 22 = .ok (.getfield 61, 3) := by decide +kernel
theorem dX9_searchNodes_25 : decode cX9_searchNodes 25 = .ok (.iload_n 1, 1) := by decide +kernel
theorem dX9_searchNodes_26 : decode cX9_searchNodes 26 = .ok (.invokevirtual 249, 3) := by decide +kernel
theorem dX9_searchNodes_29 : decode cX9_searchNodes 29 = .ok (.aload_n 0, 1) := by decide +kernel
theorem dX9_searchNodes_30 : decode cX9_searchNodes 30 = .ok (.getfield 57, 3) := by decide +kernel
theorem dX9_searchNodes_33 : decode cX9_searchNodes 33 = .ok (.getfield 253, 3) := by decide +kernel
theorem dX9_searchNodes_36 : decode cX9_searchNodes 36 = .ok (.ifCond .eq 8, 3) := by decide +kernel
theorem dX9_searchNodes_39 : decode cX9_searchNodes 39 = .ok (.bipush (-7), 2) := by decide +kernel
theorem dX9_searchNodes_41 : decode cX9_searchNodes 41 = .ok (.goto 10, 3) := by decide +kernel
theorem dX9_searchNodes_44 : decode cX9_searchNodes 44 = .ok (.aload_n 0, 1) := by decide +kernel
theorem dX9_searchNodes_45 : decode cX9_searchNodes 45 = .ok (.getfield 57, 3) := by decide +kernel
theorem dX9_searchNodes_48 : decode cX9_searchNodes 48 = .ok (.getfield 262, 3) := by decide +kernel
theorem dX9_searchNodes_51 : decode cX9_searchNodes 51 = .ok (.ireturn, 1) := by decide +kernel
theorem dX9_isUnique_0 : decode cX9_isUnique 0 = .ok (.aload_n 0, 1) := by decide +kernel
theorem dX9_isUnique_1 : decode cX9_isUnique 1 = .ok (.getfield 57, 3) := by decide +kernel
theorem dX9_isUnique_4 : decode cX9_isUnique 4 = .ok (.aload_n 0, 1) := by decide +kernel
theorem dX9_isUnique_5 : decode cX9_isUnique 5 = .ok (.getfield 12, 3) := by decide +kernel
theorem dX9_isUnique_8 : decode cX9_isUnique 8 = .ok (.aload_n 0, 1) := by decide +kernel
theorem dX9_isUnique_9 : decode cX9_isUnique 9 = .ok (.getfield 61, 3) := by decide +kernel
theorem dX9_isUnique_12 : decode cX9_isUnique 12 = .ok (.iconst 2, 1) := by decide +kernel
theorem dX9_isUnique_13 : decode cX9_isUnique 13 = .ok (.invokevirtual 249, 3) := by decide +kernel
theorem dX9_isUnique_16 : decode cX9_isUnique 16 = .ok (.aload_n 0, 1) := by decide +kernel
theorem dX9_isUnique_17 : decode cX9_isUnique 17 = .ok (.getfield 57, 3) := by decide +kernel
theorem dX9_isUnique_20 : decode cX9_isUnique 20 = .ok (.getfield 253, 3) := by decide +kernel
theorem dX9_isUnique_23 : decode cX9_isUnique 23 = .ok (.ifCond .eq 6, 3) := by decide +kernel
theorem dX9_isUnique_26 : decode cX9_isUnique 26 = .ok (.bipush (-7), 2) := by decide +kernel
theorem dX9_isUnique_28 : decode cX9_isUnique 28 = .ok (.ireturn, 1) := by decide +kernel
theorem dX9_isUnique_29 : decode cX9_isUnique 29 = .ok (.aload_n 0, 1) := by decide +kernel
theorem dX9_isUnique_30 : decode cX9_isUnique 30 = .ok (.getfield 57, 3) := by decide +kernel
theorem dX9_isUnique_33 : decode cX9_isUnique 33 = .ok (.getfield 256, 3) := by decide +kernel
theorem dX9_isUnique_36 : decode cX9_isUnique 36 = .ok (.iconst 1, 1) := by decide +kernel
theorem dX9_isUnique_37 : decode cX9_isUnique 37 = .ok (.if_icmp .ne 7, 3) := by decide +kernel
theorem dX9_isUnique_40 : decode cX9_isUnique 40 = .ok (.iconst 1, 1) := by decide +kernel
theorem dX9_isUnique_41 : decode cX9_isUnique 41 = .ok (.goto 4, 3) := by decide +kernel
theorem dX9_isUnique_44 : decode cX9_isUnique 44 = .ok (.iconst 0, 1) := by decide +kernel
theorem dX9_isUnique_45 : decode cX9_isUnique 45 = .ok (.ireturn, 1) := by decide +kernel
theorem dX9_firstMismatch_0 : decode cX9_firstMismatch 0 = .ok (.aload_n 0, 1) := by decide +kernel
theorem dX9_firstMismatch_1 : decode cX9_firstMismatch 1 = .ok (.getfield 12, 3) := by decide +kernel
theorem dX9_firstMismatch_4 : decode cX9_firstMismatch 4 = .ok (.invokevirtual 265, 3) := by decide +kernel
theorem dX9_firstMismatch_7 : decode cX9_firstMismatch 7 = .ok (.ifCond .ne 6, 3) := by decide +kernel
theorem dX9_firstMismatch_10 : decode cX9_firstMismatch 10 = .ok (.bipush (-6), 2) := by decide +kernel
theorem dX9_firstMismatch_12 : decode cX9_firstMismatch 12 = .ok (.ireturn, 1) := by decide +kernel
theorem dX9_firstMismatch_13 : decode cX9_firstMismatch 13 = .ok (.iconst 0, 1) := by decide +kernel
theorem dX9_firstMismatch_14 : decode cX9_firstMismatch 14 = .ok (.istore_n 1, 1) := by decide +kernel
theorem dX9_firstMismatch_15 : decode cX9_firstMismatch 15 = .ok (.iload_n 1, 1) := by decide +kernel
theorem dX9_firstMismatch_16 : decode cX9_firstMismatch 16 = .ok (.aload_n 0, 1) := by decide +kernel
theorem dX9_firstMismatch_17 : decode cX9_firstMismatch 17 = .ok (.getfield 12, 3) := by decide +kernel
theorem dX9_firstMismatch_20 : decode cX9_firstMismatch 20 = .ok (.invokevirtual 111, 3) := by decide +kernel
theorem dX9_firstMismatch_23 : decode cX9_firstMismatch 23 = .ok (.if_icmp .ge 33, 3) := by decide +kernel
theorem dX9_firstMismatch_26 : decode cX9_firstMismatch 26 = .ok (.aload_n 0, 1) := by decide +kernel
theorem dX9_firstMismatch_27 : decode cX9_firstMismatch 27 = .ok (.getfield 36, 3) := by decide +kernel
theorem dX9_firstMismatch_30 : decode cX9_firstMismatch 30 = .ok (.aload_n 0, 1) := by decide +kernel
theorem dX9_firstMismatch_31 : decode cX9_firstMismatch 31 = .ok (.getfield 12, 3) := by decide +kernel
theorem dX9_firstMismatch_34 : decode cX9_firstMismatch 34 = .ok (.iload_n 1, 1) := by decide +kernel
theorem dX9_firstMismatch_35 : decode cX9_firstMismatch 35 = .ok (.invokevirtual 199, 3) := by decide +kernel
theorem dX9_firstMismatch_38 : decode cX9_firstMismatch 38 = .ok (.aload_n 0, 1) := by decide +kernel
theorem dX9_firstMismatch_39 : decode cX9_firstMismatch 39 = .ok (.getfield 36, 3) := by decide +kernel
theorem dX9_firstMismatch_42 : decode cX9_firstMismatch 42 = .ok (.invokevirtual 203, 3) := by decide +kernel
theorem dX9_firstMismatch_45 : decode cX9_firstMismatch 45 = .ok (.ifCond .ne 5, 3) := by decide +kernel
theorem dX9_firstMismatch_48 : decode cX9_firstMismatch 48 = .ok (.iload_n 1, 1) := by decide +kernel
theorem dX9_firstMismatch_49 : decode cX9_firstMismatch 49 = .ok (.ireturn, 1) := by decide +kernel
theorem dX9_firstMismatch_50 : decode cX9_firstMismatch 50 = .ok (.iinc 1 1, 3) := by decide +kernel
theorem dX9_firstMismatch_53 : decode cX9_firstMismatch 53 = .ok (.goto (-38), 3) := by decide +kernel
theorem dX9_firstMismatch_56 : decode cX9_firstMismatch 56 = .ok (.bipush (-8), 2) := by decide +kernel
theorem dX9_firstMismatch_58 : decode cX9_firstMismatch 58 = .ok (.ireturn, 1) := by decide +kernel
theorem dX9_takeClues_0 : decode cX9_takeClues 0 = .ok (.aload_n 0, 1) := by decide +kernel
theorem dX9_takeClues_1 : decode cX9_takeClues 1 = .ok (.getfield 12, 3) := by decide +kernel
theorem dX9_takeClues_4 : decode cX9_takeClues 4 = .ok (.invokevirtual 265, 3) := by decide +kernel
theorem dX9_takeClues_7 : decode cX9_takeClues 7 = .ok (.ifCond .ne 6, 3) := by decide +kernel
theorem dX9_takeClues_10 : decode cX9_takeClues 10 = .ok (.bipush (-6), 2) := by decide +kernel
theorem dX9_takeClues_12 : decode cX9_takeClues 12 = .ok (.ireturn, 1) := by decide +kernel
theorem dX9_takeClues_13 : decode cX9_takeClues 13 = .ok (.aload_n 0, 1) := by decide +kernel
theorem dX9_takeClues_14 : decode cX9_takeClues 14 = .ok (.getfield 29, 3) := by decide +kernel
theorem dX9_takeClues_17 : decode cX9_takeClues 17 = .ok (.aload_n 0, 1) := by decide +kernel
theorem dX9_takeClues_18 : decode cX9_takeClues 18 = .ok (.getfield 12, 3) := by decide +kernel
theorem dX9_takeClues_21 : decode cX9_takeClues 21 = .ok (.invokevirtual 134, 3) := by decide +kernel
theorem dX9_takeClues_24 : decode cX9_takeClues 24 = .ok (.aload_n 0, 1) := by decide +kernel
theorem dX9_takeClues_25 : decode cX9_takeClues 25 = .ok (.getfield 12, 3) := by decide +kernel
theorem dX9_takeClues_28 : decode cX9_takeClues 28 = .ok (.invokevirtual 269, 3) := by decide +kernel
theorem dX9_takeClues_31 : decode cX9_takeClues 31 = .ok (.aload_n 0, 1) := by decide +kernel
theorem dX9_takeClues_32 : decode cX9_takeClues 32 = .ok (.getfield 12, 3) := by decide +kernel
theorem dX9_takeClues_35 : decode cX9_takeClues 35 = .ok (.getfield 128, 3) := by decide +kernel
theorem dX9_takeClues_38 : decode cX9_takeClues 38 = .ok (.invokevirtual 272, 3) := by decide +kernel
theorem dX9_takeClues_41 : decode cX9_takeClues 41 = .ok (.ireturn, 1) := by decide +kernel
theorem dX9_drawPicture_0 : decode cX9_drawPicture 0 = .ok (.iload_n 1, 1) := by decide +kernel
theorem dX9_drawPicture_1 : decode cX9_drawPicture 1 = .ok (.istore_n 2, 1) := by decide +kernel
theorem dX9_drawPicture_2 : decode cX9_drawPicture 2 = .ok (.iconst 0, 1) := by decide +kernel
theorem dX9_drawPicture_3 : decode cX9_drawPicture 3 = .ok (.istore_n 3, 1) := by decide +kernel
theorem dX9_drawPicture_4 : decode cX9_drawPicture 4 = .ok (.iconst 0, 1) := by decide +kernel
theorem dX9_drawPicture_5 : decode cX9_drawPicture 5 = .ok (.istore 4, 2) := by decide +kernel
theorem dX9_drawPicture_7 : decode cX9_drawPicture 7 = .ok (.iload 4, 2) := by decide +kernel
theorem dX9_drawPicture_9 : decode cX9_drawPicture 9 = .ok (.aload_n 0, 1) := by decide +kernel
theorem dX9_drawPicture_10 : decode cX9_drawPicture 10 = .ok (.getfield 12, 3) := by decide +kernel
theorem dX9_drawPicture_13 : decode cX9_drawPicture 13 = .ok (.invokevirtual 275, 3) := by decide +kernel
theorem dX9_drawPicture_16 : decode cX9_drawPicture 16 = .ok (.if_icmp .ge 57, 3) := by decide +kernel
theorem dX9_drawPicture_19 : decode cX9_drawPicture 19 = .ok (.iload_n 2, 1) := by decide +kernel
theorem dX9_drawPicture_20 : decode cX9_drawPicture 20 = .ok (.ldc_w 278, 3) := by decide +kernel
theorem dX9_drawPicture_23 : decode cX9_drawPicture 23 = .ok (.imul, 1) := by decide +kernel
theorem dX9_drawPicture_24 : decode cX9_drawPicture 24 = .ok (.sipush 12345, 3) := by decide +kernel
theorem dX9_drawPicture_27 : decode cX9_drawPicture 27 = .ok (.iadd, 1) := by decide +kernel
theorem dX9_drawPicture_28 : decode cX9_drawPicture 28 = .ok (.istore_n 2, 1) := by decide +kernel
theorem dX9_drawPicture_29 : decode cX9_drawPicture 29 = .ok (.iload_n 2, 1) := by decide +kernel
theorem dX9_drawPicture_30 : decode cX9_drawPicture 30 = .ok (.bipush 16, 2) := by decide +kernel
theorem dX9_drawPicture_32 : decode cX9_drawPicture 32 = .ok (.iushr, 1) := by decide +kernel
theorem dX9_drawPicture_33 : decode cX9_drawPicture 33 = .ok (.aload_n 0, 1) := by decide +kernel
theorem dX9_drawPicture_34 : decode cX9_drawPicture 34 = .ok (.getfield 12, 3) := by decide +kernel
theorem dX9_drawPicture_37 : decode cX9_drawPicture 37 = .ok (.getfield 121, 3) := by decide +kernel
theorem dX9_drawPicture_40 : decode cX9_drawPicture 40 = .ok (.iconst 1, 1) := by decide +kernel
theorem dX9_drawPicture_41 : decode cX9_drawPicture 41 = .ok (.iadd, 1) := by decide +kernel
theorem dX9_drawPicture_42 : decode cX9_drawPicture 42 = .ok (.irem, 1) := by decide +kernel
theorem dX9_drawPicture_43 : decode cX9_drawPicture 43 = .ok (.istore 5, 2) := by decide +kernel
theorem dX9_drawPicture_45 : decode cX9_drawPicture 45 = .ok (.aload_n 0, 1) := by decide +kernel
theorem dX9_drawPicture_46 : decode cX9_drawPicture 46 = .ok (.getfield 12, 3) := by decide +kernel
theorem dX9_drawPicture_49 : decode cX9_drawPicture 49 = .ok (.getfield 165, 3) := by decide +kernel
theorem dX9_drawPicture_52 : decode cX9_drawPicture 52 = .ok (.iload 4, 2) := by decide +kernel
theorem dX9_drawPicture_54 : decode cX9_drawPicture 54 = .ok (.iconst 1, 1) := by decide +kernel
theorem dX9_drawPicture_55 : decode cX9_drawPicture 55 = .ok (.iload 5, 2) := by decide +kernel
theorem dX9_drawPicture_57 : decode cX9_drawPicture 57 = .ok (.ishl, 1) := by decide +kernel
theorem dX9_drawPicture_58 : decode cX9_drawPicture 58 = .ok (.iastore, 1) := by decide +kernel
theorem dX9_drawPicture_59 : decode cX9_drawPicture 59 = .ok (.iload 5, 2) := by decide +kernel
theorem dX9_drawPicture_61 : decode cX9_drawPicture 61 = .ok (.ifCond .eq 6, 3) := by decide +kernel
theorem dX9_drawPicture_64 : decode cX9_drawPicture 64 = .ok (.iinc 3 1, 3) := by decide +kernel
theorem dX9_drawPicture_67 : decode cX9_drawPicture 67 = .ok (.iinc 4 1, 3) := by decide +kernel
theorem dX9_drawPicture_70 : decode cX9_drawPicture 70 = .ok (.goto (-63), 3) := by decide +kernel
theorem dX9_drawPicture_73 : decode cX9_drawPicture 73 = .ok (.aload_n 0, 1) := by decide +kernel
theorem dX9_drawPicture_74 : decode cX9_drawPicture 74 = .ok (.getfield 12, 3) := by decide +kernel
theorem dX9_drawPicture_77 : decode cX9_drawPicture 77 = .ok (.invokevirtual 269, 3) := by decide +kernel
theorem dX9_drawPicture_80 : decode cX9_drawPicture 80 = .ok (.aload_n 0, 1) := by decide +kernel
theorem dX9_drawPicture_81 : decode cX9_drawPicture 81 = .ok (.getfield 29, 3) := by decide +kernel
theorem dX9_drawPicture_84 : decode cX9_drawPicture 84 = .ok (.invokevirtual 105, 3) := by decide +kernel
theorem dX9_drawPicture_87 : decode cX9_drawPicture 87 = .ok (.iload_n 3, 1) := by decide +kernel
theorem dX9_drawPicture_88 : decode cX9_drawPicture 88 = .ok (.ireturn, 1) := by decide +kernel
theorem dX9_clearCells_0 : decode cX9_clearCells 0 = .ok (.aload_n 0, 1) := by decide +kernel
theorem dX9_clearCells_1 : decode cX9_clearCells 1 = .ok (.getfield 12, 3) := by decide +kernel
theorem dX9_clearCells_4 : decode cX9_clearCells 4 = .ok (.invokevirtual 190, 3) := by decide +kernel
theorem dX9_clearCells_7 : decode cX9_clearCells 7 = .ok (.istore_n 1, 1) := by decide +kernel
theorem dX9_clearCells_8 : decode cX9_clearCells 8 = .ok (.aload_n 0, 1) := by decide +kernel
theorem dX9_clearCells_9 : decode cX9_clearCells 9 = .ok (.getfield 12, 3) := by decide +kernel
theorem dX9_clearCells_12 : decode cX9_clearCells 12 = .ok (.invokevirtual 279, 3) := by decide +kernel
theorem dX9_clearCells_15 : decode cX9_clearCells 15 = .ok (.aload_n 0, 1) := by decide +kernel
theorem dX9_clearCells_16 : decode cX9_clearCells 16 = .ok (.getfield 29, 3) := by decide +kernel
theorem dX9_clearCells_19 : decode cX9_clearCells 19 = .ok (.invokevirtual 105, 3) := by decide +kernel
theorem dX9_clearCells_22 : decode cX9_clearCells 22 = .ok (.iload_n 1, 1) := by decide +kernel
theorem dX9_clearCells_23 : decode cX9_clearCells 23 = .ok (.ireturn, 1) := by decide +kernel
theorem dX9_appendText_0 : decode cX9_appendText 0 = .ok (.iload_n 1, 1) := by decide +kernel
theorem dX9_appendText_1 : decode cX9_appendText 1 = .ok (.bipush 32, 2) := by decide +kernel
theorem dX9_appendText_3 : decode cX9_appendText 3 = .ok (.bipush 126, 2) := by decide +kernel
theorem dX9_appendText_5 : decode cX9_appendText 5 = .ok (.invokestatic 101, 3) := by decide +kernel
theorem dX9_appendText_8 : decode cX9_appendText 8 = .ok (.ifCond .ne 6, 3) := by decide +kernel
theorem dX9_appendText_11 : decode cX9_appendText 11 = .ok (.bipush (-2), 2) := by decide +kernel
theorem dX9_appendText_13 : decode cX9_appendText 13 = .ok (.ireturn, 1) := by decide +kernel
theorem dX9_appendText_14 : decode cX9_appendText 14 = .ok (.aload_n 0, 1) := by decide +kernel
theorem dX9_appendText_15 : decode cX9_appendText 15 = .ok (.getfield 76, 3) := by decide +kernel
theorem dX9_appendText_18 : decode cX9_appendText 18 = .ok (.iload_n 1, 1) := by decide +kernel
theorem dX9_appendText_19 : decode cX9_appendText 19 = .ok (.invokevirtual 282, 3) := by decide +kernel
theorem dX9_appendText_22 : decode cX9_appendText 22 = .ok (.ifCond .eq 13, 3) := by decide +kernel
theorem dX9_appendText_25 : decode cX9_appendText 25 = .ok (.aload_n 0, 1) := by decide +kernel
theorem dX9_appendText_26 : decode cX9_appendText 26 = .ok (.getfield 76, 3) := by decide +kernel
theorem dX9_appendText_29 : decode cX9_appendText 29 = .ok (.getfield 284, 3) := by decide +kernel
theorem dX9_appendText_32 : decode cX9_appendText 32 = .ok (.goto 5, 3) := by decide +kernel
theorem dX9_appendText_35 : decode cX9_appendText 35 = .ok (.bipush (-3), 2) := by decide +kernel
theorem dX9_appendText_37 : decode cX9_appendText 37 = .ok (.ireturn, 1) := by decide +kernel
theorem dX9_parseClues_0 : decode cX9_parseClues 0 = .ok (.aload_n 0, 1) := by decide +kernel
theorem dX9_parseClues_1 : decode cX9_parseClues 1 = .ok (.invokevirtual 287, 3) := by decide +kernel
theorem dX9_parseClues_4 : decode cX9_parseClues 4 = .ok (.istore_n 1, 1) := by decide +kernel
theorem dX9_parseClues_5 : decode cX9_parseClues 5 = .ok (.aload_n 0, 1) := by decide +kernel
theorem dX9_parseClues_6 : decode cX9_parseClues 6 = .ok (.getfield 76, 3) := by decide +kernel
theorem dX9_parseClues_9 : decode cX9_parseClues 9 = .ok (.invokevirtual 290, 3) := by decide +kernel
theorem dX9_parseClues_12 : decode cX9_parseClues 12 = .ok (.iload_n 1, 1) := by decide +kernel
theorem dX9_parseClues_13 : decode cX9_parseClues 13 = .ok (.ifCond .lt 28, 3) := by decide +kernel
theorem dX9_parseClues_16 : decode cX9_parseClues 16 = .ok (.aload_n 0, 1) := by decide +kernel
theorem dX9_parseClues_17 : decode cX9_parseClues 17 = .ok (.getfield 29, 3) := by decide +kernel
theorem dX9_parseClues_20 : decode cX9_parseClues 20 = .ok (.aload_n 0, 1) := by decide +kernel
theorem dX9_parseClues_21 : decode cX9_parseClues 21 = .ok (.getfield 12, 3) := by decide +kernel
theorem dX9_parseClues_24 : decode cX9_parseClues 24 = .ok (.invokevirtual 134, 3) := by decide +kernel
theorem dX9_parseClues_27 : decode cX9_parseClues 27 = .ok (.aload_n 0, 1) := by decide +kernel
theorem dX9_parseClues_28 : decode cX9_parseClues 28 = .ok (.getfield 12, 3) := by decide +kernel
theorem dX9_parseClues_31 : decode cX9_parseClues 31 = .ok (.getfield 128, 3) := by decide +kernel
theorem dX9_parseClues_34 : decode cX9_parseClues 34 = .ok (.aload_n 0, 1) := by decide +kernel
theorem dX9_parseClues_35 : decode cX9_parseClues 35 = .ok (.getfield 86, 3) := by decide +kernel
theorem dX9_parseClues_38 : decode cX9_parseClues 38 = .ok (.invokevirtual 293, 3) := by decide +kernel
theorem dX9_parseClues_41 : decode cX9_parseClues 41 = .ok (.iload_n 1, 1) := by decide +kernel
theorem dX9_parseClues_42 : decode cX9_parseClues 42 = .ok (.ireturn, 1) := by decide +kernel
theorem dX9_formatClues_0 : decode cX9_formatClues 0 = .ok (.aload_n 0, 1) := by decide +kernel
theorem dX9_formatClues_1 : decode cX9_formatClues 1 = .ok (.getfield 80, 3) := by decide +kernel
theorem dX9_formatClues_4 : decode cX9_formatClues 4 = .ok (.invokevirtual 290, 3) := by decide +kernel
theorem dX9_formatClues_7 : decode cX9_formatClues 7 = .ok (.iconst 0, 1) := by decide +kernel
theorem dX9_formatClues_8 : decode cX9_formatClues 8 = .ok (.istore_n 1, 1) := by decide +kernel
theorem dX9_formatClues_9 : decode cX9_formatClues 9 = .ok (.iload_n 1, 1) := by decide +kernel
theorem dX9_formatClues_10 : decode cX9_formatClues 10 = .ok (.aload_n 0, 1) := by decide +kernel
theorem dX9_formatClues_11 : decode cX9_formatClues 11 = .ok (.getfield 12, 3) := by decide +kernel
theorem dX9_formatClues_14 : decode cX9_formatClues 14 = .ok (.invokevirtual 111, 3) := by decide +kernel
theorem dX9_formatClues_17 : decode cX9_formatClues 17 = .ok (.if_icmp .ge 94, 3) := by decide +kernel
theorem dX9_formatClues_20 : decode cX9_formatClues 20 = .ok (.iload_n 1, 1) := by decide +kernel
theorem dX9_formatClues_21 : decode cX9_formatClues 21 = .ok (.ifCond .le 13, 3) := by decide +kernel
theorem dX9_formatClues_24 : decode cX9_formatClues 24 = .ok (.aload_n 0, 1) := by decide +kernel
theorem dX9_formatClues_25 : decode cX9_formatClues 25 = .ok (.getfield 80, 3) := by decide +kernel
theorem dX9_formatClues_28 : decode cX9_formatClues 28 = .ok (.bipush 47, 2) := by decide +kernel
theorem dX9_formatClues_30 : decode cX9_formatClues 30 = .ok (.invokevirtual 282, 3) := by decide +kernel
theorem dX9_formatClues_33 : decode cX9_formatClues 33 = .ok (.pop, 1) := by decide +kernel
theorem dX9_formatClues_34 : decode cX9_formatClues 34 = .ok (.iconst 0, 1) := by decide +kernel
theorem dX9_formatClues_35 : decode cX9_formatClues 35 = .ok (.istore_n 2, 1) := by decide +kernel
theorem dX9_formatClues_36 : decode cX9_formatClues 36 = .ok (.iload_n 2, 1) := by decide +kernel
theorem dX9_formatClues_37 : decode cX9_formatClues 37 = .ok (.aload_n 0, 1) := by decide +kernel
theorem dX9_formatClues_38 : decode cX9_formatClues 38 = .ok (.getfield 12, 3) := by decide +kernel
theorem dX9_formatClues_41 : decode cX9_formatClues 41 = .ok (.getfield 128, 3) := by decide +kernel
theorem dX9_formatClues_44 : decode cX9_formatClues 44 = .ok (.iload_n 1, 1) := by decide +kernel
theorem dX9_formatClues_45 : decode cX9_formatClues 45 = .ok (.invokevirtual 141, 3) := by decide +kernel
theorem dX9_formatClues_48 : decode cX9_formatClues 48 = .ok (.if_icmp .ge 57, 3) := by decide +kernel
theorem dX9_formatClues_51 : decode cX9_formatClues 51 = .ok (.aload_n 0, 1) := by decide +kernel
theorem dX9_formatClues_52 : decode cX9_formatClues 52 = .ok (.getfield 80, 3) := by decide +kernel
theorem dX9_formatClues_55 : decode cX9_formatClues 55 = .ok (.bipush 48, 2) := by decide +kernel
theorem dX9_formatClues_57 : decode cX9_formatClues 57 = .ok (.aload_n 0, 1) := by decide +kernel
theorem dX9_formatClues_58 : decode cX9_formatClues 58 = .ok (.getfield 12, 3) := by decide +kernel
theorem dX9_formatClues_61 : decode cX9_formatClues 61 = .ok (.getfield 128, 3) := by decide +kernel
theorem dX9_formatClues_64 : decode cX9_formatClues 64 = .ok (.iload_n 1, 1) := by decide +kernel
theorem dX9_formatClues_65 : decode cX9_formatClues 65 = .ok (.iload_n 2, 1) := by decide +kernel
theorem dX9_formatClues_66 : decode cX9_formatClues 66 = .ok (.invokevirtual 152, 3) := by decide +kernel
theorem dX9_formatClues_69 : decode cX9_formatClues 69 = .ok (.iadd, 1) := by decide +kernel
theorem dX9_formatClues_70 : decode cX9_formatClues 70 = .ok (.invokevirtual 282, 3) := by decide +kernel
theorem dX9_formatClues_73 : decode cX9_formatClues 73 = .ok (.pop, 1) := by decide +kernel
theorem dX9_formatClues_74 : decode cX9_formatClues 74 = .ok (.aload_n 0, 1) := by decide +kernel
theorem dX9_formatClues_75 : decode cX9_formatClues 75 = .ok (.getfield 80, 3) := by decide +kernel
theorem dX9_formatClues_78 : decode cX9_formatClues 78 = .ok (.bipush 97, 2) := by decide +kernel
theorem dX9_formatClues_80 : decode cX9_formatClues 80 = .ok (.aload_n 0, 1) := by decide +kernel
theorem dX9_formatClues_81 : decode cX9_formatClues 81 = .ok (.getfield 12, 3) := by decide +kernel
theorem dX9_formatClues_84 : decode cX9_formatClues 84 = .ok (.getfield 128, 3) := by decide +kernel
theorem dX9_formatClues_87 : decode cX9_formatClues 87 = .ok (.iload_n 1, 1) := by decide +kernel
theorem dX9_formatClues_88 : decode cX9_formatClues 88 = .ok (.iload_n 2, 1) := by decide +kernel
theorem dX9_formatClues_89 : decode cX9_formatClues 89 = .ok (.invokevirtual 156, 3) := by decide +kernel
theorem dX9_formatClues_92 : decode cX9_formatClues 92 = .ok (.iadd, 1) := by decide +kernel
theorem dX9_formatClues_93 : decode cX9_formatClues 93 = .ok (.iconst 1, 1) := by decide +kernel
theorem dX9_formatClues_94 : decode cX9_formatClues 94 = .ok (.isub, 1) := by decide +kernel
theorem dX9_formatClues_95 : decode cX9_formatClues 95 = .ok (.invokevirtual 282, 3) := by decide +kernel
theorem dX9_formatClues_98 : decode cX9_formatClues 98 = .ok (.pop, 1) := by decide +kernel
theorem dX9_formatClues_99 : decode cX9_formatClues 99 = .ok (.iinc 2 1, 3) := by decide +kernel
theorem dX9_formatClues_102 : decode cX9_formatClues 102 = .ok (.goto (-66), 3) := by decide +kernel
theorem dX9_formatClues_105 : decode cX9_formatClues 105 = .ok (.iinc 1 1, 3) := by decide +kernel
theorem dX9_formatClues_108 : decode cX9_formatClues 108 = .ok (.goto (-99), 3) := by decide +kernel
theorem dX9_formatClues_111 : decode cX9_formatClues 111 = .ok (.aload_n 0, 1) := by decide +kernel
theorem dX9_formatClues_112 : decode cX9_formatClues 112 = .ok (.getfield 80, 3) := by decide +kernel
theorem dX9_formatClues_115 : decode cX9_formatClues 115 = .ok (.getfield 284, 3) := by decide +kernel
theorem dX9_formatClues_118 : decode cX9_formatClues 118 = .ok (.ireturn, 1) := by decide +kernel
theorem dX9_formattedCharacter_0 : decode cX9_formattedCharacter 0 = .ok (.iload_n 1, 1) := by decide +kernel
theorem dX9_formattedCharacter_1 : decode cX9_formattedCharacter 1 = .ok (.iconst 0, 1) := by decide +kernel
theorem dX9_formattedCharacter_2 : decode cX9_formattedCharacter 2 = .ok (.aload_n 0, 1) := by decide +kernel
theorem dX9_formattedCharacter_3 : decode cX9_formattedCharacter 3 = .ok (.getfield 80, 3) := by decide +kernel
theorem dX9_formattedCharacter_6 : decode cX9_formattedCharacter 6 = .ok (.getfield 284, 3) := by decide +kernel
theorem dX9_formattedCharacter_9 : decode cX9_formattedCharacter 9 = .ok (.iconst 1, 1) := by decide +kernel
theorem dX9_formattedCharacter_10 : decode cX9_formattedCharacter 10 = .ok (.isub, 1) := by decide +kernel
theorem dX9_formattedCharacter_11 : decode cX9_formattedCharacter 11 = .ok (.invokestatic 101, 3) := by decide +kernel
theorem dX9_formattedCharacter_14 : decode cX9_formattedCharacter 14 = .ok (.ifCond .eq 15, 3) := by decide +kernel
theorem dX9_formattedCharacter_17 : decode cX9_formattedCharacter 17 = .ok (.aload_n 0, 1) := by decide +kernel
theorem dX9_formattedCharacter_18 : decode cX9_formattedCharacter 18 = .ok (.getfield 80, 3) := by decide +kernel
theorem dX9_formattedCharacter_21 : decode cX9_formattedCharacter 21 = .ok (.getfield 296, 3) := by decide +kernel
theorem dX9_formattedCharacter_24 : decode cX9_formattedCharacter 24 = .ok (.iload_n 1, 1) := by decide +kernel
theorem dX9_formattedCharacter_25 : decode cX9_formattedCharacter 25 = .ok (.iaload, 1) := by decide +kernel
theorem dX9_formattedCharacter_26 : decode cX9_formattedCharacter 26 = .ok (.goto 4, 3) := by decide +kernel
theorem dX9_formattedCharacter_29 : decode cX9_formattedCharacter 29 = .ok (.iconst (-1), 1) := by decide +kernel
theorem dX9_formattedCharacter_30 : decode cX9_formattedCharacter 30 = .ok (.ireturn, 1) := by decide +kernel
theorem dX9_undo_0 : decode cX9_undo 0 = .ok (.aload_n 0, 1) := by decide +kernel
theorem dX9_undo_1 : decode cX9_undo 1 = .ok (.getfield 29, 3) := by decide +kernel
theorem dX9_undo_4 : decode cX9_undo 4 = .ok (.aload_n 0, 1) := by decide +kernel
theorem dX9_undo_5 : decode cX9_undo 5 = .ok (.getfield 12, 3) := by decide +kernel
theorem dX9_undo_8 : decode cX9_undo 8 = .ok (.invokevirtual 299, 3) := by decide +kernel
theorem dX9_undo_11 : decode cX9_undo 11 = .ok (.ifCond .eq 13, 3) := by decide +kernel
theorem dX9_undo_14 : decode cX9_undo 14 = .ok (.aload_n 0, 1) := by decide +kernel
theorem dX9_undo_15 : decode cX9_undo 15 = .ok (.getfield 29, 3) := by decide +kernel
theorem dX9_undo_18 : decode cX9_undo 18 = .ok (.getfield 302, 3) := by decide +kernel
theorem dX9_undo_21 : decode cX9_undo 21 = .ok (.goto 5, 3) := by decide +kernel
theorem dX9_undo_24 : decode cX9_undo 24 = .ok (.bipush (-8), 2) := by decide +kernel
theorem dX9_undo_26 : decode cX9_undo 26 = .ok (.ireturn, 1) := by decide +kernel
theorem dX9_save_0 : decode cX9_save 0 = .ok (.aload_n 0, 1) := by decide +kernel
theorem dX9_save_1 : decode cX9_save 1 = .ok (.getfield 19, 3) := by decide +kernel
theorem dX9_save_4 : decode cX9_save 4 = .ok (.aload_n 0, 1) := by decide +kernel
theorem dX9_save_5 : decode cX9_save 5 = .ok (.getfield 12, 3) := by decide +kernel
theorem dX9_save_8 : decode cX9_save 8 = .ok (.invokevirtual 209, 3) := by decide +kernel
theorem dX9_save_11 : decode cX9_save 11 = .ok (.aload_n 0, 1) := by decide +kernel
theorem dX9_save_12 : decode cX9_save 12 = .ok (.iconst 1, 1) := by decide +kernel
theorem dX9_save_13 : decode cX9_save 13 = .ok (.putfield 22, 3) := by decide +kernel
theorem dX9_save_16 : decode cX9_save 16 = .ok (.aload_n 0, 1) := by decide +kernel
theorem dX9_save_17 : decode cX9_save 17 = .ok (.getfield 12, 3) := by decide +kernel
theorem dX9_save_20 : decode cX9_save 20 = .ok (.invokevirtual 190, 3) := by decide +kernel
theorem dX9_save_23 : decode cX9_save 23 = .ok (.ireturn, 1) := by decide +kernel
theorem dX9_restore_0 : decode cX9_restore 0 = .ok (.aload_n 0, 1) := by decide +kernel
theorem dX9_restore_1 : decode cX9_restore 1 = .ok (.getfield 22, 3) := by decide +kernel
theorem dX9_restore_4 : decode cX9_restore 4 = .ok (.ifCond .ne 6, 3) := by decide +kernel
theorem dX9_restore_7 : decode cX9_restore 7 = .ok (.bipush (-8), 2) := by decide +kernel
theorem dX9_restore_9 : decode cX9_restore 9 = .ok (.ireturn, 1) := by decide +kernel
theorem dX9_restore_10 : decode cX9_restore 10 = .ok (.aload_n 0, 1) := by decide +kernel
theorem dX9_restore_11 : decode cX9_restore 11 = .ok (.getfield 12, 3) := by decide +kernel
theorem dX9_restore_14 : decode cX9_restore 14 = .ok (.aload_n 0, 1) := by decide +kernel
theorem dX9_restore_15 : decode cX9_restore 15 = .ok (.getfield 19, 3) := by decide +kernel
theorem dX9_restore_18 : decode cX9_restore 18 = .ok (.invokevirtual 209, 3) := by decide +kernel
theorem dX9_restore_21 : decode cX9_restore 21 = .ok (.aload_n 0, 1) := by decide +kernel
theorem dX9_restore_22 : decode cX9_restore 22 = .ok (.getfield 29, 3) := by decide +kernel
theorem dX9_restore_25 : decode cX9_restore 25 = .ok (.invokevirtual 105, 3) := by decide +kernel
theorem dX9_restore_28 : decode cX9_restore 28 = .ok (.aload_n 0, 1) := by decide +kernel
theorem dX9_restore_29 : decode cX9_restore 29 = .ok (.invokevirtual 108, 3) := by decide +kernel
theorem dX9_restore_32 : decode cX9_restore 32 = .ok (.aload_n 0, 1) := by decide +kernel
theorem dX9_restore_33 : decode cX9_restore 33 = .ok (.getfield 12, 3) := by decide +kernel
theorem dX9_restore_36 : decode cX9_restore 36 = .ok (.invokevirtual 190, 3) := by decide +kernel
theorem dX9_restore_39 : decode cX9_restore 39 = .ok (.ireturn, 1) := by decide +kernel
theorem dX9_createTable_0 : decode cX9_createTable 0 = .ok (.iload_n 1, 1) := by decide +kernel
theorem dX9_createTable_1 : decode cX9_createTable 1 = .ok (.invokestatic 305, 3) := by decide +kernel
theorem dX9_createTable_4 : decode cX9_createTable 4 = .ok (.ifCond .eq 18, 3) := by decide +kernel
theorem dX9_createTable_7 : decode cX9_createTable 7 = .ok (.iload_n 2, 1) := by decide +kernel
theorem dX9_createTable_8 : decode cX9_createTable 8 = .ok (.iconst 0, 1) := by decide +kernel
theorem dX9_createTable_9 : decode cX9_createTable 9 = .ok (.iconst 2, 1) := by decide +kernel
theorem dX9_createTable_10 : decode cX9_createTable 10 = .ok (.invokestatic 101, 3) := by decide +kernel
theorem dX9_createTable_13 : decode cX9_createTable 13 = .ok (.ifCond .eq 9, 3) := by decide +kernel
theorem dX9_createTable_16 : decode cX9_createTable 16 = .ok (.iload_n 3, 1) := by decide +kernel
theorem dX9_createTable_17 : decode cX9_createTable 17 = .ok (.bipush 64, 2) := by decide +kernel
theorem dX9_createTable_19 : decode cX9_createTable 19 = .ok (.if_icmp .le 6, 3) := by decide +kernel
theorem dX9_createTable_22 : decode cX9_createTable 22 = .ok (.bipush (-2), 2) := by decide +kernel
theorem dX9_createTable_24 : decode cX9_createTable 24 = .ok (.ireturn, 1) := by decide +kernel
theorem dX9_createTable_25 : decode cX9_createTable 25 = .ok (.iload_n 3, 1) := by decide +kernel
theorem dX9_createTable_26 : decode cX9_createTable 26 = .ok (.ifCond .ge 6, 3) := by decide +kernel
theorem dX9_createTable_29 : decode cX9_createTable 29 = .ok (.bipush (-14), 2) := by decide +kernel
theorem dX9_createTable_31 : decode cX9_createTable 31 = .ok (.ireturn, 1) := by decide +kernel
theorem dX9_createTable_32 : decode cX9_createTable 32 = .ok (.aload_n 0, 1) := by decide +kernel
theorem dX9_createTable_33 : decode cX9_createTable 33 = .ok (.getfield 93, 3) := by decide +kernel
theorem dX9_createTable_36 : decode cX9_createTable 36 = .ok (.iload_n 1, 1) := by decide +kernel
theorem dX9_createTable_37 : decode cX9_createTable 37 = .ok (.aaload, 1) := by decide +kernel
theorem dX9_createTable_38 : decode cX9_createTable 38 = .ok (.iload_n 2, 1) := by decide +kernel
theorem dX9_createTable_39 : decode cX9_createTable 39 = .ok (.iload_n 3, 1) := by decide +kernel
theorem dX9_createTable_40 : decode cX9_createTable 40 = .ok (.invokevirtual 308, 3) := by decide +kernel
theorem dX9_createTable_43 : decode cX9_createTable 43 = .ok (.iconst 1, 1) := by decide +kernel
theorem dX9_createTable_44 : decode cX9_createTable 44 = .ok (.ireturn, 1) := by decide +kernel
theorem dX9_writeTable_0 : decode cX9_writeTable 0 = .ok (.aload_n 0, 1) := by decide +kernel
theorem dX9_writeTable_1 : decode cX9_writeTable 1 = .ok (.iload_n 1, 1) := by decide +kernel
theorem dX9_writeTable_2 : decode cX9_writeTable 2 = .ok (.iload_n 2, 1) := by decide +kernel
theorem dX9_writeTable_3 : decode cX9_writeTable 3 = .ok (.invokevirtual 311, 3) := by decide +kernel
theorem dX9_writeTable_6 : decode cX9_writeTable 6 = .ok (.istore 4, 2) := by decide +kernel
theorem dX9_writeTable_8 : decode cX9_writeTable 8 = .ok (.iload 4, 2) := by decide +kernel
theorem dX9_writeTable_10 : decode cX9_writeTable 10 = .ok (.ifCond .eq 6, 3) := by decide +kernel
theorem dX9_writeTable_13 : decode cX9_writeTable 13 = .ok (.iload 4, 2) := by decide +kernel
theorem dX9_writeTable_15 : decode cX9_writeTable 15 = .ok (.ireturn, 1) := by decide +kernel
theorem dX9_writeTable_16 : decode cX9_writeTable 16 = .ok (.aload_n 0, 1) := by decide +kernel
theorem dX9_writeTable_17 : decode cX9_writeTable 17 = .ok (.getfield 93, 3) := by decide +kernel
theorem dX9_writeTable_20 : decode cX9_writeTable 20 = .ok (.iload_n 1, 1) := by decide +kernel
theorem dX9_writeTable_21 : decode cX9_writeTable 21 = .ok (.aaload, 1) := by decide +kernel
theorem dX9_writeTable_22 : decode cX9_writeTable 22 = .ok (.iload_n 2, 1) := by decide +kernel
theorem dX9_writeTable_23 : decode cX9_writeTable 23 = .ok (.iload_n 3, 1) := by decide +kernel
theorem dX9_writeTable_24 : decode cX9_writeTable 24 = .ok (.invokevirtual 314, 3) := by decide +kernel
theorem dX9_writeTable_27 : decode cX9_writeTable 27 = .ok (.iconst 1, 1) := by decide +kernel
theorem dX9_writeTable_28 : decode cX9_writeTable 28 = .ok (.ireturn, 1) := by decide +kernel
theorem dX9_readTable_0 : decode cX9_readTable 0 = .ok (.aload_n 0, 1) := by decide +kernel
theorem dX9_readTable_1 : decode cX9_readTable 1 = .ok (.iload_n 1, 1) := by decide +kernel
theorem dX9_readTable_2 : decode cX9_readTable 2 = .ok (.iload_n 2, 1) := by decide +kernel
theorem dX9_readTable_3 : decode cX9_readTable 3 = .ok (.invokevirtual 311, 3) := by decide +kernel
theorem dX9_readTable_6 : decode cX9_readTable 6 = .ok (.istore_n 3, 1) := by decide +kernel
theorem dX9_readTable_7 : decode cX9_readTable 7 = .ok (.iload_n 3, 1) := by decide +kernel
theorem dX9_readTable_8 : decode cX9_readTable 8 = .ok (.ifCond .eq 7, 3) := by decide +kernel
theorem dX9_readTable_11 : decode cX9_readTable 11 = .ok (.iload_n 3, 1) := by decide +kernel
theorem dX9_readTable_12 : decode cX9_readTable 12 = .ok (.goto 14, 3) := by decide +kernel
theorem dX9_readTable_15 : decode cX9_readTable 15 = .ok (.aload_n 0, 1) := by decide +kernel
theorem dX9_readTable_16 : decode cX9_readTable 16 = .ok (.getfield 93, 3) := by decide +kernel
theorem dX9_readTable_19 : decode cX9_readTable 19 = .ok (.iload_n 1, 1) := by decide +kernel
theorem dX9_readTable_20 : decode cX9_readTable 20 = .ok (.aaload, 1) := by decide +kernel
theorem dX9_readTable_21 : decode cX9_readTable 21 = .ok (.getfield 317, 3) := by decide +kernel
theorem dX9_readTable_24 : decode cX9_readTable 24 = .ok (.iload_n 2, 1) := by decide +kernel
theorem dX9_readTable_25 : decode cX9_readTable 25 = .ok (.iaload, 1) := by decide +kernel
theorem dX9_readTable_26 : decode cX9_readTable 26 = .ok (.ireturn, 1) := by decide +kernel
theorem dX9_exportCandidates_0 : decode cX9_exportCandidates 0 = .ok (.aload_n 0, 1) := by decide +kernel
theorem dX9_exportCandidates_1 : decode cX9_exportCandidates 1 = .ok (.iload_n 1, 1) := by decide +kernel
theorem dX9_exportCandidates_2 : decode cX9_exportCandidates 2 = .ok (.invokevirtual 320, 3) := by decide +kernel
theorem dX9_exportCandidates_5 : decode cX9_exportCandidates 5 = .ok (.istore_n 2, 1) := by decide +kernel
theorem dX9_exportCandidates_6 : decode cX9_exportCandidates 6 = .ok (.iload_n 2, 1) := by decide +kernel
theorem dX9_exportCandidates_7 : decode cX9_exportCandidates 7 = .ok (.ifCond .eq 5, 3) := by decide +kernel
theorem dX9_exportCandidates_10 : decode cX9_exportCandidates 10 = .ok (.iload_n 2, 1) := by decide +kernel
theorem dX9_exportCandidates_11 : decode cX9_exportCandidates 11 = .ok (.ireturn, 1) := by decide +kernel
theorem dX9_exportCandidates_12 : decode cX9_exportCandidates 12 = .ok (.aload_n 0, 1) := by decide +kernel
theorem dX9_exportCandidates_13 : decode cX9_exportCandidates 13 = .ok (.getfield 93, 3) := by decide +kernel
theorem dX9_exportCandidates_16 : decode cX9_exportCandidates 16 = .ok (.iload_n 1, 1) := by decide +kernel
theorem dX9_exportCandidates_17 : decode cX9_exportCandidates 17 = .ok (.aaload, 1) := by decide +kernel
theorem dX9_exportCandidates_18 : decode cX9_exportCandidates 18 = .ok (.astore_n 3, 1) := by decide +kernel
theorem dX9_exportCandidates_19 : decode cX9_exportCandidates 19 = .ok (.aload_n 3, 1) := by decide +kernel
theorem dX9_exportCandidates_20 : decode cX9_exportCandidates 20 = .ok (.getfield 323, 3) := by decide +kernel
theorem dX9_exportCandidates_23 : decode cX9_exportCandidates 23 = .ok (.iconst 2, 1) := by decide +kernel
theorem dX9_exportCandidates_24 : decode cX9_exportCandidates 24 = .ok (.if_icmp .ne 6, 3) := by decide +kernel
theorem dX9_exportCandidates_27 : decode cX9_exportCandidates 27 = .ok (.bipush (-12), 2) := by decide +kernel
theorem dX9_exportCandidates_29 : decode cX9_exportCandidates 29 = .ok (.ireturn, 1) := by decide +kernel
theorem dX9_exportCandidates_30 : decode cX9_exportCandidates 30 = .ok (.aload_n 0, 1) := by decide +kernel
theorem dX9_exportCandidates_31 : decode cX9_exportCandidates 31 = .ok (.getfield 12, 3) := by decide +kernel
theorem dX9_exportCandidates_34 : decode cX9_exportCandidates 34 = .ok (.invokevirtual 275, 3) := by decide +kernel
theorem dX9_exportCandidates_37 : decode cX9_exportCandidates 37 = .ok (.istore 4, 2) := by decide +kernel
theorem dX9_exportCandidates_39 : decode cX9_exportCandidates 39 = .ok (.iconst 0, 1) := by decide +kernel
theorem dX9_exportCandidates_40 : decode cX9_exportCandidates 40 = .ok (.istore 5, 2) := by decide +kernel
theorem dX9_exportCandidates_42 : decode cX9_exportCandidates 42 = .ok (.iload 5, 2) := by decide +kernel
theorem dX9_exportCandidates_44 : decode cX9_exportCandidates 44 = .ok (.iload 4, 2) := by decide +kernel
theorem dX9_exportCandidates_46 : decode cX9_exportCandidates 46 = .ok (.aload_n 3, 1) := by decide +kernel
theorem dX9_exportCandidates_47 : decode cX9_exportCandidates 47 = .ok (.getfield 326, 3) := by decide +kernel
theorem dX9_exportCandidates_50 : decode cX9_exportCandidates 50 = .ok (.invokestatic 327, 3) := by decide +kernel
theorem dX9_exportCandidates_53 : decode cX9_exportCandidates 53 = .ok (.if_icmp .ge 25, 3) := by decide +kernel
theorem dX9_exportCandidates_56 : decode cX9_exportCandidates 56 = .ok (.aload_n 3, 1) := by decide +kernel
theorem dX9_exportCandidates_57 : decode cX9_exportCandidates 57 = .ok (.iload 5, 2) := by decide +kernel
theorem dX9_exportCandidates_59 : decode cX9_exportCandidates 59 = .ok (.aload_n 0, 1) := by decide +kernel
theorem dX9_exportCandidates_60 : decode cX9_exportCandidates 60 = .ok (.getfield 12, 3) := by decide +kernel
theorem dX9_exportCandidates_63 : decode cX9_exportCandidates 63 = .ok (.getfield 165, 3) := by decide +kernel
theorem dX9_exportCandidates_66 : decode cX9_exportCandidates 66 = .ok (.iload 5, 2) := by decide +kernel
theorem dX9_exportCandidates_68 : decode cX9_exportCandidates 68 = .ok (.iaload, 1) := by decide +kernel
theorem dX9_exportCandidates_69 : decode cX9_exportCandidates 69 = .ok (.invokevirtual 314, 3) := by decide +kernel
theorem dX9_exportCandidates_72 : decode cX9_exportCandidates 72 = .ok (.iinc 5 1, 3) := by decide +kernel
theorem dX9_exportCandidates_75 : decode cX9_exportCandidates 75 = .ok (.goto (-33), 3) := by decide +kernel
theorem dX9_exportCandidates_78 : decode cX9_exportCandidates 78 = .ok (.aload_n 3, 1) := by decide +kernel
theorem dX9_exportCandidates_79 : decode cX9_exportCandidates 79 = .ok (.getfield 326, 3) := by decide +kernel
theorem dX9_exportCandidates_82 : decode cX9_exportCandidates 82 = .ok (.iload 4, 2) := by decide +kernel
theorem dX9_exportCandidates_84 : decode cX9_exportCandidates 84 = .ok (.if_icmp .ge 8, 3) := by decide +kernel
theorem dX9_exportCandidates_87 : decode cX9_exportCandidates 87 = .ok (.bipush (-13), 2) := by decide +kernel
theorem dX9_exportCandidates_89 : decode cX9_exportCandidates 89 = .ok (.goto 5, 3) := by decide +kernel
theorem dX9_exportCandidates_92 : decode cX9_exportCandidates 92 = .ok (.iload 4, 2) := by decide +kernel
theorem dX9_exportCandidates_94 : decode cX9_exportCandidates 94 = .ok (.ireturn, 1) := by decide +kernel
theorem dX9_compareTable_0 : decode cX9_compareTable 0 = .ok (.aload_n 0, 1) := by decide +kernel
theorem dX9_compareTable_1 : decode cX9_compareTable 1 = .ok (.iload_n 1, 1) := by decide +kernel
theorem dX9_compareTable_2 : decode cX9_compareTable 2 = .ok (.invokevirtual 320, 3) := by decide +kernel
theorem dX9_compareTable_5 : decode cX9_compareTable 5 = .ok (.istore_n 2, 1) := by decide +kernel
theorem dX9_compareTable_6 : decode cX9_compareTable 6 = .ok (.iload_n 2, 1) := by decide +kernel
theorem dX9_compareTable_7 : decode cX9_compareTable 7 = .ok (.ifCond .eq 5, 3) := by decide +kernel
theorem dX9_compareTable_10 : decode cX9_compareTable 10 = .ok (.iload_n 2, 1) := by decide +kernel
theorem dX9_compareTable_11 : decode cX9_compareTable 11 = .ok (.ireturn, 1) := by decide +kernel
theorem dX9_compareTable_12 : decode cX9_compareTable 12 = .ok (.aload_n 0, 1) := by decide +kernel
theorem dX9_compareTable_13 : decode cX9_compareTable 13 = .ok (.getfield 93, 3) := by decide +kernel
theorem dX9_compareTable_16 : decode cX9_compareTable 16 = .ok (.iload_n 1, 1) := by decide +kernel
theorem dX9_compareTable_17 : decode cX9_compareTable 17 = .ok (.aaload, 1) := by decide +kernel
theorem dX9_compareTable_18 : decode cX9_compareTable 18 = .ok (.astore_n 3, 1) := by decide +kernel
theorem dX9_compareTable_19 : decode cX9_compareTable 19 = .ok (.aload_n 3, 1) := by decide +kernel
theorem dX9_compareTable_20 : decode cX9_compareTable 20 = .ok (.getfield 323, 3) := by decide +kernel
theorem dX9_compareTable_23 : decode cX9_compareTable 23 = .ok (.iconst 2, 1) := by decide +kernel
theorem dX9_compareTable_24 : decode cX9_compareTable 24 = .ok (.if_icmp .eq 6, 3) := by decide +kernel
theorem dX9_compareTable_27 : decode cX9_compareTable 27 = .ok (.bipush (-12), 2) := by decide +kernel
theorem dX9_compareTable_29 : decode cX9_compareTable 29 = .ok (.ireturn, 1) := by decide +kernel
theorem dX9_compareTable_30 : decode cX9_compareTable 30 = .ok (.iconst 0, 1) := by decide +kernel
theorem dX9_compareTable_31 : decode cX9_compareTable 31 = .ok (.istore 4, 2) := by decide +kernel
theorem dX9_compareTable_33 : decode cX9_compareTable 33 = .ok (.iload 4, 2) := by decide +kernel
theorem dX9_compareTable_35 : decode cX9_compareTable 35 = .ok (.aload_n 0, 1) := by decide +kernel
theorem dX9_compareTable_36 : decode cX9_compareTable 36 = .ok (.getfield 12, 3) := by decide +kernel
theorem dX9_compareTable_39 : decode cX9_compareTable 39 = .ok (.invokevirtual 275, 3) := by decide +kernel
theorem dX9_compareTable_42 : decode cX9_compareTable 42 = .ok (.if_icmp .ge 56, 3) := by decide +kernel
theorem dX9_compareTable_45 : decode cX9_compareTable 45 = .ok (.iload 4, 2) := by decide +kernel
theorem dX9_compareTable_47 : decode cX9_compareTable 47 = .ok (.aload_n 3, 1) := by decide +kernel
theorem dX9_compareTable_48 : decode cX9_compareTable 48 = .ok (.getfield 326, 3) := by decide +kernel
theorem dX9_compareTable_51 : decode cX9_compareTable 51 = .ok (.if_icmp .lt 6, 3) := by decide +kernel
theorem dX9_compareTable_54 : decode cX9_compareTable 54 = .ok (.bipush (-13), 2) := by decide +kernel
theorem dX9_compareTable_56 : decode cX9_compareTable 56 = .ok (.ireturn, 1) := by decide +kernel
theorem dX9_compareTable_57 : decode cX9_compareTable 57 = .ok (.aload_n 3, 1) := by decide +kernel
theorem dX9_compareTable_58 : decode cX9_compareTable 58 = .ok (.getfield 317, 3) := by decide +kernel
theorem dX9_compareTable_61 : decode cX9_compareTable 61 = .ok (.iload 4, 2) := by decide +kernel
theorem dX9_compareTable_63 : decode cX9_compareTable 63 = .ok (.iaload, 1) := by decide +kernel
theorem dX9_compareTable_64 : decode cX9_compareTable 64 = .ok (.ifCond .eq 7, 3) := by decide +kernel
theorem dX9_compareTable_67 : decode cX9_compareTable 67 = .ok (.iconst 1, 1) := by decide +kernel
theorem dX9_compareTable_68 : decode cX9_compareTable 68 = .ok (.goto 4, 3) := by decide +kernel
theorem dX9_compareTable_71 : decode cX9_compareTable 71 = .ok (.iconst 0, 1) := by decide +kernel
theorem dX9_compareTable_72 : decode cX9_compareTable 72 = .ok (.istore 5, 2) := by decide +kernel
theorem dX9_compareTable_74 : decode cX9_compareTable 74 = .ok (.iload 5, 2) := by decide +kernel
theorem dX9_compareTable_76 : decode cX9_compareTable 76 = .ok (.aload_n 0, 1) := by decide +kernel
theorem dX9_compareTable_77 : decode cX9_compareTable 77 = .ok (.getfield 12, 3) := by decide +kernel
theorem dX9_compareTable_80 : decode cX9_compareTable 80 = .ok (.iload 4, 2) := by decide +kernel
theorem dX9_compareTable_82 : decode cX9_compareTable 82 = .ok (.iconst 0, 1) := by decide +kernel
theorem dX9_compareTable_83 : decode cX9_compareTable 83 = .ok (.invokevirtual 332, 3) := by decide +kernel
theorem dX9_compareTable_86 : decode cX9_compareTable 86 = .ok (.if_icmp .ne 6, 3) := by decide +kernel
theorem dX9_compareTable_89 : decode cX9_compareTable 89 = .ok (.iload 4, 2) := by decide +kernel
theorem dX9_compareTable_91 : decode cX9_compareTable 91 = .ok (.ireturn, 1) := by decide +kernel
theorem dX9_compareTable_92 : decode cX9_compareTable 92 = .ok (.iinc 4 1, 3) := by decide +kernel
theorem dX9_compareTable_95 : decode cX9_compareTable 95 = .ok (.goto (-62), 3) := by decide +kernel
theorem dX9_compareTable_98 : decode cX9_compareTable 98 = .ok (.bipush (-8), 2) := by decide +kernel
theorem dX9_compareTable_100 : decode cX9_compareTable 100 = .ok (.ireturn, 1) := by decide +kernel
theorem dX9_undoCount_0 : decode cX9_undoCount 0 = .ok (.aload_n 0, 1) := by decide +kernel
theorem dX9_undoCount_1 : decode cX9_undoCount 1 = .ok (.getfield 29, 3) := by decide +kernel
theorem dX9_undoCount_4 : decode cX9_undoCount 4 = .ok (.getfield 302, 3) := by decide +kernel
theorem dX9_undoCount_7 : decode cX9_undoCount 7 = .ok (.ireturn, 1) := by decide +kernel
theorem dX9_isWithin_0 : decode cX9_isWithin 0 = .ok (.iload_n 0, 1) := by decide +kernel
theorem dX9_isWithin_1 : decode cX9_isWithin 1 = .ok (.iload_n 1, 1) := by decide +kernel
theorem dX9_isWithin_2 : decode cX9_isWithin 2 = .ok (.if_icmp .lt 12, 3) := by decide +kernel
theorem dX9_isWithin_5 : decode cX9_isWithin 5 = .ok (.iload_n 0, 1) := by decide +kernel
theorem dX9_isWithin_6 : decode cX9_isWithin 6 = .ok (.iload_n 2, 1) := by decide +kernel
theorem dX9_isWithin_7 : decode cX9_isWithin 7 = .ok (.if_icmp .gt 7, 3) := by decide +kernel
theorem dX9_isWithin_10 : decode cX9_isWithin 10 = .ok (.iconst 1, 1) := by decide +kernel
theorem dX9_isWithin_11 : decode cX9_isWithin 11 = .ok (.goto 4, 3) := by decide +kernel
theorem dX9_isWithin_14 : decode cX9_isWithin 14 = .ok (.iconst 0, 1) := by decide +kernel
theorem dX9_isWithin_15 : decode cX9_isWithin 15 = .ok (.ireturn, 1) := by decide +kernel
theorem dX9_hasRun_0 : decode cX9_hasRun 0 = .ok (.aload_n 0, 1) := by decide +kernel
theorem dX9_hasRun_1 : decode cX9_hasRun 1 = .ok (.getfield 12, 3) := by decide +kernel
theorem dX9_hasRun_4 : decode cX9_hasRun 4 = .ok (.iload_n 1, 1) := by decide +kernel
theorem dX9_hasRun_5 : decode cX9_hasRun 5 = .ok (.invokevirtual 124, 3) := by decide +kernel
theorem dX9_hasRun_8 : decode cX9_hasRun 8 = .ok (.ifCond .eq 28, 3) := by decide +kernel
theorem dX9_hasRun_11 : decode cX9_hasRun 11 = .ok (.iload_n 2, 1) := by decide +kernel
theorem dX9_hasRun_12 : decode cX9_hasRun 12 = .ok (.iconst 0, 1) := by decide +kernel
theorem dX9_hasRun_13 : decode cX9_hasRun 13 = .ok (.aload_n 0, 1) := by decide +kernel
theorem dX9_hasRun_14 : decode cX9_hasRun 14 = .ok (.getfield 12, 3) := by decide +kernel
theorem dX9_hasRun_17 : decode cX9_hasRun 17 = .ok (.getfield 128, 3) := by decide +kernel
theorem dX9_hasRun_20 : decode cX9_hasRun 20 = .ok (.iload_n 1, 1) := by decide +kernel
theorem dX9_hasRun_21 : decode cX9_hasRun 21 = .ok (.invokevirtual 141, 3) := by decide +kernel
theorem dX9_hasRun_24 : decode cX9_hasRun 24 = .ok (.iconst 1, 1) := by decide +kernel
theorem dX9_hasRun_25 : decode cX9_hasRun 25 = .ok (.isub, 1) := by decide +kernel
theorem dX9_hasRun_26 : decode cX9_hasRun 26 = .ok (.invokestatic 101, 3) := by decide +kernel
theorem dX9_hasRun_29 : decode cX9_hasRun 29 = .ok (.ifCond .eq 7, 3) := by decide +kernel
theorem dX9_hasRun_32 : decode cX9_hasRun 32 = .ok (.iconst 1, 1) := by decide +kernel
theorem dX9_hasRun_33 : decode cX9_hasRun 33 = .ok (.goto 4, 3) := by decide +kernel
theorem dX9_hasRun_36 : decode cX9_hasRun 36 = .ok (.iconst 0, 1) := by decide +kernel
theorem dX9_hasRun_37 : decode cX9_hasRun 37 = .ok (.ireturn, 1) := by decide +kernel
theorem dX9_candidateError_0 : decode cX9_candidateError 0 = .ok (.aload_n 0, 1) := by decide +kernel
theorem dX9_candidateError_1 : decode cX9_candidateError 1 = .ok (.getfield 12, 3) := by decide +kernel
theorem dX9_candidateError_4 : decode cX9_candidateError 4 = .ok (.iload_n 1, 1) := by decide +kernel
theorem dX9_candidateError_5 : decode cX9_candidateError 5 = .ok (.iload_n 2, 1) := by decide +kernel
theorem dX9_candidateError_6 : decode cX9_candidateError 6 = .ok (.invokevirtual 162, 3) := by decide +kernel
theorem dX9_candidateError_9 : decode cX9_candidateError 9 = .ok (.ifCond .ne 5, 3) := by decide +kernel
theorem dX9_candidateError_12 : decode cX9_candidateError 12 = .ok (.iconst (-1), 1) := by decide +kernel
theorem dX9_candidateError_13 : decode cX9_candidateError 13 = .ok (.ireturn, 1) := by decide +kernel
theorem dX9_candidateError_14 : decode cX9_candidateError 14 = .ok (.iload_n 3, 1) := by decide +kernel
theorem dX9_candidateError_15 : decode cX9_candidateError 15 = .ok (.iconst 0, 1) := by decide +kernel
theorem dX9_candidateError_16 : decode cX9_candidateError 16 = .ok (.aload_n 0, 1) := by decide +kernel
theorem dX9_candidateError_17 : decode cX9_candidateError 17 = .ok (.getfield 12, 3) := by decide +kernel
theorem dX9_candidateError_20 : decode cX9_candidateError 20 = .ok (.getfield 121, 3) := by decide +kernel
theorem dX9_candidateError_23 : decode cX9_candidateError 23 = .ok (.invokestatic 101, 3) := by decide +kernel
theorem dX9_candidateError_26 : decode cX9_candidateError 26 = .ok (.ifCond .ne 6, 3) := by decide +kernel
theorem dX9_candidateError_29 : decode cX9_candidateError 29 = .ok (.bipush (-2), 2) := by decide +kernel
theorem dX9_candidateError_31 : decode cX9_candidateError 31 = .ok (.ireturn, 1) := by decide +kernel
theorem dX9_candidateError_32 : decode cX9_candidateError 32 = .ok (.aload_n 0, 1) := by decide +kernel
theorem dX9_candidateError_33 : decode cX9_candidateError 33 = .ok (.getfield 12, 3) := by decide +kernel
theorem dX9_candidateError_36 : decode cX9_candidateError 36 = .ok (.aload_n 0, 1) := by decide +kernel
theorem dX9_candidateError_37 : decode cX9_candidateError 37 = .ok (.getfield 12, 3) := by decide +kernel
theorem dX9_candidateError_40 : decode cX9_candidateError 40 = .ok (.iload_n 1, 1) := by decide +kernel
theorem dX9_candidateError_41 : decode cX9_candidateError 41 = .ok (.iload_n 2, 1) := by decide +kernel
theorem dX9_candidateError_42 : decode cX9_candidateError 42 = .ok (.invokevirtual 169, 3) := by decide +kernel
theorem dX9_candidateError_45 : decode cX9_candidateError 45 = .ok (.iload_n 3, 1) := by decide +kernel
theorem dX9_candidateError_46 : decode cX9_candidateError 46 = .ok (.invokevirtual 332, 3) := by decide +kernel
theorem dX9_candidateError_49 : decode cX9_candidateError 49 = .ok (.ifCond .eq 7, 3) := by decide +kernel
theorem dX9_candidateError_52 : decode cX9_candidateError 52 = .ok (.iconst 0, 1) := by decide +kernel
theorem dX9_candidateError_53 : decode cX9_candidateError 53 = .ok (.goto 5, 3) := by decide +kernel
theorem dX9_candidateError_56 : decode cX9_candidateError 56 = .ok (.bipush (-5), 2) := by decide +kernel
theorem dX9_candidateError_58 : decode cX9_candidateError 58 = .ok (.ireturn, 1) := by decide +kernel
theorem dX9_otherCandidatesError_0 : decode cX9_otherCandidatesError 0 = .ok (.aload_n 0, 1) := by decide +kernel
theorem dX9_otherCandidatesError_1 : decode cX9_otherCandidatesError 1 = .ok (.iload_n 1, 1) := by decide +kernel
theorem dX9_otherCandidatesError_2 : decode cX9_otherCandidatesError 2 = .ok (.iload_n 2, 1) := by decide +kernel
theorem dX9_otherCandidatesError_3 : decode cX9_otherCandidatesError 3 = .ok (.iload_n 3, 1) := by decide +kernel
theorem dX9_otherCandidatesError_4 : decode cX9_otherCandidatesError 4 = .ok (.invokevirtual 178, 3) := by decide +kernel
theorem dX9_otherCandidatesError_7 : decode cX9_otherCandidatesError 7 = .ok (.istore 4, 2) := by decide +kernel
theorem dX9_otherCandidatesError_9 : decode cX9_otherCandidatesError 9 = .ok (.iload 4, 2) := by decide +kernel
theorem dX9_otherCandidatesError_11 : decode cX9_otherCandidatesError 11 = .ok (.ifCond .ne 25, 3) := by decide +kernel
theorem dX9_otherCandidatesError_14 : decode cX9_otherCandidatesError 14 = .ok (.aload_n 0, 1) := by decide +kernel
theorem dX9_otherCandidatesError_15 : decode cX9_otherCandidatesError 15 = .ok (.getfield 12, 3) := by decide +kernel
theorem dX9_otherCandidatesError_18 : decode cX9_otherCandidatesError 18 = .ok (.aload_n 0, 1) := by decide +kernel
theorem dX9_otherCandidatesError_19 : decode cX9_otherCandidatesError 19 = .ok (.getfield 12, 3) := by decide +kernel
theorem dX9_otherCandidatesError_22 : decode cX9_otherCandidatesError 22 = .ok (.iload_n 1, 1) := by decide +kernel
theorem dX9_otherCandidatesError_23 : decode cX9_otherCandidatesError 23 = .ok (.iload_n 2, 1) := by decide +kernel
theorem dX9_otherCandidatesError_24 : decode cX9_otherCandidatesError 24 = .ok (.invokevirtual 169, 3) := by decide +kernel
theorem dX9_otherCandidatesError_27 : decode cX9_otherCandidatesError 27 = .ok (.invokevirtual 172, 3) := by decide +kernel
theorem dX9_otherCandidatesError_30 : decode cX9_otherCandidatesError 30 = .ok (.ifCond .eq 6, 3) := by decide +kernel
theorem dX9_otherCandidatesError_33 : decode cX9_otherCandidatesError 33 = .ok (.bipush (-5), 2) := by decide +kernel
theorem dX9_otherCandidatesError_35 : decode cX9_otherCandidatesError 35 = .ok (.ireturn, 1) := by decide +kernel
theorem dX9_otherCandidatesError_36 : decode cX9_otherCandidatesError 36 = .ok (.iload 4, 2) := by decide +kernel
theorem dX9_otherCandidatesError_38 : decode cX9_otherCandidatesError 38 = .ok (.ireturn, 1) := by decide +kernel
theorem dX9_hasTable_0 : decode cX9_hasTable 0 = .ok (.iload_n 0, 1) := by decide +kernel
theorem dX9_hasTable_1 : decode cX9_hasTable 1 = .ok (.iconst 0, 1) := by decide +kernel
theorem dX9_hasTable_2 : decode cX9_hasTable 2 = .ok (.iconst 2, 1) := by decide +kernel
theorem dX9_hasTable_3 : decode cX9_hasTable 3 = .ok (.invokestatic 101, 3) := by decide +kernel
theorem dX9_hasTable_6 : decode cX9_hasTable 6 = .ok (.ireturn, 1) := by decide +kernel
theorem dX9_tableError_0 : decode cX9_tableError 0 = .ok (.iload_n 1, 1) := by decide +kernel
theorem dX9_tableError_1 : decode cX9_tableError 1 = .ok (.invokestatic 305, 3) := by decide +kernel
theorem dX9_tableError_4 : decode cX9_tableError 4 = .ok (.ifCond .ne 6, 3) := by decide +kernel
theorem dX9_tableError_7 : decode cX9_tableError 7 = .ok (.bipush (-2), 2) := by decide +kernel
theorem dX9_tableError_9 : decode cX9_tableError 9 = .ok (.ireturn, 1) := by decide +kernel
theorem dX9_tableError_10 : decode cX9_tableError 10 = .ok (.aload_n 0, 1) := by decide +kernel
theorem dX9_tableError_11 : decode cX9_tableError 11 = .ok (.getfield 93, 3) := by decide +kernel
theorem dX9_tableError_14 : decode cX9_tableError 14 = .ok (.iload_n 1, 1) := by decide +kernel
theorem dX9_tableError_15 : decode cX9_tableError 15 = .ok (.aaload, 1) := by decide +kernel
theorem dX9_tableError_16 : decode cX9_tableError 16 = .ok (.getfield 323, 3) := by decide +kernel
theorem dX9_tableError_19 : decode cX9_tableError 19 = .ok (.iconst (-1), 1) := by decide +kernel
theorem dX9_tableError_20 : decode cX9_tableError 20 = .ok (.if_icmp .ne 8, 3) := by decide +kernel
theorem dX9_tableError_23 : decode cX9_tableError 23 = .ok (.bipush (-11), 2) := by decide +kernel
theorem dX9_tableError_25 : decode cX9_tableError 25 = .ok (.goto 4, 3) := by decide +kernel
theorem dX9_tableError_28 : decode cX9_tableError 28 = .ok (.iconst 0, 1) := by decide +kernel
theorem dX9_tableError_29 : decode cX9_tableError 29 = .ok (.ireturn, 1) := by decide +kernel
theorem dX9_elementError_0 : decode cX9_elementError 0 = .ok (.aload_n 0, 1) := by decide +kernel
theorem dX9_elementError_1 : decode cX9_elementError 1 = .ok (.iload_n 1, 1) := by decide +kernel
theorem dX9_elementError_2 : decode cX9_elementError 2 = .ok (.invokevirtual 320, 3) := by decide +kernel
theorem dX9_elementError_5 : decode cX9_elementError 5 = .ok (.istore_n 3, 1) := by decide +kernel
theorem dX9_elementError_6 : decode cX9_elementError 6 = .ok (.iload_n 3, 1) := by decide +kernel
theorem dX9_elementError_7 : decode cX9_elementError 7 = .ok (.ifCond .ne 25, 3) := by decide +kernel
theorem dX9_elementError_10 : decode cX9_elementError 10 = .ok (.iload_n 2, 1) := by decide +kernel
theorem dX9_elementError_11 : decode cX9_elementError 11 = .ok (.iconst 0, 1) := by decide +kernel
theorem dX9_elementError_12 : decode cX9_elementError 12 = .ok (.aload_n 0, 1) := by decide +kernel
theorem dX9_elementError_13 : decode cX9_elementError 13 = .ok (.getfield 93, 3) := by decide +kernel
theorem dX9_elementError_16 : decode cX9_elementError 16 = .ok (.iload_n 1, 1) := by decide +kernel
theorem dX9_elementError_17 : decode cX9_elementError 17 = .ok (.aaload, 1) := by decide +kernel
theorem dX9_elementError_18 : decode cX9_elementError 18 = .ok (.getfield 326, 3) := by decide +kernel
theorem dX9_elementError_21 : decode cX9_elementError 21 = .ok (.iconst 1, 1) := by decide +kernel
theorem dX9_elementError_22 : decode cX9_elementError 22 = .ok (.isub, 1) := by decide +kernel
theorem dX9_elementError_23 : decode cX9_elementError 23 = .ok (.invokestatic 101, 3) := by decide +kernel
theorem dX9_elementError_26 : decode cX9_elementError 26 = .ok (.ifCond .ne 6, 3) := by decide +kernel
theorem dX9_elementError_29 : decode cX9_elementError 29 = .ok (.bipush (-13), 2) := by decide +kernel
theorem dX9_elementError_31 : decode cX9_elementError 31 = .ok (.ireturn, 1) := by decide +kernel
theorem dX9_elementError_32 : decode cX9_elementError 32 = .ok (.iload_n 3, 1) := by decide +kernel
theorem dX9_elementError_33 : decode cX9_elementError 33 = .ok (.ireturn, 1) := by decide +kernel
theorem dX9_commitWork_0 : decode cX9_commitWork 0 = .ok (.aload_n 0, 1) := by decide +kernel
theorem dX9_commitWork_1 : decode cX9_commitWork 1 = .ok (.getfield 29, 3) := by decide +kernel
theorem dX9_commitWork_4 : decode cX9_commitWork 4 = .ok (.aload_n 0, 1) := by decide +kernel
theorem dX9_commitWork_5 : decode cX9_commitWork 5 = .ok (.getfield 12, 3) := by decide +kernel
theorem dX9_commitWork_8 : decode cX9_commitWork 8 = .ok (.invokevirtual 134, 3) := by decide +kernel
theorem dX9_commitWork_11 : decode cX9_commitWork 11 = .ok (.aload_n 0, 1) := by decide +kernel
theorem dX9_commitWork_12 : decode cX9_commitWork 12 = .ok (.getfield 12, 3) := by decide +kernel
theorem dX9_commitWork_15 : decode cX9_commitWork 15 = .ok (.aload_n 0, 1) := by decide +kernel
theorem dX9_commitWork_16 : decode cX9_commitWork 16 = .ok (.getfield 16, 3) := by decide +kernel
theorem dX9_commitWork_19 : decode cX9_commitWork 19 = .ok (.invokevirtual 209, 3) := by decide +kernel
theorem dX9_commitWork_22 : decode cX9_commitWork 22 = .ok (.return_, 1) := by decide +kernel
theorem dX9_remember_0 : decode cX9_remember 0 = .ok (.aload_n 0, 1) := by decide +kernel
theorem dX9_remember_1 : decode cX9_remember 1 = .ok (.iload_n 1, 1) := by decide +kernel
theorem dX9_remember_2 : decode cX9_remember 2 = .ok (.putfield 65, 3) := by decide +kernel
theorem dX9_remember_5 : decode cX9_remember 5 = .ok (.aload_n 0, 1) := by decide +kernel
theorem dX9_remember_6 : decode cX9_remember 6 = .ok (.iload_n 2, 1) := by decide +kernel
theorem dX9_remember_7 : decode cX9_remember 7 = .ok (.putfield 68, 3) := by decide +kernel
theorem dX9_remember_10 : decode cX9_remember 10 = .ok (.bipush (-4), 2) := by decide +kernel
theorem dX9_remember_12 : decode cX9_remember 12 = .ok (.ireturn, 1) := by decide +kernel
theorem dX9_forgetContradiction_0 : decode cX9_forgetContradiction 0 = .ok (.aload_n 0, 1) := by decide +kernel
theorem dX9_forgetContradiction_1 : decode cX9_forgetContradiction 1 = .ok (.bipush (-8), 2) := by decide +kernel
theorem dX9_forgetContradiction_3 : decode cX9_forgetContradiction 3 = .ok (.putfield 65, 3) := by decide +kernel
theorem dX9_forgetContradiction_6 : decode cX9_forgetContradiction 6 = .ok (.aload_n 0, 1) := by decide +kernel
theorem dX9_forgetContradiction_7 : decode cX9_forgetContradiction 7 = .ok (.bipush (-8), 2) := by decide +kernel
theorem dX9_forgetContradiction_9 : decode cX9_forgetContradiction 9 = .ok (.putfield 68, 3) := by decide +kernel
theorem dX9_forgetContradiction_12 : decode cX9_forgetContradiction 12 = .ok (.return_, 1) := by decide +kernel
theorem dX9_parseText_0 : decode cX9_parseText 0 = .ok (.aload_n 0, 1) := by decide +kernel
theorem dX9_parseText_1 : decode cX9_parseText 1 = .ok (.getfield 86, 3) := by decide +kernel
theorem dX9_parseText_4 : decode cX9_parseText 4 = .ok (.invokevirtual 335, 3) := by decide +kernel
theorem dX9_parseText_7 : decode cX9_parseText 7 = .ok (.iconst 0, 1) := by decide +kernel
theorem dX9_parseText_8 : decode cX9_parseText 8 = .ok (.istore_n 1, 1) := by decide +kernel
theorem dX9_parseText_9 : decode cX9_parseText 9 = .ok (.iconst 0, 1) := by decide +kernel
theorem dX9_parseText_10 : decode cX9_parseText 10 = .ok (.istore_n 2, 1) := by decide +kernel
theorem dX9_parseText_11 : decode cX9_parseText 11 = .ok (.iconst 0, 1) := by decide +kernel
theorem dX9_parseText_12 : decode cX9_parseText 12 = .ok (.istore_n 3, 1) := by decide +kernel
theorem dX9_parseText_13 : decode cX9_parseText 13 = .ok (.iload_n 3, 1) := by decide +kernel
theorem dX9_parseText_14 : decode cX9_parseText 14 = .ok (.aload_n 0, 1) := by decide +kernel
theorem dX9_parseText_15 : decode cX9_parseText 15 = .ok (.getfield 76, 3) := by decide +kernel
theorem dX9_parseText_18 : decode cX9_parseText 18 = .ok (.getfield 284, 3) := by decide +kernel
theorem dX9_parseText_21 : decode cX9_parseText 21 = .ok (.if_icmp .ge 128, 3) := by decide +kernel
theorem dX9_parseText_24 : decode cX9_parseText 24 = .ok (.aload_n 0, 1) := by decide +kernel
theorem dX9_parseText_25 : decode cX9_parseText 25 = .ok (.getfield 76, 3) := by decide +kernel
theorem dX9_parseText_28 : decode cX9_parseText 28 = .ok (.getfield 296, 3) := by decide +kernel
theorem dX9_parseText_31 : decode cX9_parseText 31 = .ok (.iload_n 3, 1) := by decide +kernel
theorem dX9_parseText_32 : decode cX9_parseText 32 = .ok (.iaload, 1) := by decide +kernel
theorem dX9_parseText_33 : decode cX9_parseText 33 = .ok (.istore 4, 2) := by decide +kernel
theorem dX9_parseText_35 : decode cX9_parseText 35 = .ok (.iload_n 2, 1) := by decide +kernel
theorem dX9_parseText_36 : decode cX9_parseText 36 = .ok (.ifCond .le 49, 3) := by decide +kernel
theorem dX9_parseText_39 : decode cX9_parseText 39 = .ok (.iload 4, 2) := by decide +kernel
theorem dX9_parseText_41 : decode cX9_parseText 41 = .ok (.bipush 97, 2) := by decide +kernel
theorem dX9_parseText_43 : decode cX9_parseText 43 = .ok (.isub, 1) := by decide +kernel
theorem dX9_parseText_44 : decode cX9_parseText 44 = .ok (.iconst 1, 1) := by decide +kernel
theorem dX9_parseText_45 : decode cX9_parseText 45 = .ok (.iadd, 1) := by decide +kernel
theorem dX9_parseText_46 : decode cX9_parseText 46 = .ok (.istore 5, 2) := by decide +kernel
theorem dX9_parseText_48 : decode cX9_parseText 48 = .ok (.iload 5, 2) := by decide +kernel
theorem dX9_parseText_50 : decode cX9_parseText 50 = .ok (.iconst 1, 1) := by decide +kernel
theorem dX9_parseText_51 : decode cX9_parseText 51 = .ok (.aload_n 0, 1) := by decide +kernel
theorem dX9_parseText_52 : decode cX9_parseText 52 = .ok (.getfield 12, 3) := by decide +kernel
theorem dX9_parseText_55 : decode cX9_parseText 55 = .ok (.getfield 121, 3) := by decide +kernel
theorem dX9_parseText_58 : decode cX9_parseText 58 = .ok (.invokestatic 101, 3) := by decide +kernel
theorem dX9_parseText_61 : decode cX9_parseText 61 = .ok (.ifCond .ne 8, 3) := by decide +kernel
theorem dX9_parseText_64 : decode cX9_parseText 64 = .ok (.bipush (-100), 2) := by decide +kernel
theorem dX9_parseText_66 : decode cX9_parseText 66 = .ok (.iload_n 3, 1) := by decide +kernel
theorem dX9_parseText_67 : decode cX9_parseText 67 = .ok (.isub, 1) := by decide +kernel
theorem dX9_parseText_68 : decode cX9_parseText 68 = .ok (.ireturn, 1) := by decide +kernel
theorem dX9_parseText_69 : decode cX9_parseText 69 = .ok (.aload_n 0, 1) := by decide +kernel
theorem dX9_parseText_70 : decode cX9_parseText 70 = .ok (.getfield 86, 3) := by decide +kernel
theorem dX9_parseText_73 : decode cX9_parseText 73 = .ok (.iload_n 1, 1) := by decide +kernel
theorem dX9_parseText_74 : decode cX9_parseText 74 = .ok (.iload_n 2, 1) := by decide +kernel
theorem dX9_parseText_75 : decode cX9_parseText 75 = .ok (.iload 5, 2) := by decide +kernel
theorem dX9_parseText_77 : decode cX9_parseText 77 = .ok (.invokevirtual 138, 3) := by decide +kernel
theorem dX9_parseText_80 : decode cX9_parseText 80 = .ok (.iconst 0, 1) := by decide +kernel
theorem dX9_parseText_81 : decode cX9_parseText 81 = .ok (.istore_n 2, 1) := by decide +kernel
theorem dX9_parseText_82 : decode cX9_parseText 82 = .ok (.goto 61, 3) := by decide +kernel
theorem dX9_parseText_85 : decode cX9_parseText 85 = .ok (.iload 4, 2) := by decide +kernel
theorem dX9_parseText_87 : decode cX9_parseText 87 = .ok (.bipush 47, 2) := by decide +kernel
theorem dX9_parseText_89 : decode cX9_parseText 89 = .ok (.if_icmp .ne 22, 3) := by decide +kernel
theorem dX9_parseText_92 : decode cX9_parseText 92 = .ok (.iinc 1 1, 3) := by decide +kernel
theorem dX9_parseText_95 : decode cX9_parseText 95 = .ok (.aload_n 0, 1) := by decide +kernel
theorem dX9_parseText_96 : decode cX9_parseText 96 = .ok (.getfield 12, 3) := by decide +kernel
theorem dX9_parseText_99 : decode cX9_parseText 99 = .ok (.iload_n 1, 1) := by decide +kernel
theorem dX9_parseText_100 : decode cX9_parseText 100 = .ok (.invokevirtual 124, 3) := by decide +kernel
theorem dX9_parseText_103 : decode cX9_parseText 103 = .ok (.ifCond .ne 40, 3) := by decide +kernel
theorem dX9_parseText_106 : decode cX9_parseText 106 = .ok (.bipush (-100), 2) := by decide +kernel
theorem dX9_parseText_108 : decode cX9_parseText 108 = .ok (.iload_n 3, 1) := by decide +kernel
theorem dX9_parseText_109 : decode cX9_parseText 109 = .ok (.isub, 1) := by decide +kernel
theorem dX9_parseText_110 : decode cX9_parseText 110 = .ok (.ireturn, 1) := by decide +kernel
theorem dX9_parseText_111 : decode cX9_parseText 111 = .ok (.iload 4, 2) := by decide +kernel
theorem dX9_parseText_113 : decode cX9_parseText 113 = .ok (.bipush 48, 2) := by decide +kernel
theorem dX9_parseText_115 : decode cX9_parseText 115 = .ok (.isub, 1) := by decide +kernel
theorem dX9_parseText_116 : decode cX9_parseText 116 = .ok (.istore_n 2, 1) := by decide +kernel
theorem dX9_parseText_117 : decode cX9_parseText 117 = .ok (.iload_n 2, 1) := by decide +kernel
theorem dX9_parseText_118 : decode cX9_parseText 118 = .ok (.iconst 1, 1) := by decide +kernel
theorem dX9_parseText_119 : decode cX9_parseText 119 = .ok (.bipush 8, 2) := by decide +kernel
theorem dX9_parseText_121 : decode cX9_parseText 121 = .ok (.invokestatic 101, 3) := by decide +kernel
theorem dX9_parseText_124 : decode cX9_parseText 124 = .ok (.ifCond .eq 14, 3) := by decide +kernel
theorem dX9_parseText_127 : decode cX9_parseText 127 = .ok (.aload_n 0, 1) := by decide +kernel
theorem dX9_parseText_128 : decode cX9_parseText 128 = .ok (.getfield 86, 3) := by decide +kernel
theorem dX9_parseText_131 : decode cX9_parseText 131 = .ok (.iload_n 1, 1) := by decide +kernel
theorem dX9_parseText_132 : decode cX9_parseText 132 = .ok (.invokevirtual 131, 3) := by decide +kernel
theorem dX9_parseText_135 : decode cX9_parseText 135 = .ok (.ifCond .eq 8, 3) := by decide +kernel
theorem dX9_parseText_138 : decode cX9_parseText 138 = .ok (.bipush (-100), 2) := by decide +kernel
theorem dX9_parseText_140 : decode cX9_parseText 140 = .ok (.iload_n 3, 1) := by decide +kernel
theorem dX9_parseText_141 : decode cX9_parseText 141 = .ok (.isub, 1) := by decide +kernel
theorem dX9_parseText_142 : decode cX9_parseText 142 = .ok (.ireturn, 1) := by decide +kernel
theorem dX9_parseText_143 : decode cX9_parseText 143 = .ok (.iinc 3 1, 3) := by decide +kernel
theorem dX9_parseText_146 : decode cX9_parseText 146 = .ok (.goto (-133), 3) := by decide +kernel
theorem dX9_parseText_149 : decode cX9_parseText 149 = .ok (.iload_n 2, 1) := by decide +kernel
theorem dX9_parseText_150 : decode cX9_parseText 150 = .ok (.ifCond .ne 20, 3) := by decide +kernel
theorem dX9_parseText_153 : decode cX9_parseText 153 = .ok (.iload_n 1, 1) := by decide +kernel
theorem dX9_parseText_154 : decode cX9_parseText 154 = .ok (.aload_n 0, 1) := by decide +kernel
theorem dX9_parseText_155 : decode cX9_parseText 155 = .ok (.getfield 12, 3) := by decide +kernel
theorem dX9_parseText_158 : decode cX9_parseText 158 = .ok (.invokevirtual 111, 3) := by decide +kernel
theorem dX9_parseText_161 : decode cX9_parseText 161 = .ok (.iconst 1, 1) := by decide +kernel
theorem dX9_parseText_162 : decode cX9_parseText 162 = .ok (.isub, 1) := by decide +kernel
theorem dX9_parseText_163 : decode cX9_parseText 163 = .ok (.if_icmp .ne 7, 3) := by decide +kernel
theorem dX9_parseText_166 : decode cX9_parseText 166 = .ok (.iconst 1, 1) := by decide +kernel
theorem dX9_parseText_167 : decode cX9_parseText 167 = .ok (.goto 4, 3) := by decide +kernel
theorem dX9_parseText_170 : decode cX9_parseText 170 = .ok (.iconst 0, 1) := by decide +kernel
theorem dX9_parseText_171 : decode cX9_parseText 171 = .ok (.istore_n 3, 1) := by decide +kernel
theorem dX9_parseText_172 : decode cX9_parseText 172 = .ok (.iload_n 3, 1) := by decide +kernel
theorem dX9_parseText_173 : decode cX9_parseText 173 = .ok (.ifCond .eq 13, 3) := by decide +kernel
theorem dX9_parseText_176 : decode cX9_parseText 176 = .ok (.aload_n 0, 1) := by decide +kernel
theorem dX9_parseText_177 : decode cX9_parseText 177 = .ok (.getfield 86, 3) := by decide +kernel
theorem dX9_parseText_180 : decode cX9_parseText 180 = .ok (.invokevirtual 272, 3) := by decide +kernel
theorem dX9_parseText_183 : decode cX9_parseText 183 = .ok (.goto 13, 3) := by decide +kernel
theorem dX9_parseText_186 : decode cX9_parseText 186 = .ok (.bipush (-100), 2) := by decide +kernel
theorem dX9_parseText_188 : decode cX9_parseText 188 = .ok (.aload_n 0, 1) := by decide +kernel
theorem dX9_parseText_189 : decode cX9_parseText 189 = .ok (.getfield 76, 3) := by decide +kernel
theorem dX9_parseText_192 : decode cX9_parseText 192 = .ok (.getfield 284, 3) := by decide +kernel
theorem dX9_parseText_195 : decode cX9_parseText 195 = .ok (.isub, 1) := by decide +kernel
theorem dX9_parseText_196 : decode cX9_parseText 196 = .ok (.ireturn, 1) := by decide +kernel
end
section
theorem dX10_init_0 : decode cX10_init 0 = .ok (.aload_n 0, 1) := by decide +kernel
theorem dX10_init_1 : decode cX10_init 1 = .ok (.invokespecial 1, 3) := by decide +kernel
theorem dX10_init_4 : decode cX10_init 4 = .ok (.aload_n 0, 1) := by decide +kernel
theorem dX10_init_5 : decode cX10_init 5 = .ok (.iconst 5, 1) := by decide +kernel
theorem dX10_init_6 : decode cX10_init 6 = .ok (.putfield 7, 3) := by decide +kernel
theorem dX10_init_9 : decode cX10_init 9 = .ok (.aload_n 0, 1) := by decide +kernel
theorem dX10_init_10 : decode cX10_init 10 = .ok (.iconst 5, 1) := by decide +kernel
theorem dX10_init_11 : decode cX10_init 11 = .ok (.putfield 13, 3) := by decide +kernel
theorem dX10_init_14 : decode cX10_init 14 = .ok (.aload_n 0, 1) := by decide +kernel
theorem dX10_init_15 : decode cX10_init 15 = .ok (.iconst 1, 1) := by decide +kernel
theorem dX10_init_16 : decode cX10_init 16 = .ok (.putfield 16, 3) := by decide +kernel
theorem dX10_init_19 : decode cX10_init 19 = .ok (.aload_n 0, 1) := by decide +kernel
theorem dX10_init_20 : decode cX10_init 20 = .ok (.iconst 0, 1) := by decide +kernel
theorem dX10_init_21 : decode cX10_init 21 = .ok (.putfield 19, 3) := by decide +kernel
theorem dX10_init_24 : decode cX10_init 24 = .ok (.aload_n 0, 1) := by decide +kernel
theorem dX10_init_25 : decode cX10_init 25 = .ok (.sipush 4160, 3) := by decide +kernel
theorem dX10_init_28 : decode cX10_init 28 = .ok (.newarray .int, 2) := by decide +kernel
theorem dX10_init_30 : decode cX10_init 30 = .ok (.putfield 22, 3) := by decide +kernel
theorem dX10_init_33 : decode cX10_init 33 = .ok (.aload_n 0, 1) := by decide +kernel
theorem dX10_init_34 : decode cX10_init 34 = .ok (.bipush 16, 2) := by decide +kernel
theorem dX10_init_36 : decode cX10_init 36 = .ok (.newarray .int, 2) := by decide +kernel
theorem dX10_init_38 : decode cX10_init 38 = .ok (.putfield 26, 3) := by decide +kernel
theorem dX10_init_41 : decode cX10_init 41 = .ok (.aload_n 0, 1) := by decide +kernel
theorem dX10_init_42 : decode cX10_init 42 = .ok (.sipush 128, 3) := by decide +kernel
theorem dX10_init_45 : decode cX10_init 45 = .ok (.newarray .int, 2) := by decide +kernel
theorem dX10_init_47 : decode cX10_init 47 = .ok (.putfield 29, 3) := by decide +kernel
theorem dX10_init_50 : decode cX10_init 50 = .ok (.aload_n 0, 1) := by decide +kernel
theorem dX10_init_51 : decode cX10_init 51 = .ok (.sipush 128, 3) := by decide +kernel
theorem dX10_init_54 : decode cX10_init 54 = .ok (.newarray .int, 2) := by decide +kernel
theorem dX10_init_56 : decode cX10_init 56 = .ok (.putfield 32, 3) := by decide +kernel
theorem dX10_init_59 : decode cX10_init 59 = .ok (.aload_n 0, 1) := by decide +kernel
theorem dX10_init_60 : decode cX10_init 60 = .ok (.iconst 0, 1) := by decide +kernel
theorem dX10_init_61 : decode cX10_init 61 = .ok (.putfield 35, 3) := by decide +kernel
theorem dX10_init_64 : decode cX10_init 64 = .ok (.aload_n 0, 1) := by decide +kernel
theorem dX10_init_65 : decode cX10_init 65 = .ok (.sipush 512, 3) := by decide +kernel
theorem dX10_init_68 : decode cX10_init 68 = .ok (.newarray .int, 2) := by decide +kernel
theorem dX10_init_70 : decode cX10_init 70 = .ok (.putfield 38, 3) := by decide +kernel
theorem dX10_init_73 : decode cX10_init 73 = .ok (.aload_n 0, 1) := by decide +kernel
theorem dX10_init_74 : decode cX10_init 74 = .ok (.sipush 128, 3) := by decide +kernel
theorem dX10_init_77 : decode cX10_init 77 = .ok (.newarray .int, 2) := by decide +kernel
theorem dX10_init_79 : decode cX10_init 79 = .ok (.putfield 41, 3) := by decide +kernel
theorem dX10_init_82 : decode cX10_init 82 = .ok (.aload_n 0, 1) := by decide +kernel
theorem dX10_init_83 : decode cX10_init 83 = .ok (.sipush 1024, 3) := by decide +kernel
theorem dX10_init_86 : decode cX10_init 86 = .ok (.newarray .int, 2) := by decide +kernel
theorem dX10_init_88 : decode cX10_init 88 = .ok (.putfield 44, 3) := by decide +kernel
theorem dX10_init_91 : decode cX10_init 91 = .ok (.aload_n 0, 1) := by decide +kernel
theorem dX10_init_92 : decode cX10_init 92 = .ok (.sipush 1024, 3) := by decide +kernel
theorem dX10_init_95 : decode cX10_init 95 = .ok (.newarray .int, 2) := by decide +kernel
theorem dX10_init_97 : decode cX10_init 97 = .ok (.putfield 47, 3) := by decide +kernel
theorem dX10_init_100 : decode cX10_init 100 = .ok (.aload_n 0, 1) := by decide +kernel
theorem dX10_init_101 : decode cX10_init 101 = .ok (.iconst (-1), 1) := by decide +kernel
theorem dX10_init_102 : decode cX10_init 102 = .ok (.putfield 50, 3) := by decide +kernel
theorem dX10_init_105 : decode cX10_init 105 = .ok (.aload_n 0, 1) := by decide +kernel
theorem dX10_init_106 : decode cX10_init 106 = .ok (.iconst 0, 1) := by decide +kernel
theorem dX10_init_107 : decode cX10_init 107 = .ok (.putfield 53, 3) := by decide +kernel
theorem dX10_init_110 : decode cX10_init 110 = .ok (.aload_n 0, 1) := by decide +kernel
theorem dX10_init_111 : decode cX10_init 111 = .ok (.bipush 8, 2) := by decide +kernel
theorem dX10_init_113 : decode cX10_init 113 = .ok (.newarray .int, 2) := by decide +kernel
theorem dX10_init_115 : decode cX10_init 115 = .ok (.putfield 56, 3) := by decide +kernel
theorem dX10_init_118 : decode cX10_init 118 = .ok (.aload_n 0, 1) := by decide +kernel
theorem dX10_init_119 : decode cX10_init 119 = .ok (.bipush 8, 2) := by decide +kernel
theorem dX10_init_121 : decode cX10_init 121 = .ok (.newarray .int, 2) := by decide +kernel
theorem dX10_init_123 : decode cX10_init 123 = .ok (.putfield 59, 3) := by decide +kernel
theorem dX10_init_126 : decode cX10_init 126 = .ok (.aload_n 0, 1) := by decide +kernel
theorem dX10_init_127 : decode cX10_init 127 = .ok (.iconst 0, 1) := by decide +kernel
theorem dX10_init_128 : decode cX10_init 128 = .ok (.putfield 62, 3) := by decide +kernel
theorem dX10_init_131 : decode cX10_init 131 = .ok (.aload_n 0, 1) := by decide +kernel
theorem dX10_init_132 : decode cX10_init 132 = .ok (.iconst 0, 1) := by decide +kernel
theorem dX10_init_133 : decode cX10_init 133 = .ok (.putfield 65, 3) := by decide +kernel
theorem dX10_init_136 : decode cX10_init 136 = .ok (.aload_n 0, 1) := by decide +kernel
theorem dX10_init_137 : decode cX10_init 137 = .ok (.iconst 0, 1) := by decide +kernel
theorem dX10_init_138 : decode cX10_init 138 = .ok (.putfield 68, 3) := by decide +kernel
theorem dX10_init_141 : decode cX10_init 141 = .ok (.aload_n 0, 1) := by decide +kernel
theorem dX10_init_142 : decode cX10_init 142 = .ok (.iconst (-1), 1) := by decide +kernel
theorem dX10_init_143 : decode cX10_init 143 = .ok (.putfield 71, 3) := by decide +kernel
theorem dX10_init_146 : decode cX10_init 146 = .ok (.aload_n 0, 1) := by decide +kernel
theorem dX10_init_147 : decode cX10_init 147 = .ok (.iconst 0, 1) := by decide +kernel
theorem dX10_init_148 : decode cX10_init 148 = .ok (.putfield 74, 3) := by decide +kernel
theorem dX10_init_151 : decode cX10_init 151 = .ok (.aload_n 0, 1) := by decide +kernel
theorem dX10_init_152 : decode cX10_init 152 = .ok (.iconst 0, 1) := by decide +kernel
theorem dX10_init_153 : decode cX10_init 153 = .ok (.putfield 77, 3) := by decide +kernel
theorem dX10_init_156 : decode cX10_init 156 = .ok (.aload_n 0, 1) := by decide +kernel
theorem dX10_init_157 : decode cX10_init 157 = .ok (.iconst 0, 1) := by decide +kernel
theorem dX10_init_158 : decode cX10_init 158 = .ok (.putfield 80, 3) := by decide +kernel
theorem dX10_init_161 : decode cX10_init 161 = .ok (.aload_n 0, 1) := by decide +kernel
theorem dX10_init_162 : decode cX10_init 162 = .ok (.iconst 0, 1) := by decide +kernel
theorem dX10_init_163 : decode cX10_init 163 = .ok (.putfield 83, 3) := by decide +kernel
theorem dX10_init_166 : decode cX10_init 166 = .ok (.aload_n 0, 1) := by decide +kernel
theorem dX10_init_167 : decode cX10_init 167 = .ok (.iconst 0, 1) := by decide +kernel
theorem dX10_init_168 : decode cX10_init 168 = .ok (.putfield 86, 3) := by decide +kernel
theorem dX10_init_171 : decode cX10_init 171 = .ok (.aload_n 0, 1) := by decide +kernel
theorem dX10_init_172 : decode cX10_init 172 = .ok (.bipush 64, 2) := by decide +kernel
theorem dX10_init_174 : decode cX10_init 174 = .ok (.newarray .int, 2) := by decide +kernel
theorem dX10_init_176 : decode cX10_init 176 = .ok (.putfield 89, 3) := by decide +kernel
theorem dX10_init_179 : decode cX10_init 179 = .ok (.aload_n 0, 1) := by decide +kernel
theorem dX10_init_180 : decode cX10_init 180 = .ok (.iconst 0, 1) := by decide +kernel
theorem dX10_init_181 : decode cX10_init 181 = .ok (.putfield 92, 3) := by decide +kernel
theorem dX10_init_184 : decode cX10_init 184 = .ok (.aload_n 0, 1) := by decide +kernel
theorem dX10_init_185 : decode cX10_init 185 = .ok (.iconst 0, 1) := by decide +kernel
theorem dX10_init_186 : decode cX10_init 186 = .ok (.putfield 95, 3) := by decide +kernel
theorem dX10_init_189 : decode cX10_init 189 = .ok (.aload_n 0, 1) := by decide +kernel
theorem dX10_init_190 : decode cX10_init 190 = .ok (.iconst 0, 1) := by decide +kernel
theorem dX10_init_191 : decode cX10_init 191 = .ok (.putfield 98, 3) := by decide +kernel
theorem dX10_init_194 : decode cX10_init 194 = .ok (.aload_n 0, 1) := by decide +kernel
theorem dX10_init_195 : decode cX10_init 195 = .ok (.iconst 0, 1) := by decide +kernel
theorem dX10_init_196 : decode cX10_init 196 = .ok (.putfield 101, 3) := by decide +kernel
theorem dX10_init_199 : decode cX10_init 199 = .ok (.aload_n 0, 1) := by decide +kernel
theorem dX10_init_200 : decode cX10_init 200 = .ok (.bipush 8, 2) := by decide +kernel
theorem dX10_init_202 : decode cX10_init 202 = .ok (.newarray .int, 2) := by decide +kernel
theorem dX10_init_204 : decode cX10_init 204 = .ok (.putfield 105, 3) := by decide +kernel
theorem dX10_init_207 : decode cX10_init 207 = .ok (.aload_n 0, 1) := by decide +kernel
theorem dX10_init_208 : decode cX10_init 208 = .ok (.bipush 8, 2) := by decide +kernel
theorem dX10_init_210 : decode cX10_init 210 = .ok (.newarray .int, 2) := by decide +kernel
theorem dX10_init_212 : decode cX10_init 212 = .ok (.putfield 108, 3) := by decide +kernel
theorem dX10_init_215 : decode cX10_init 215 = .ok (.aload_n 0, 1) := by decide +kernel
theorem dX10_init_216 : decode cX10_init 216 = .ok (.bipush 120, 2) := by decide +kernel
theorem dX10_init_218 : decode cX10_init 218 = .ok (.newarray .int, 2) := by decide +kernel
theorem dX10_init_220 : decode cX10_init 220 = .ok (.putfield 111, 3) := by decide +kernel
theorem dX10_init_223 : decode cX10_init 223 = .ok (.aload_n 0, 1) := by decide +kernel
theorem dX10_init_224 : decode cX10_init 224 = .ok (.sipush 300, 3) := by decide +kernel
theorem dX10_init_227 : decode cX10_init 227 = .ok (.newarray .int, 2) := by decide +kernel
theorem dX10_init_229 : decode cX10_init 229 = .ok (.putfield 114, 3) := by decide +kernel
theorem dX10_init_232 : decode cX10_init 232 = .ok (.aload_n 0, 1) := by decide +kernel
theorem dX10_init_233 : decode cX10_init 233 = .ok (.iconst 0, 1) := by decide +kernel
theorem dX10_init_234 : decode cX10_init 234 = .ok (.putfield 117, 3) := by decide +kernel
theorem dX10_init_237 : decode cX10_init 237 = .ok (.aload_n 0, 1) := by decide +kernel
theorem dX10_init_238 : decode cX10_init 238 = .ok (.iconst 0, 1) := by decide +kernel
theorem dX10_init_239 : decode cX10_init 239 = .ok (.putfield 120, 3) := by decide +kernel
theorem dX10_init_242 : decode cX10_init 242 = .ok (.aload_n 0, 1) := by decide +kernel
theorem dX10_init_243 : decode cX10_init 243 = .ok (.bipush 16, 2) := by decide +kernel
theorem dX10_init_245 : decode cX10_init 245 = .ok (.newarray .int, 2) := by decide +kernel
theorem dX10_init_247 : decode cX10_init 247 = .ok (.putfield 123, 3) := by decide +kernel
theorem dX10_init_250 : decode cX10_init 250 = .ok (.aload_n 0, 1) := by decide +kernel
theorem dX10_init_251 : decode cX10_init 251 = .ok (.sipush 128, 3) := by decide +kernel
theorem dX10_init_254 : decode cX10_init 254 = .ok (.newarray .int, 2) := by decide +kernel
theorem dX10_init_256 : decode cX10_init 256 = .ok (.putfield 126, 3) := by decide +kernel
theorem dX10_init_259 : decode cX10_init 259 = .ok (.aload_n 0, 1) := by decide +kernel
theorem dX10_init_260 : decode cX10_init 260 = .ok (.sipush 128, 3) := by decide +kernel
theorem dX10_init_263 : decode cX10_init 263 = .ok (.newarray .int, 2) := by decide +kernel
theorem dX10_init_265 : decode cX10_init 265 = .ok (.putfield 129, 3) := by decide +kernel
theorem dX10_init_268 : decode cX10_init 268 = .ok (.aload_n 0, 1) := by decide +kernel
theorem dX10_init_269 : decode cX10_init 269 = .ok (.iconst 0, 1) := by decide +kernel
theorem dX10_init_270 : decode cX10_init 270 = .ok (.putfield 132, 3) := by decide +kernel
theorem dX10_init_273 : decode cX10_init 273 = .ok (.aload_n 0, 1) := by decide +kernel
theorem dX10_init_274 : decode cX10_init 274 = .ok (.iconst 0, 1) := by decide +kernel
theorem dX10_init_275 : decode cX10_init 275 = .ok (.putfield 135, 3) := by decide +kernel
theorem dX10_init_278 : decode cX10_init 278 = .ok (.aload_n 0, 1) := by decide +kernel
theorem dX10_init_279 : decode cX10_init 279 = .ok (.iconst 0, 1) := by decide +kernel
theorem dX10_init_280 : decode cX10_init 280 = .ok (.putfield 138, 3) := by decide +kernel
theorem dX10_init_283 : decode cX10_init 283 = .ok (.aload_n 0, 1) := by decide +kernel
theorem dX10_init_284 : decode cX10_init 284 = .ok (.iconst 0, 1) := by decide +kernel
theorem dX10_init_285 : decode cX10_init 285 = .ok (.putfield 141, 3) := by decide +kernel
theorem dX10_init_288 : decode cX10_init 288 = .ok (.aload_n 0, 1) := by decide +kernel
theorem dX10_init_289 : decode cX10_init 289 = .ok (.bipush 64, 2) := by decide +kernel
theorem dX10_init_291 : decode cX10_init 291 = .ok (.newarray .int, 2) := by decide +kernel
theorem dX10_init_293 : decode cX10_init 293 = .ok (.putfield 144, 3) := by decide +kernel
theorem dX10_init_296 : decode cX10_init 296 = .ok (.aload_n 0, 1) := by decide +kernel
theorem dX10_init_297 : decode cX10_init 297 = .ok (.bipush 16, 2) := by decide +kernel
theorem dX10_init_299 : decode cX10_init 299 = .ok (.newarray .int, 2) := by decide +kernel
theorem dX10_init_301 : decode cX10_init 301 = .ok (.putfield 147, 3) := by decide +kernel
theorem dX10_init_304 : decode cX10_init 304 = .ok (.aload_n 0, 1) := by decide +kernel
theorem dX10_init_305 : decode cX10_init 305 = .ok (.sipush 128, 3) := by decide +kernel
theorem dX10_init_308 : decode cX10_init 308 = .ok (.newarray .int, 2) := by decide +kernel
theorem dX10_init_310 : decode cX10_init 310 = .ok (.putfield 150, 3) := by decide +kernel
theorem dX10_init_313 : decode cX10_init 313 = .ok (.aload_n 0, 1) := by decide +kernel
theorem dX10_init_314 : decode cX10_init 314 = .ok (.sipush 128, 3) := by decide +kernel
theorem dX10_init_317 : decode cX10_init 317 = .ok (.newarray .int, 2) := by decide +kernel
theorem dX10_init_319 : decode cX10_init 319 = .ok (.putfield 153, 3) := by decide +kernel
theorem dX10_init_322 : decode cX10_init 322 = .ok (.aload_n 0, 1) := by decide +kernel
theorem dX10_init_323 : decode cX10_init 323 = .ok (.iconst 3, 1) := by decide +kernel
theorem dX10_init_324 : decode cX10_init 324 = .ok (.newarray .int, 2) := by decide +kernel
theorem dX10_init_326 : decode cX10_init 326 = .ok (.dup, 1) := by decide +kernel
theorem dX10_init_327 : decode cX10_init 327 = .ok (.iconst 0, 1) := by decide +kernel
theorem dX10_init_328 : decode cX10_init 328 = .ok (.iconst (-1), 1) := by decide +kernel
theorem dX10_init_329 : decode cX10_init 329 = .ok (.iastore, 1) := by decide +kernel
theorem dX10_init_330 : decode cX10_init 330 = .ok (.dup, 1) := by decide +kernel
theorem dX10_init_331 : decode cX10_init 331 = .ok (.iconst 1, 1) := by decide +kernel
theorem dX10_init_332 : decode cX10_init 332 = .ok (.iconst (-1), 1) := by decide +kernel
theorem dX10_init_333 : decode cX10_init 333 = .ok (.iastore, 1) := by decide +kernel
theorem dX10_init_334 : decode cX10_init 334 = .ok (.dup, 1) := by decide +kernel
theorem dX10_init_335 : decode cX10_init 335 = .ok (.iconst 2, 1) := by decide +kernel
theorem dX10_init_336 : decode cX10_init 336 = .ok (.iconst (-1), 1) := by decide +kernel
theorem dX10_init_337 : decode cX10_init 337 = .ok (.iastore, 1) := by decide +kernel
theorem dX10_init_338 : decode cX10_init 338 = .ok (.putfield 156, 3) := by decide +kernel
theorem dX10_init_341 : decode cX10_init 341 = .ok (.aload_n 0, 1) := by decide +kernel
theorem dX10_init_342 : decode cX10_init 342 = .ok (.iconst 3, 1) := by decide +kernel
theorem dX10_init_343 : decode cX10_init 343 = .ok (.newarray .int, 2) := by decide +kernel
theorem dX10_init_345 : decode cX10_init 345 = .ok (.putfield 159, 3) := by decide +kernel
theorem dX10_init_348 : decode cX10_init 348 = .ok (.aload_n 0, 1) := by decide +kernel
theorem dX10_init_349 : decode cX10_init 349 = .ok (.sipush 192, 3) := by decide +kernel
theorem dX10_init_352 : decode cX10_init 352 = .ok (.newarray .int, 2) := by decide +kernel
theorem dX10_init_354 : decode cX10_init 354 = .ok (.putfield 162, 3) := by decide +kernel
theorem dX10_init_357 : decode cX10_init 357 = .ok (.aload_n 0, 1) := by decide +kernel
theorem dX10_init_358 : decode cX10_init 358 = .ok (.invokevirtual 165, 3) := by decide +kernel
theorem dX10_init_361 : decode cX10_init 361 = .ok (.return_, 1) := by decide +kernel
theorem dX10_within_0 : decode cX10_within 0 = .ok (.iload_n 1, 1) := by decide +kernel
theorem dX10_within_1 : decode cX10_within 1 = .ok (.iload_n 2, 1) := by decide +kernel
theorem dX10_within_2 : decode cX10_within 2 = .ok (.if_icmp .lt 12, 3) := by decide +kernel
theorem dX10_within_5 : decode cX10_within 5 = .ok (.iload_n 1, 1) := by decide +kernel
theorem dX10_within_6 : decode cX10_within 6 = .ok (.iload_n 3, 1) := by decide +kernel
theorem dX10_within_7 : decode cX10_within 7 = .ok (.if_icmp .gt 7, 3) := by decide +kernel
theorem dX10_within_10 : decode cX10_within 10 = .ok (.iconst 1, 1) := by decide +kernel
theorem dX10_within_11 : decode cX10_within 11 = .ok (.goto 4, 3) := by decide +kernel
theorem dX10_within_14 : decode cX10_within 14 = .ok (.iconst 0, 1) := by decide +kernel
theorem dX10_within_15 : decode cX10_within 15 = .ok (.ireturn, 1) := by decide +kernel
theorem dX10_open_0 : decode cX10_open 0 = .ok (.iconst 0, 1) := by decide +kernel
theorem dX10_open_1 : decode cX10_open 1 = .ok (.istore_n 1, 1) := by decide +kernel
theorem dX10_open_2 : decode cX10_open 2 = .ok (.iload_n 1, 1) := by decide +kernel
theorem dX10_open_3 : decode cX10_open 3 = .ok (.bipush 64, 2) := by decide +kernel
theorem dX10_open_5 : decode cX10_open 5 = .ok (.if_icmp .ge 23, 3) := by decide +kernel
theorem dX10_open_8 : decode cX10_open 8 = .ok (.aload_n 0, 1) := by decide +kernel
theorem dX10_open_9 : decode cX10_open 9 = .ok (.getfield 22, 3) := by decide +kernel
theorem dX10_open_12 : decode cX10_open 12 = .ok (.iload_n 1, 1) := by decide +kernel
theorem dX10_open_13 : decode cX10_open 13 = .ok (.iconst 2, 1) := by decide +kernel
theorem dX10_open_14 : decode cX10_open 14 = .ok (.aload_n 0, 1) := by decide +kernel
theorem dX10_open_15 : decode cX10_open 15 = .ok (.getfield 16, 3) := by decide +kernel
theorem dX10_open_18 : decode cX10_open 18 = .ok (.ishl, 1) := by decide +kernel
theorem dX10_open_19 : decode cX10_open 19 = .ok (.iconst 1, 1) := by decide +kernel
theorem dX10_open_20 : decode cX10_open 20 = .ok (.isub, 1) := by decide +kernel
theorem dX10_open_21 : decode cX10_open 21 = .ok (.iastore, 1) := by decide +kernel
theorem dX10_open_22 : decode cX10_open 22 = .ok (.iinc 1 1, 3) := by decide +kernel
theorem dX10_open_25 : decode cX10_open 25 = .ok (.goto (-23), 3) := by decide +kernel
theorem dX10_open_28 : decode cX10_open 28 = .ok (.return_, 1) := by decide +kernel
theorem dX10_lines_0 : decode cX10_lines 0 = .ok (.aload_n 0, 1) := by decide +kernel
theorem dX10_lines_1 : decode cX10_lines 1 = .ok (.getfield 7, 3) := by decide +kernel
theorem dX10_lines_4 : decode cX10_lines 4 = .ok (.aload_n 0, 1) := by decide +kernel
theorem dX10_lines_5 : decode cX10_lines 5 = .ok (.getfield 13, 3) := by decide +kernel
theorem dX10_lines_8 : decode cX10_lines 8 = .ok (.iadd, 1) := by decide +kernel
theorem dX10_lines_9 : decode cX10_lines 9 = .ok (.ireturn, 1) := by decide +kernel
theorem dX10_isLine_0 : decode cX10_isLine 0 = .ok (.aload_n 0, 1) := by decide +kernel
theorem dX10_isLine_1 : decode cX10_isLine 1 = .ok (.iload_n 1, 1) := by decide +kernel
theorem dX10_isLine_2 : decode cX10_isLine 2 = .ok (.iconst 0, 1) := by decide +kernel
theorem dX10_isLine_3 : decode cX10_isLine 3 = .ok (.aload_n 0, 1) := by decide +kernel
theorem dX10_isLine_4 : decode cX10_isLine 4 = .ok (.invokevirtual 168, 3) := by decide +kernel
theorem dX10_isLine_7 : decode cX10_isLine 7 = .ok (.iconst 1, 1) := by decide +kernel
theorem dX10_isLine_8 : decode cX10_isLine 8 = .ok (.isub, 1) := by decide +kernel
theorem dX10_isLine_9 : decode cX10_isLine 9 = .ok (.invokevirtual 172, 3) := by decide +kernel
theorem dX10_isLine_12 : decode cX10_isLine 12 = .ok (.ireturn, 1) := by decide +kernel
theorem dX10_isCell_0 : decode cX10_isCell 0 = .ok (.aload_n 0, 1) := by decide +kernel
theorem dX10_isCell_1 : decode cX10_isCell 1 = .ok (.iload_n 1, 1) := by decide +kernel
theorem dX10_isCell_2 : decode cX10_isCell 2 = .ok (.iconst 0, 1) := by decide +kernel
theorem dX10_isCell_3 : decode cX10_isCell 3 = .ok (.aload_n 0, 1) := by decide +kernel
theorem dX10_isCell_4 : decode cX10_isCell 4 = .ok (.getfield 7, 3) := by decide +kernel
theorem dX10_isCell_7 : decode cX10_isCell 7 = .ok (.iconst 1, 1) := by decide +kernel
theorem dX10_isCell_8 : decode cX10_isCell 8 = .ok (.isub, 1) := by decide +kernel
theorem dX10_isCell_9 : decode cX10_isCell 9 = .ok (.invokevirtual 172, 3) := by decide +kernel
theorem dX10_isCell_12 : decode cX10_isCell 12 = .ok (.ifCond .eq 22, 3) := by decide +kernel
theorem dX10_isCell_15 : decode cX10_isCell 15 = .ok (.aload_n 0, 1) := by decide +kernel
theorem dX10_isCell_16 : decode cX10_isCell 16 = .ok (.iload_n 2, 1) := by decide +kernel
theorem dX10_isCell_17 : decode cX10_isCell 17 = .ok (.iconst 0, 1) := by decide +kernel
theorem dX10_isCell_18 : decode cX10_isCell 18 = .ok (.aload_n 0, 1) := by decide +kernel
theorem dX10_isCell_19 : decode cX10_isCell 19 = .ok (.getfield 13, 3) := by decide +kernel
theorem dX10_isCell_22 : decode cX10_isCell 22 = .ok (.iconst 1, 1) := by decide +kernel
theorem dX10_isCell_23 : decode cX10_isCell 23 = .ok (.isub, 1) := by decide +kernel
theorem dX10_isCell_24 : decode cX10_isCell 24 = .ok (.invokevirtual 172, 3) := by decide +kernel
theorem dX10_isCell_27 : decode cX10_isCell 27 = .ok (.ifCond .eq 7, 3) := by decide +kernel
theorem dX10_isCell_30 : decode cX10_isCell 30 = .ok (.iconst 1, 1) := by decide +kernel
theorem dX10_isCell_31 : decode cX10_isCell 31 = .ok (.goto 4, 3) := by decide +kernel
theorem dX10_isCell_34 : decode cX10_isCell 34 = .ok (.iconst 0, 1) := by decide +kernel
theorem dX10_isCell_35 : decode cX10_isCell 35 = .ok (.ireturn, 1) := by decide +kernel
theorem dX10_isColor_0 : decode cX10_isColor 0 = .ok (.aload_n 0, 1) := by decide +kernel
theorem dX10_isColor_1 : decode cX10_isColor 1 = .ok (.iload_n 1, 1) := by decide +kernel
theorem dX10_isColor_2 : decode cX10_isColor 2 = .ok (.iconst 0, 1) := by decide +kernel
theorem dX10_isColor_3 : decode cX10_isColor 3 = .ok (.aload_n 0, 1) := by decide +kernel
theorem dX10_isColor_4 : decode cX10_isColor 4 = .ok (.getfield 16, 3) := by decide +kernel
theorem dX10_isColor_7 : decode cX10_isColor 7 = .ok (.invokevirtual 172, 3) := by decide +kernel
theorem dX10_isColor_10 : decode cX10_isColor 10 = .ok (.ireturn, 1) := by decide +kernel
theorem dX10_size_0 : decode cX10_size 0 = .ok (.iload_n 1, 1) := by decide +kernel
theorem dX10_size_1 : decode cX10_size 1 = .ok (.aload_n 0, 1) := by decide +kernel
theorem dX10_size_2 : decode cX10_size 2 = .ok (.getfield 7, 3) := by decide +kernel
theorem dX10_size_5 : decode cX10_size 5 = .ok (.if_icmp .ge 10, 3) := by decide +kernel
theorem dX10_size_8 : decode cX10_size 8 = .ok (.aload_n 0, 1) := by decide +kernel
theorem dX10_size_9 : decode cX10_size 9 = .ok (.getfield 13, 3) := by decide +kernel
theorem dX10_size_12 : decode cX10_size 12 = .ok (.goto 7, 3) := by decide +kernel
theorem dX10_size_15 : decode cX10_size 15 = .ok (.aload_n 0, 1) := by decide +kernel
theorem dX10_size_16 : decode cX10_size 16 = .ok (.getfield 7, 3) := by decide +kernel
theorem dX10_size_19 : decode cX10_size 19 = .ok (.ireturn, 1) := by decide +kernel
theorem dX10_cellOf_0 : decode cX10_cellOf 0 = .ok (.iload_n 1, 1) := by decide +kernel
theorem dX10_cellOf_1 : decode cX10_cellOf 1 = .ok (.aload_n 0, 1) := by decide +kernel
theorem dX10_cellOf_2 : decode cX10_cellOf 2 = .ok (.getfield 7, 3) := by decide +kernel
theorem dX10_cellOf_5 : decode cX10_cellOf 5 = .ok (.if_icmp .ge 12, 3) := by decide +kernel
theorem dX10_cellOf_8 : decode cX10_cellOf 8 = .ok (.bipush 8, 2) := by decide +kernel
theorem dX10_cellOf_10 : decode cX10_cellOf 10 = .ok (.iload_n 1, 1) := by decide +kernel
theorem dX10_cellOf_11 : decode cX10_cellOf 11 = .ok (.imul, 1) := by decide +kernel
theorem dX10_cellOf_12 : decode cX10_cellOf 12 = .ok (.iload_n 2, 1) := by decide +kernel
theorem dX10_cellOf_13 : decode cX10_cellOf 13 = .ok (.iadd, 1) := by decide +kernel
theorem dX10_cellOf_14 : decode cX10_cellOf 14 = .ok (.goto 14, 3) := by decide +kernel
theorem dX10_cellOf_17 : decode cX10_cellOf 17 = .ok (.bipush 8, 2) := by decide +kernel
theorem dX10_cellOf_19 : decode cX10_cellOf 19 = .ok (.iload_n 2, 1) := by decide +kernel
theorem dX10_cellOf_20 : decode cX10_cellOf 20 = .ok (.imul, 1) := by decide +kernel
theorem dX10_cellOf_21 : decode cX10_cellOf 21 = .ok (.iload_n 1, 1) := by decide +kernel
theorem dX10_cellOf_22 : decode cX10_cellOf 22 = .ok (.iadd, 1) := by decide +kernel
theorem dX10_cellOf_23 : decode cX10_cellOf 23 = .ok (.aload_n 0, 1) := by decide +kernel
theorem dX10_cellOf_24 : decode cX10_cellOf 24 = .ok (.getfield 7, 3) := by decide +kernel
theorem dX10_cellOf_27 : decode cX10_cellOf 27 = .ok (.isub, 1) := by decide +kernel
theorem dX10_cellOf_28 : decode cX10_cellOf 28 = .ok (.ireturn, 1) := by decide +kernel
theorem dX10_ones_0 : decode cX10_ones 0 = .ok (.iconst 0, 1) := by decide +kernel
theorem dX10_ones_1 : decode cX10_ones 1 = .ok (.istore_n 2, 1) := by decide +kernel
theorem dX10_ones_2 : decode cX10_ones 2 = .ok (.iload_n 1, 1) := by decide +kernel
theorem dX10_ones_3 : decode cX10_ones 3 = .ok (.istore_n 3, 1) := by decide +kernel
theorem dX10_ones_4 : decode cX10_ones 4 = .ok (.iload_n 3, 1) := by decide +kernel
theorem dX10_ones_5 : decode cX10_ones 5 = .ok (.ifCond .eq 15, 3) := by decide +kernel
theorem dX10_ones_8 : decode cX10_ones 8 = .ok (.iinc 2 1, 3) := by decide +kernel
theorem dX10_ones_11 : decode cX10_ones 11 = .ok (.iload_n 3, 1) := by decide +kernel
theorem dX10_ones_12 : decode cX10_ones 12 = .ok (.iload_n 3, 1) := by decide +kernel
theorem dX10_ones_13 : decode cX10_ones 13 = .ok (.iconst 1, 1) := by decide +kernel
theorem dX10_ones_14 : decode cX10_ones 14 = .ok (.isub, 1) := by decide +kernel
theorem dX10_ones_15 : decode cX10_ones 15 = .ok (.iand, 1) := by decide +kernel
theorem dX10_ones_16 : decode cX10_ones 16 = .ok (.istore_n 3, 1) := by decide +kernel
theorem dX10_ones_17 : decode cX10_ones 17 = .ok (.goto (-13), 3) := by decide +kernel
theorem dX10_ones_20 : decode cX10_ones 20 = .ok (.iload_n 2, 1) := by decide +kernel
theorem dX10_ones_21 : decode cX10_ones 21 = .ok (.ireturn, 1) := by decide +kernel
theorem dX10_isDecided_0 : decode cX10_isDecided 0 = .ok (.aload_n 0, 1) := by decide +kernel
theorem dX10_isDecided_1 : decode cX10_isDecided 1 = .ok (.getfield 22, 3) := by decide +kernel
theorem dX10_isDecided_4 : decode cX10_isDecided 4 = .ok (.iload_n 1, 1) := by decide +kernel
theorem dX10_isDecided_5 : decode cX10_isDecided 5 = .ok (.iaload, 1) := by decide +kernel
theorem dX10_isDecided_6 : decode cX10_isDecided 6 = .ok (.aload_n 0, 1) := by decide +kernel
theorem dX10_isDecided_7 : decode cX10_isDecided 7 = .ok (.getfield 22, 3) := by decide +kernel
theorem dX10_isDecided_10 : decode cX10_isDecided 10 = .ok (.iload_n 1, 1) := by decide +kernel
theorem dX10_isDecided_11 : decode cX10_isDecided 11 = .ok (.iaload, 1) := by decide +kernel
theorem dX10_isDecided_12 : decode cX10_isDecided 12 = .ok (.iconst 1, 1) := by decide +kernel
theorem dX10_isDecided_13 : decode cX10_isDecided 13 = .ok (.isub, 1) := by decide +kernel
theorem dX10_isDecided_14 : decode cX10_isDecided 14 = .ok (.iand, 1) := by decide +kernel
theorem dX10_isDecided_15 : decode cX10_isDecided 15 = .ok (.ifCond .ne 7, 3) := by decide +kernel
theorem dX10_isDecided_18 : decode cX10_isDecided 18 = .ok (.iconst 1, 1) := by decide +kernel
theorem dX10_isDecided_19 : decode cX10_isDecided 19 = .ok (.goto 4, 3) := by decide +kernel
theorem dX10_isDecided_22 : decode cX10_isDecided 22 = .ok (.iconst 0, 1) := by decide +kernel
theorem dX10_isDecided_23 : decode cX10_isDecided 23 = .ok (.ireturn, 1) := by decide +kernel
theorem dX10_colorAt_0 : decode cX10_colorAt 0 = .ok (.iconst 0, 1) := by decide +kernel
theorem dX10_colorAt_1 : decode cX10_colorAt 1 = .ok (.istore_n 2, 1) := by decide +kernel
theorem dX10_colorAt_2 : decode cX10_colorAt 2 = .ok (.aload_n 0, 1) := by decide +kernel
theorem dX10_colorAt_3 : decode cX10_colorAt 3 = .ok (.getfield 22, 3) := by decide +kernel
theorem dX10_colorAt_6 : decode cX10_colorAt 6 = .ok (.iload_n 1, 1) := by decide +kernel
theorem dX10_colorAt_7 : decode cX10_colorAt 7 = .ok (.iaload, 1) := by decide +kernel
theorem dX10_colorAt_8 : decode cX10_colorAt 8 = .ok (.iload_n 2, 1) := by decide +kernel
theorem dX10_colorAt_9 : decode cX10_colorAt 9 = .ok (.ishr, 1) := by decide +kernel
theorem dX10_colorAt_10 : decode cX10_colorAt 10 = .ok (.iconst 1, 1) := by decide +kernel
theorem dX10_colorAt_11 : decode cX10_colorAt 11 = .ok (.if_icmp .eq 9, 3) := by decide +kernel
theorem dX10_colorAt_14 : decode cX10_colorAt 14 = .ok (.iinc 2 1, 3) := by decide +kernel
theorem dX10_colorAt_17 : decode cX10_colorAt 17 = .ok (.goto (-15), 3) := by decide +kernel
theorem dX10_colorAt_20 : decode cX10_colorAt 20 = .ok (.iload_n 2, 1) := by decide +kernel
theorem dX10_colorAt_21 : decode cX10_colorAt 21 = .ok (.ireturn, 1) := by decide +kernel
theorem dX10_move_0 : decode cX10_move 0 = .ok (.iconst 0, 1) := by decide +kernel
theorem dX10_move_1 : decode cX10_move 1 = .ok (.istore_n 3, 1) := by decide +kernel
theorem dX10_move_2 : decode cX10_move 2 = .ok (.iload_n 3, 1) := by decide +kernel
theorem dX10_move_3 : decode cX10_move 3 = .ok (.bipush 64, 2) := by decide +kernel
theorem dX10_move_5 : decode cX10_move 5 = .ok (.if_icmp .ge 31, 3) := by decide +kernel
theorem dX10_move_8 : decode cX10_move 8 = .ok (.aload_n 0, 1) := by decide +kernel
theorem dX10_move_9 : decode cX10_move 9 = .ok (.getfield 38, 3) := by decide +kernel
theorem dX10_move_12 : decode cX10_move 12 = .ok (.bipush 64, 2) := by decide +kernel
theorem dX10_move_14 : decode cX10_move 14 = .ok (.iload_n 2, 1) := by decide +kernel
theorem dX10_move_15 : decode cX10_move 15 = .ok (.imul, 1) := by decide +kernel
theorem dX10_move_16 : decode cX10_move 16 = .ok (.iload_n 3, 1) := by decide +kernel
theorem dX10_move_17 : decode cX10_move 17 = .ok (.iadd, 1) := by decide +kernel
theorem dX10_move_18 : decode cX10_move 18 = .ok (.aload_n 0, 1) := by decide +kernel
theorem dX10_move_19 : decode cX10_move 19 = .ok (.getfield 38, 3) := by decide +kernel
theorem dX10_move_22 : decode cX10_move 22 = .ok (.bipush 64, 2) := by decide +kernel
theorem dX10_move_24 : decode cX10_move 24 = .ok (.iload_n 1, 1) := by decide +kernel
theorem dX10_move_25 : decode cX10_move 25 = .ok (.imul, 1) := by decide +kernel
theorem dX10_move_26 : decode cX10_move 26 = .ok (.iload_n 3, 1) := by decide +kernel
theorem dX10_move_27 : decode cX10_move 27 = .ok (.iadd, 1) := by decide +kernel
theorem dX10_move_28 : decode cX10_move 28 = .ok (.iaload, 1) := by decide +kernel
theorem dX10_move_29 : decode cX10_move 29 = .ok (.iastore, 1) := by decide +kernel
theorem dX10_move_30 : decode cX10_move 30 = .ok (.iinc 3 1, 3) := by decide +kernel
theorem dX10_move_33 : decode cX10_move 33 = .ok (.goto (-31), 3) := by decide +kernel
theorem dX10_move_36 : decode cX10_move 36 = .ok (.iconst 0, 1) := by decide +kernel
theorem dX10_move_37 : decode cX10_move 37 = .ok (.istore_n 3, 1) := by decide +kernel
theorem dX10_move_38 : decode cX10_move 38 = .ok (.iload_n 3, 1) := by decide +kernel
theorem dX10_move_39 : decode cX10_move 39 = .ok (.bipush 16, 2) := by decide +kernel
theorem dX10_move_41 : decode cX10_move 41 = .ok (.if_icmp .ge 31, 3) := by decide +kernel
theorem dX10_move_44 : decode cX10_move 44 = .ok (.aload_n 0, 1) := by decide +kernel
theorem dX10_move_45 : decode cX10_move 45 = .ok (.getfield 41, 3) := by decide +kernel
theorem dX10_move_48 : decode cX10_move 48 = .ok (.bipush 16, 2) := by decide +kernel
theorem dX10_move_50 : decode cX10_move 50 = .ok (.iload_n 2, 1) := by decide +kernel
theorem dX10_move_51 : decode cX10_move 51 = .ok (.imul, 1) := by decide +kernel
theorem dX10_move_52 : decode cX10_move 52 = .ok (.iload_n 3, 1) := by decide +kernel
theorem dX10_move_53 : decode cX10_move 53 = .ok (.iadd, 1) := by decide +kernel
theorem dX10_move_54 : decode cX10_move 54 = .ok (.aload_n 0, 1) := by decide +kernel
theorem dX10_move_55 : decode cX10_move 55 = .ok (.getfield 41, 3) := by decide +kernel
theorem dX10_move_58 : decode cX10_move 58 = .ok (.bipush 16, 2) := by decide +kernel
theorem dX10_move_60 : decode cX10_move 60 = .ok (.iload_n 1, 1) := by decide +kernel
theorem dX10_move_61 : decode cX10_move 61 = .ok (.imul, 1) := by decide +kernel
theorem dX10_move_62 : decode cX10_move 62 = .ok (.iload_n 3, 1) := by decide +kernel
theorem dX10_move_63 : decode cX10_move 63 = .ok (.iadd, 1) := by decide +kernel
theorem dX10_move_64 : decode cX10_move 64 = .ok (.iaload, 1) := by decide +kernel
theorem dX10_move_65 : decode cX10_move 65 = .ok (.iastore, 1) := by decide +kernel
theorem dX10_move_66 : decode cX10_move 66 = .ok (.iinc 3 1, 3) := by decide +kernel
theorem dX10_move_69 : decode cX10_move 69 = .ok (.goto (-31), 3) := by decide +kernel
theorem dX10_move_72 : decode cX10_move 72 = .ok (.iconst 0, 1) := by decide +kernel
theorem dX10_move_73 : decode cX10_move 73 = .ok (.istore_n 3, 1) := by decide +kernel
theorem dX10_move_74 : decode cX10_move 74 = .ok (.iload_n 3, 1) := by decide +kernel
theorem dX10_move_75 : decode cX10_move 75 = .ok (.sipush 128, 3) := by decide +kernel
theorem dX10_move_78 : decode cX10_move 78 = .ok (.if_icmp .ge 57, 3) := by decide +kernel
theorem dX10_move_81 : decode cX10_move 81 = .ok (.aload_n 0, 1) := by decide +kernel
theorem dX10_move_82 : decode cX10_move 82 = .ok (.getfield 44, 3) := by decide +kernel
theorem dX10_move_85 : decode cX10_move 85 = .ok (.sipush 128, 3) := by decide +kernel
theorem dX10_move_88 : decode cX10_move 88 = .ok (.iload_n 2, 1) := by decide +kernel
theorem dX10_move_89 : decode cX10_move 89 = .ok (.imul, 1) := by decide +kernel
theorem dX10_move_90 : decode cX10_move 90 = .ok (.iload_n 3, 1) := by decide +kernel
theorem dX10_move_91 : decode cX10_move 91 = .ok (.iadd, 1) := by decide +kernel
theorem dX10_move_92 : decode cX10_move 92 = .ok (.aload_n 0, 1) := by decide +kernel
theorem dX10_move_93 : decode cX10_move 93 = .ok (.getfield 44, 3) := by decide +kernel
theorem dX10_move_96 : decode cX10_move 96 = .ok (.sipush 128, 3) := by decide +kernel
theorem dX10_move_99 : decode cX10_move 99 = .ok (.iload_n 1, 1) := by decide +kernel
theorem dX10_move_100 : decode cX10_move 100 = .ok (.imul, 1) := by decide +kernel
theorem dX10_move_101 : decode cX10_move 101 = .ok (.iload_n 3, 1) := by decide +kernel
theorem dX10_move_102 : decode cX10_move 102 = .ok (.iadd, 1) := by decide +kernel
theorem dX10_move_103 : decode cX10_move 103 = .ok (.iaload, 1) := by decide +kernel
theorem dX10_move_104 : decode cX10_move 104 = .ok (.iastore, 1) := by decide +kernel
theorem dX10_move_105 : decode cX10_move 105 = .ok (.aload_n 0, 1) := by decide +kernel
theorem dX10_move_106 : decode cX10_move 106 = .ok (.getfield 47, 3) := by decide +kernel
theorem dX10_move_109 : decode cX10_move 109 = .ok (.sipush 128, 3) := by decide +kernel
theorem dX10_move_112 : decode cX10_move 112 = .ok (.iload_n 2, 1) := by decide +kernel
theorem dX10_move_113 : decode cX10_move 113 = .ok (.imul, 1) := by decide +kernel
theorem dX10_move_114 : decode cX10_move 114 = .ok (.iload_n 3, 1) := by decide +kernel
theorem dX10_move_115 : decode cX10_move 115 = .ok (.iadd, 1) := by decide +kernel
theorem dX10_move_116 : decode cX10_move 116 = .ok (.aload_n 0, 1) := by decide +kernel
theorem dX10_move_117 : decode cX10_move 117 = .ok (.getfield 47, 3) := by decide +kernel
theorem dX10_move_120 : decode cX10_move 120 = .ok (.sipush 128, 3) := by decide +kernel
theorem dX10_move_123 : decode cX10_move 123 = .ok (.iload_n 1, 1) := by decide +kernel
theorem dX10_move_124 : decode cX10_move 124 = .ok (.imul, 1) := by decide +kernel
theorem dX10_move_125 : decode cX10_move 125 = .ok (.iload_n 3, 1) := by decide +kernel
theorem dX10_move_126 : decode cX10_move 126 = .ok (.iadd, 1) := by decide +kernel
theorem dX10_move_127 : decode cX10_move 127 = .ok (.iaload, 1) := by decide +kernel
theorem dX10_move_128 : decode cX10_move 128 = .ok (.iastore, 1) := by decide +kernel
theorem dX10_move_129 : decode cX10_move 129 = .ok (.iinc 3 1, 3) := by decide +kernel
theorem dX10_move_132 : decode cX10_move 132 = .ok (.goto (-58), 3) := by decide +kernel
theorem dX10_move_135 : decode cX10_move 135 = .ok (.return_, 1) := by decide +kernel
theorem dX10_keep_0 : decode cX10_keep 0 = .ok (.aload_n 0, 1) := by decide +kernel
theorem dX10_keep_1 : decode cX10_keep 1 = .ok (.getfield 35, 3) := by decide +kernel
theorem dX10_keep_4 : decode cX10_keep 4 = .ok (.bipush 8, 2) := by decide +kernel
theorem dX10_keep_6 : decode cX10_keep 6 = .ok (.if_icmp .ne 31, 3) := by decide +kernel
theorem dX10_keep_9 : decode cX10_keep 9 = .ok (.iconst 1, 1) := by decide +kernel
theorem dX10_keep_10 : decode cX10_keep 10 = .ok (.istore_n 1, 1) := by decide +kernel
theorem dX10_keep_11 : decode cX10_keep 11 = .ok (.iload_n 1, 1) := by decide +kernel
theorem dX10_keep_12 : decode cX10_keep 12 = .ok (.bipush 8, 2) := by decide +kernel
theorem dX10_keep_14 : decode cX10_keep 14 = .ok (.if_icmp .ge 17, 3) := by decide +kernel
theorem dX10_keep_17 : decode cX10_keep 17 = .ok (.aload_n 0, 1) := by decide +kernel
theorem dX10_keep_18 : decode cX10_keep 18 = .ok (.iload_n 1, 1) := by decide +kernel
theorem dX10_keep_19 : decode cX10_keep 19 = .ok (.iload_n 1, 1) := by decide +kernel
theorem dX10_keep_20 : decode cX10_keep 20 = .ok (.iconst 1, 1) := by decide +kernel
theorem dX10_keep_21 : decode cX10_keep 21 = .ok (.isub, 1) := by decide +kernel
theorem dX10_keep_22 : decode cX10_keep 22 = .ok (.invokevirtual 176, 3) := by decide +kernel
theorem dX10_keep_25 : decode cX10_keep 25 = .ok (.iinc 1 1, 3) := by decide +kernel
theorem dX10_keep_28 : decode cX10_keep 28 = .ok (.goto (-17), 3) := by decide +kernel
theorem dX10_keep_31 : decode cX10_keep 31 = .ok (.aload_n 0, 1) := by decide +kernel
theorem dX10_keep_32 : decode cX10_keep 32 = .ok (.bipush 7, 2) := by decide +kernel
theorem dX10_keep_34 : decode cX10_keep 34 = .ok (.putfield 35, 3) := by decide +kernel
theorem dX10_keep_37 : decode cX10_keep 37 = .ok (.iconst 0, 1) := by decide +kernel
theorem dX10_keep_38 : decode cX10_keep 38 = .ok (.istore_n 1, 1) := by decide +kernel
theorem dX10_keep_39 : decode cX10_keep 39 = .ok (.iload_n 1, 1) := by decide +kernel
theorem dX10_keep_40 : decode cX10_keep 40 = .ok (.bipush 64, 2) := by decide +kernel
theorem dX10_keep_42 : decode cX10_keep 42 = .ok (.if_icmp .ge 29, 3) := by decide +kernel
theorem dX10_keep_45 : decode cX10_keep 45 = .ok (.aload_n 0, 1) := by decide +kernel
theorem dX10_keep_46 : decode cX10_keep 46 = .ok (.getfield 38, 3) := by decide +kernel
theorem dX10_keep_49 : decode cX10_keep 49 = .ok (.bipush 64, 2) := by decide +kernel
theorem dX10_keep_51 : decode cX10_keep 51 = .ok (.aload_n 0, 1) := by decide +kernel
theorem dX10_keep_52 : decode cX10_keep 52 = .ok (.getfield 35, 3) := by decide +kernel
theorem dX10_keep_55 : decode cX10_keep 55 = .ok (.imul, 1) := by decide +kernel
theorem dX10_keep_56 : decode cX10_keep 56 = .ok (.iload_n 1, 1) := by decide +kernel
theorem dX10_keep_57 : decode cX10_keep 57 = .ok (.iadd, 1) := by decide +kernel
theorem dX10_keep_58 : decode cX10_keep 58 = .ok (.aload_n 0, 1) := by decide +kernel
theorem dX10_keep_59 : decode cX10_keep 59 = .ok (.getfield 22, 3) := by decide +kernel
theorem dX10_keep_62 : decode cX10_keep 62 = .ok (.iload_n 1, 1) := by decide +kernel
theorem dX10_keep_63 : decode cX10_keep 63 = .ok (.iaload, 1) := by decide +kernel
theorem dX10_keep_64 : decode cX10_keep 64 = .ok (.iastore, 1) := by decide +kernel
theorem dX10_keep_65 : decode cX10_keep 65 = .ok (.iinc 1 1, 3) := by decide +kernel
theorem dX10_keep_68 : decode cX10_keep 68 = .ok (.goto (-29), 3) := by decide +kernel
theorem dX10_keep_71 : decode cX10_keep 71 = .ok (.iconst 0, 1) := by decide +kernel
theorem dX10_keep_72 : decode cX10_keep 72 = .ok (.istore_n 1, 1) := by decide +kernel
theorem dX10_keep_73 : decode cX10_keep 73 = .ok (.iload_n 1, 1) := by decide +kernel
theorem dX10_keep_74 : decode cX10_keep 74 = .ok (.bipush 16, 2) := by decide +kernel
theorem dX10_keep_76 : decode cX10_keep 76 = .ok (.if_icmp .ge 29, 3) := by decide +kernel
theorem dX10_keep_79 : decode cX10_keep 79 = .ok (.aload_n 0, 1) := by decide +kernel
theorem dX10_keep_80 : decode cX10_keep 80 = .ok (.getfield 41, 3) := by decide +kernel
theorem dX10_keep_83 : decode cX10_keep 83 = .ok (.bipush 16, 2) := by decide +kernel
theorem dX10_keep_85 : decode cX10_keep 85 = .ok (.aload_n 0, 1) := by decide +kernel
theorem dX10_keep_86 : decode cX10_keep 86 = .ok (.getfield 35, 3) := by decide +kernel
theorem dX10_keep_89 : decode cX10_keep 89 = .ok (.imul, 1) := by decide +kernel
theorem dX10_keep_90 : decode cX10_keep 90 = .ok (.iload_n 1, 1) := by decide +kernel
theorem dX10_keep_91 : decode cX10_keep 91 = .ok (.iadd, 1) := by decide +kernel
theorem dX10_keep_92 : decode cX10_keep 92 = .ok (.aload_n 0, 1) := by decide +kernel
theorem dX10_keep_93 : decode cX10_keep 93 = .ok (.getfield 26, 3) := by decide +kernel
theorem dX10_keep_96 : decode cX10_keep 96 = .ok (.iload_n 1, 1) := by decide +kernel
theorem dX10_keep_97 : decode cX10_keep 97 = .ok (.iaload, 1) := by decide +kernel
theorem dX10_keep_98 : decode cX10_keep 98 = .ok (.iastore, 1) := by decide +kernel
theorem dX10_keep_99 : decode cX10_keep 99 = .ok (.iinc 1 1, 3) := by decide +kernel
theorem dX10_keep_102 : decode cX10_keep 102 = .ok (.goto (-29), 3) := by decide +kernel
theorem dX10_keep_105 : decode cX10_keep 105 = .ok (.iconst 0, 1) := by decide +kernel
theorem dX10_keep_106 : decode cX10_keep 106 = .ok (.istore_n 1, 1) := by decide +kernel
theorem dX10_keep_107 : decode cX10_keep 107 = .ok (.iload_n 1, 1) := by decide +kernel
theorem dX10_keep_108 : decode cX10_keep 108 = .ok (.sipush 128, 3) := by decide +kernel
theorem dX10_keep_111 : decode cX10_keep 111 = .ok (.if_icmp .ge 51, 3) := by decide +kernel
theorem dX10_keep_114 : decode cX10_keep 114 = .ok (.aload_n 0, 1) := by decide +kernel
theorem dX10_keep_115 : decode cX10_keep 115 = .ok (.getfield 44, 3) := by decide +kernel
theorem dX10_keep_118 : decode cX10_keep 118 = .ok (.sipush 128, 3) := by decide +kernel
theorem dX10_keep_121 : decode cX10_keep 121 = .ok (.aload_n 0, 1) := by decide +kernel
theorem dX10_keep_122 : decode cX10_keep 122 = .ok (.getfield 35, 3) := by decide +kernel
theorem dX10_keep_125 : decode cX10_keep 125 = .ok (.imul, 1) := by decide +kernel
theorem dX10_keep_126 : decode cX10_keep 126 = .ok (.iload_n 1, 1) := by decide +kernel
theorem dX10_keep_127 : decode cX10_keep 127 = .ok (.iadd, 1) := by decide +kernel
theorem dX10_keep_128 : decode cX10_keep 128 = .ok (.aload_n 0, 1) := by decide +kernel
theorem dX10_keep_129 : decode cX10_keep 129 = .ok (.getfield 29, 3) := by decide +kernel
theorem dX10_keep_132 : decode cX10_keep 132 = .ok (.iload_n 1, 1) := by decide +kernel
theorem dX10_keep_133 : decode cX10_keep 133 = .ok (.iaload, 1) := by decide +kernel
theorem dX10_keep_134 : decode cX10_keep 134 = .ok (.iastore, 1) := by decide +kernel
theorem dX10_keep_135 : decode cX10_keep 135 = .ok (.aload_n 0, 1) := by decide +kernel
theorem dX10_keep_136 : decode cX10_keep 136 = .ok (.getfield 47, 3) := by decide +kernel
theorem dX10_keep_139 : decode cX10_keep 139 = .ok (.sipush 128, 3) := by decide +kernel
theorem dX10_keep_142 : decode cX10_keep 142 = .ok (.aload_n 0, 1) := by decide +kernel
theorem dX10_keep_143 : decode cX10_keep 143 = .ok (.getfield 35, 3) := by decide +kernel
theorem dX10_keep_146 : decode cX10_keep 146 = .ok (.imul, 1) := by decide +kernel
theorem dX10_keep_147 : decode cX10_keep 147 = .ok (.iload_n 1, 1) := by decide +kernel
theorem dX10_keep_148 : decode cX10_keep 148 = .ok (.iadd, 1) := by decide +kernel
theorem dX10_keep_149 : decode cX10_keep 149 = .ok (.aload_n 0, 1) := by decide +kernel
theorem dX10_keep_150 : decode cX10_keep 150 = .ok (.getfield 32, 3) := by decide +kernel
theorem dX10_keep_153 : decode cX10_keep 153 = .ok (.iload_n 1, 1) := by decide +kernel
theorem dX10_keep_154 : decode cX10_keep 154 = .ok (.iaload, 1) := by decide +kernel
theorem dX10_keep_155 : decode cX10_keep 155 = .ok (.iastore, 1) := by decide +kernel
theorem dX10_keep_156 : decode cX10_keep 156 = .ok (.iinc 1 1, 3) := by decide +kernel
theorem dX10_keep_159 : decode cX10_keep 159 = .ok (.goto (-52), 3) := by decide +kernel
theorem dX10_keep_162 : decode cX10_keep 162 = .ok (.aload_n 0, 1) := by decide +kernel
theorem dX10_keep_163 : decode cX10_keep 163 = .ok (.dup, 1) := by decide +kernel
theorem dX10_keep_164 : decode cX10_keep 164 = .ok (.getfield 35, 3) := by decide +kernel
theorem dX10_keep_167 : decode cX10_keep 167 = .ok (.iconst 1, 1) := by decide +kernel
theorem dX10_keep_168 : decode cX10_keep 168 = .ok (.iadd, 1) := by decide +kernel
theorem dX10_keep_169 : decode cX10_keep 169 = .ok (.putfield 35, 3) := by decide +kernel
theorem dX10_keep_172 : decode cX10_keep 172 = .ok (.return_, 1) := by decide +kernel
theorem dX10_undo_0 : decode cX10_undo 0 = .ok (.aload_n 0, 1) := by decide +kernel
theorem dX10_undo_1 : decode cX10_undo 1 = .ok (.getfield 35, 3) := by decide +kernel
theorem dX10_undo_4 : decode cX10_undo 4 = .ok (.ifCond .ne 6, 3) := by decide +kernel
theorem dX10_undo_7 : decode cX10_undo 7 = .ok (.bipush (-8), 2) := by decide +kernel
theorem dX10_undo_9 : decode cX10_undo 9 = .ok (.ireturn, 1) := by decide +kernel
theorem dX10_undo_10 : decode cX10_undo 10 = .ok (.aload_n 0, 1) := by decide +kernel
theorem dX10_undo_11 : decode cX10_undo 11 = .ok (.dup, 1) := by decide +kernel
theorem dX10_undo_12 : decode cX10_undo 12 = .ok (.getfield 35, 3) := by decide +kernel
theorem dX10_undo_15 : decode cX10_undo 15 = .ok (.iconst 1, 1) := by decide +kernel
theorem dX10_undo_16 : decode cX10_undo 16 = .ok (.isub, 1) := by decide +kernel
theorem dX10_undo_17 : decode cX10_undo 17 = .ok (.putfield 35, 3) := by decide +kernel
theorem dX10_undo_20 : decode cX10_undo 20 = .ok (.iconst 0, 1) := by decide +kernel
theorem dX10_undo_21 : decode cX10_undo 21 = .ok (.istore_n 1, 1) := by decide +kernel
theorem dX10_undo_22 : decode cX10_undo 22 = .ok (.iload_n 1, 1) := by decide +kernel
theorem dX10_undo_23 : decode cX10_undo 23 = .ok (.bipush 64, 2) := by decide +kernel
theorem dX10_undo_25 : decode cX10_undo 25 = .ok (.if_icmp .ge 29, 3) := by decide +kernel
theorem dX10_undo_28 : decode cX10_undo 28 = .ok (.aload_n 0, 1) := by decide +kernel
theorem dX10_undo_29 : decode cX10_undo 29 = .ok (.getfield 22, 3) := by decide +kernel
theorem dX10_undo_32 : decode cX10_undo 32 = .ok (.iload_n 1, 1) := by decide +kernel
theorem dX10_undo_33 : decode cX10_undo 33 = .ok (.aload_n 0, 1) := by decide +kernel
theorem dX10_undo_34 : decode cX10_undo 34 = .ok (.getfield 38, 3) := by decide +kernel
theorem dX10_undo_37 : decode cX10_undo 37 = .ok (.bipush 64, 2) := by decide +kernel
theorem dX10_undo_39 : decode cX10_undo 39 = .ok (.aload_n 0, 1) := by decide +kernel
theorem dX10_undo_40 : decode cX10_undo 40 = .ok (.getfield 35, 3) := by decide +kernel
theorem dX10_undo_43 : decode cX10_undo 43 = .ok (.imul, 1) := by decide +kernel
theorem dX10_undo_44 : decode cX10_undo 44 = .ok (.iload_n 1, 1) := by decide +kernel
theorem dX10_undo_45 : decode cX10_undo 45 = .ok (.iadd, 1) := by decide +kernel
theorem dX10_undo_46 : decode cX10_undo 46 = .ok (.iaload, 1) := by decide +kernel
theorem dX10_undo_47 : decode cX10_undo 47 = .ok (.iastore, 1) := by decide +kernel
theorem dX10_undo_48 : decode cX10_undo 48 = .ok (.iinc 1 1, 3) := by decide +kernel
theorem dX10_undo_51 : decode cX10_undo 51 = .ok (.goto (-29), 3) := by decide +kernel
theorem dX10_undo_54 : decode cX10_undo 54 = .ok (.iconst 0, 1) := by decide +kernel
theorem dX10_undo_55 : decode cX10_undo 55 = .ok (.istore_n 1, 1) := by decide +kernel
theorem dX10_undo_56 : decode cX10_undo 56 = .ok (.iload_n 1, 1) := by decide +kernel
theorem dX10_undo_57 : decode cX10_undo 57 = .ok (.bipush 16, 2) := by decide +kernel
theorem dX10_undo_59 : decode cX10_undo 59 = .ok (.if_icmp .ge 29, 3) := by decide +kernel
theorem dX10_undo_62 : decode cX10_undo 62 = .ok (.aload_n 0, 1) := by decide +kernel
theorem dX10_undo_63 : decode cX10_undo 63 = .ok (.getfield 26, 3) := by decide +kernel
theorem dX10_undo_66 : decode cX10_undo 66 = .ok (.iload_n 1, 1) := by decide +kernel
theorem dX10_undo_67 : decode cX10_undo 67 = .ok (.aload_n 0, 1) := by decide +kernel
theorem dX10_undo_68 : decode cX10_undo 68 = .ok (.getfield 41, 3) := by decide +kernel
theorem dX10_undo_71 : decode cX10_undo 71 = .ok (.bipush 16, 2) := by decide +kernel
theorem dX10_undo_73 : decode cX10_undo 73 = .ok (.aload_n 0, 1) := by decide +kernel
theorem dX10_undo_74 : decode cX10_undo 74 = .ok (.getfield 35, 3) := by decide +kernel
theorem dX10_undo_77 : decode cX10_undo 77 = .ok (.imul, 1) := by decide +kernel
theorem dX10_undo_78 : decode cX10_undo 78 = .ok (.iload_n 1, 1) := by decide +kernel
theorem dX10_undo_79 : decode cX10_undo 79 = .ok (.iadd, 1) := by decide +kernel
theorem dX10_undo_80 : decode cX10_undo 80 = .ok (.iaload, 1) := by decide +kernel
theorem dX10_undo_81 : decode cX10_undo 81 = .ok (.iastore, 1) := by decide +kernel
theorem dX10_undo_82 : decode cX10_undo 82 = .ok (.iinc 1 1, 3) := by decide +kernel
theorem dX10_undo_85 : decode cX10_undo 85 = .ok (.goto (-29), 3) := by decide +kernel
theorem dX10_undo_88 : decode cX10_undo 88 = .ok (.iconst 0, 1) := by decide +kernel
theorem dX10_undo_89 : decode cX10_undo 89 = .ok (.istore_n 1, 1) := by decide +kernel
theorem dX10_undo_90 : decode cX10_undo 90 = .ok (.iload_n 1, 1) := by decide +kernel
theorem dX10_undo_91 : decode cX10_undo 91 = .ok (.sipush 128, 3) := by decide +kernel
theorem dX10_undo_94 : decode cX10_undo 94 = .ok (.if_icmp .ge 51, 3) := by decide +kernel
theorem dX10_undo_97 : decode cX10_undo 97 = .ok (.aload_n 0, 1) := by decide +kernel
theorem dX10_undo_98 : decode cX10_undo 98 = .ok (.getfield 29, 3) := by decide +kernel
theorem dX10_undo_101 : decode cX10_undo 101 = .ok (.iload_n 1, 1) := by decide +kernel
theorem dX10_undo_102 : decode cX10_undo 102 = .ok (.aload_n 0, 1) := by decide +kernel
theorem dX10_undo_103 : decode cX10_undo 103 = .ok (.getfield 44, 3) := by decide +kernel
theorem dX10_undo_106 : decode cX10_undo 106 = .ok (.sipush 128, 3) := by decide +kernel
theorem dX10_undo_109 : decode cX10_undo 109 = .ok (.aload_n 0, 1) := by decide +kernel
theorem dX10_undo_110 : decode cX10_undo 110 = .ok (.getfield 35, 3) := by decide +kernel
theorem dX10_undo_113 : decode cX10_undo 113 = .ok (.imul, 1) := by decide +kernel
theorem dX10_undo_114 : decode cX10_undo 114 = .ok (.iload_n 1, 1) := by decide +kernel
theorem dX10_undo_115 : decode cX10_undo 115 = .ok (.iadd, 1) := by decide +kernel
theorem dX10_undo_116 : decode cX10_undo 116 = .ok (.iaload, 1) := by decide +kernel
theorem dX10_undo_117 : decode cX10_undo 117 = .ok (.iastore, 1) := by decide +kernel
theorem dX10_undo_118 : decode cX10_undo 118 = .ok (.aload_n 0, 1) := by decide +kernel
theorem dX10_undo_119 : decode cX10_undo 119 = .ok (.getfield 32, 3) := by decide +kernel
theorem dX10_undo_122 : decode cX10_undo 122 = .ok (.iload_n 1, 1) := by decide +kernel
theorem dX10_undo_123 : decode cX10_undo 123 = .ok (.aload_n 0, 1) := by decide +kernel
theorem dX10_undo_124 : decode cX10_undo 124 = .ok (.getfield 47, 3) := by decide +kernel
theorem dX10_undo_127 : decode cX10_undo 127 = .ok (.sipush 128, 3) := by decide +kernel
theorem dX10_undo_130 : decode cX10_undo 130 = .ok (.aload_n 0, 1) := by decide +kernel
theorem dX10_undo_131 : decode cX10_undo 131 = .ok (.getfield 35, 3) := by decide +kernel
theorem dX10_undo_134 : decode cX10_undo 134 = .ok (.imul, 1) := by decide +kernel
theorem dX10_undo_135 : decode cX10_undo 135 = .ok (.iload_n 1, 1) := by decide +kernel
theorem dX10_undo_136 : decode cX10_undo 136 = .ok (.iadd, 1) := by decide +kernel
theorem dX10_undo_137 : decode cX10_undo 137 = .ok (.iaload, 1) := by decide +kernel
theorem dX10_undo_138 : decode cX10_undo 138 = .ok (.iastore, 1) := by decide +kernel
theorem dX10_undo_139 : decode cX10_undo 139 = .ok (.iinc 1 1, 3) := by decide +kernel
theorem dX10_undo_142 : decode cX10_undo 142 = .ok (.goto (-52), 3) := by decide +kernel
theorem dX10_undo_145 : decode cX10_undo 145 = .ok (.aload_n 0, 1) := by decide +kernel
theorem dX10_undo_146 : decode cX10_undo 146 = .ok (.getfield 35, 3) := by decide +kernel
theorem dX10_undo_149 : decode cX10_undo 149 = .ok (.ireturn, 1) := by decide +kernel
theorem dX10_undoCount_0 : decode cX10_undoCount 0 = .ok (.aload_n 0, 1) := by decide +kernel
theorem dX10_undoCount_1 : decode cX10_undoCount 1 = .ok (.getfield 35, 3) := by decide +kernel
theorem dX10_undoCount_4 : decode cX10_undoCount 4 = .ok (.ireturn, 1) := by decide +kernel
theorem dX10_reset_0 : decode cX10_reset 0 = .ok (.aload_n 0, 1) := by decide +kernel
theorem dX10_reset_1 : decode cX10_reset 1 = .ok (.iload_n 1, 1) := by decide +kernel
theorem dX10_reset_2 : decode cX10_reset 2 = .ok (.iconst 1, 1) := by decide +kernel
theorem dX10_reset_3 : decode cX10_reset 3 = .ok (.bipush 8, 2) := by decide +kernel
theorem dX10_reset_5 : decode cX10_reset 5 = .ok (.invokevirtual 172, 3) := by decide +kernel
theorem dX10_reset_8 : decode cX10_reset 8 = .ok (.ifCond .eq 24, 3) := by decide +kernel
theorem dX10_reset_11 : decode cX10_reset 11 = .ok (.aload_n 0, 1) := by decide +kernel
theorem dX10_reset_12 : decode cX10_reset 12 = .ok (.iload_n 2, 1) := by decide +kernel
theorem dX10_reset_13 : decode cX10_reset 13 = .ok (.iconst 1, 1) := by decide +kernel
theorem dX10_reset_14 : decode cX10_reset 14 = .ok (.bipush 8, 2) := by decide +kernel
theorem dX10_reset_16 : decode cX10_reset 16 = .ok (.invokevirtual 172, 3) := by decide +kernel
theorem dX10_reset_19 : decode cX10_reset 19 = .ok (.ifCond .eq 13, 3) := by decide +kernel
theorem dX10_reset_22 : decode cX10_reset 22 = .ok (.aload_n 0, 1) := by decide +kernel
theorem dX10_reset_23 : decode cX10_reset 23 = .ok (.iload_n 3, 1) := by decide +kernel
theorem dX10_reset_24 : decode cX10_reset 24 = .ok (.iconst 1, 1) := by decide +kernel
theorem dX10_reset_25 : decode cX10_reset 25 = .ok (.iconst 3, 1) := by decide +kernel
theorem dX10_reset_26 : decode cX10_reset 26 = .ok (.invokevirtual 172, 3) := by decide +kernel
theorem dX10_reset_29 : decode cX10_reset 29 = .ok (.ifCond .ne 6, 3) := by decide +kernel
theorem dX10_reset_32 : decode cX10_reset 32 = .ok (.bipush (-2), 2) := by decide +kernel
theorem dX10_reset_34 : decode cX10_reset 34 = .ok (.ireturn, 1) := by decide +kernel
theorem dX10_reset_35 : decode cX10_reset 35 = .ok (.aload_n 0, 1) := by decide +kernel
theorem dX10_reset_36 : decode cX10_reset 36 = .ok (.iload_n 1, 1) := by decide +kernel
theorem dX10_reset_37 : decode cX10_reset 37 = .ok (.putfield 7, 3) := by decide +kernel
theorem dX10_reset_40 : decode cX10_reset 40 = .ok (.aload_n 0, 1) := by decide +kernel
theorem dX10_reset_41 : decode cX10_reset 41 = .ok (.iload_n 2, 1) := by decide +kernel
theorem dX10_reset_42 : decode cX10_reset 42 = .ok (.putfield 13, 3) := by decide +kernel
theorem dX10_reset_45 : decode cX10_reset 45 = .ok (.aload_n 0, 1) := by decide +kernel
theorem dX10_reset_46 : decode cX10_reset 46 = .ok (.iload_n 3, 1) := by decide +kernel
theorem dX10_reset_47 : decode cX10_reset 47 = .ok (.putfield 16, 3) := by decide +kernel
theorem dX10_reset_50 : decode cX10_reset 50 = .ok (.aload_n 0, 1) := by decide +kernel
theorem dX10_reset_51 : decode cX10_reset 51 = .ok (.invokevirtual 165, 3) := by decide +kernel
theorem dX10_reset_54 : decode cX10_reset 54 = .ok (.iconst 0, 1) := by decide +kernel
theorem dX10_reset_55 : decode cX10_reset 55 = .ok (.istore 4, 2) := by decide +kernel
theorem dX10_reset_57 : decode cX10_reset 57 = .ok (.iload 4, 2) := by decide +kernel
theorem dX10_reset_59 : decode cX10_reset 59 = .ok (.bipush 16, 2) := by decide +kernel
theorem dX10_reset_61 : decode cX10_reset 61 = .ok (.if_icmp .ge 17, 3) := by decide +kernel
theorem dX10_reset_64 : decode cX10_reset 64 = .ok (.aload_n 0, 1) := by decide +kernel
theorem dX10_reset_65 : decode cX10_reset 65 = .ok (.getfield 26, 3) := by decide +kernel
theorem dX10_reset_68 : decode cX10_reset 68 = .ok (.iload 4, 2) := by decide +kernel
theorem dX10_reset_70 : decode cX10_reset 70 = .ok (.iconst 0, 1) := by decide +kernel
theorem dX10_reset_71 : decode cX10_reset 71 = .ok (.iastore, 1) := by decide +kernel
theorem dX10_reset_72 : decode cX10_reset 72 = .ok (.iinc 4 1, 3) := by decide +kernel
theorem dX10_reset_75 : decode cX10_reset 75 = .ok (.goto (-18), 3) := by decide +kernel
theorem dX10_reset_78 : decode cX10_reset 78 = .ok (.aload_n 0, 1) := by decide +kernel
theorem dX10_reset_79 : decode cX10_reset 79 = .ok (.iconst 0, 1) := by decide +kernel
theorem dX10_reset_80 : decode cX10_reset 80 = .ok (.putfield 35, 3) := by decide +kernel
theorem dX10_reset_83 : decode cX10_reset 83 = .ok (.aload_n 0, 1) := by decide +kernel
theorem dX10_reset_84 : decode cX10_reset 84 = .ok (.iconst (-1), 1) := by decide +kernel
theorem dX10_reset_85 : decode cX10_reset 85 = .ok (.putfield 50, 3) := by decide +kernel
theorem dX10_reset_88 : decode cX10_reset 88 = .ok (.aload_n 0, 1) := by decide +kernel
theorem dX10_reset_89 : decode cX10_reset 89 = .ok (.invokevirtual 168, 3) := by decide +kernel
theorem dX10_reset_92 : decode cX10_reset 92 = .ok (.ireturn, 1) := by decide +kernel
theorem dX10_rowCount_0 : decode cX10_rowCount 0 = .ok (.aload_n 0, 1) := by decide +kernel
theorem dX10_rowCount_1 : decode cX10_rowCount 1 = .ok (.getfield 7, 3) := by decide +kernel
theorem dX10_rowCount_4 : decode cX10_rowCount 4 = .ok (.ireturn, 1) := by decide +kernel
theorem dX10_columnCount_0 : decode cX10_columnCount 0 = .ok (.aload_n 0, 1) := by decide +kernel
theorem dX10_columnCount_1 : decode cX10_columnCount 1 = .ok (.getfield 13, 3) := by decide +kernel
theorem dX10_columnCount_4 : decode cX10_columnCount 4 = .ok (.ireturn, 1) := by decide +kernel
theorem dX10_colorCount_0 : decode cX10_colorCount 0 = .ok (.aload_n 0, 1) := by decide +kernel
theorem dX10_colorCount_1 : decode cX10_colorCount 1 = .ok (.getfield 16, 3) := by decide +kernel
theorem dX10_colorCount_4 : decode cX10_colorCount 4 = .ok (.ireturn, 1) := by decide +kernel
theorem dX10_push_0 : decode cX10_push 0 = .ok (.aload_n 0, 1) := by decide +kernel
theorem dX10_push_1 : decode cX10_push 1 = .ok (.getfield 29, 3) := by decide +kernel
theorem dX10_push_4 : decode cX10_push 4 = .ok (.bipush 8, 2) := by decide +kernel
theorem dX10_push_6 : decode cX10_push 6 = .ok (.iload_n 1, 1) := by decide +kernel
theorem dX10_push_7 : decode cX10_push 7 = .ok (.imul, 1) := by decide +kernel
theorem dX10_push_8 : decode cX10_push 8 = .ok (.aload_n 0, 1) := by decide +kernel
theorem dX10_push_9 : decode cX10_push 9 = .ok (.getfield 26, 3) := by decide +kernel
theorem dX10_push_12 : decode cX10_push 12 = .ok (.iload_n 1, 1) := by decide +kernel
theorem dX10_push_13 : decode cX10_push 13 = .ok (.iaload, 1) := by decide +kernel
theorem dX10_push_14 : decode cX10_push 14 = .ok (.iadd, 1) := by decide +kernel
theorem dX10_push_15 : decode cX10_push 15 = .ok (.iload_n 2, 1) := by decide +kernel
theorem dX10_push_16 : decode cX10_push 16 = .ok (.iastore, 1) := by decide +kernel
theorem dX10_push_17 : decode cX10_push 17 = .ok (.aload_n 0, 1) := by decide +kernel
theorem dX10_push_18 : decode cX10_push 18 = .ok (.getfield 32, 3) := by decide +kernel
theorem dX10_push_21 : decode cX10_push 21 = .ok (.bipush 8, 2) := by decide +kernel
theorem dX10_push_23 : decode cX10_push 23 = .ok (.iload_n 1, 1) := by decide +kernel
theorem dX10_push_24 : decode cX10_push 24 = .ok (.imul, 1) := by decide +kernel
theorem dX10_push_25 : decode cX10_push 25 = .ok (.aload_n 0, 1) := by decide +kernel
theorem dX10_push_26 : decode cX10_push 26 = .ok (.getfield 26, 3) := by decide +kernel
theorem dX10_push_29 : decode cX10_push 29 = .ok (.iload_n 1, 1) := by decide +kernel
theorem dX10_push_30 : decode cX10_push 30 = .ok (.iaload, 1) := by decide +kernel
theorem dX10_push_31 : decode cX10_push 31 = .ok (.iadd, 1) := by decide +kernel
theorem dX10_push_32 : decode cX10_push 32 = .ok (.iload_n 3, 1) := by decide +kernel
theorem dX10_push_33 : decode cX10_push 33 = .ok (.iastore, 1) := by decide +kernel
theorem dX10_push_34 : decode cX10_push 34 = .ok (.aload_n 0, 1) := by decide +kernel
theorem dX10_push_35 : decode cX10_push 35 = .ok (.getfield 26, 3) := by decide +kernel
theorem dX10_push_38 : decode cX10_push 38 = .ok (.iload_n 1, 1) := by decide +kernel
theorem dX10_push_39 : decode cX10_push 39 = .ok (.dup2, 1) := by decide +kernel
theorem dX10_push_40 : decode cX10_push 40 = .ok (.iaload, 1) := by decide +kernel
theorem dX10_push_41 : decode cX10_push 41 = .ok (.iconst 1, 1) := by decide +kernel
theorem dX10_push_42 : decode cX10_push 42 = .ok (.iadd, 1) := by decide +kernel
theorem dX10_push_43 : decode cX10_push 43 = .ok (.iastore, 1) := by decide +kernel
theorem dX10_push_44 : decode cX10_push 44 = .ok (.return_, 1) := by decide +kernel
theorem dX10_addRun_0 : decode cX10_addRun 0 = .ok (.aload_n 0, 1) := by decide +kernel
theorem dX10_addRun_1 : decode cX10_addRun 1 = .ok (.iload_n 1, 1) := by decide +kernel
theorem dX10_addRun_2 : decode cX10_addRun 2 = .ok (.invokevirtual 180, 3) := by decide +kernel
theorem dX10_addRun_5 : decode cX10_addRun 5 = .ok (.ifCond .ne 5, 3) := by decide +kernel
theorem dX10_addRun_8 : decode cX10_addRun 8 = .ok (.iconst (-1), 1) := by decide +kernel
theorem dX10_addRun_9 : decode cX10_addRun 9 = .ok (.ireturn, 1) := by decide +kernel
theorem dX10_addRun_10 : decode cX10_addRun 10 = .ok (.aload_n 0, 1) := by decide +kernel
theorem dX10_addRun_11 : decode cX10_addRun 11 = .ok (.iload_n 2, 1) := by decide +kernel
theorem dX10_addRun_12 : decode cX10_addRun 12 = .ok (.iconst 1, 1) := by decide +kernel
theorem dX10_addRun_13 : decode cX10_addRun 13 = .ok (.bipush 8, 2) := by decide +kernel
theorem dX10_addRun_15 : decode cX10_addRun 15 = .ok (.invokevirtual 172, 3) := by decide +kernel
theorem dX10_addRun_18 : decode cX10_addRun 18 = .ok (.ifCond .eq 16, 3) := by decide +kernel
theorem dX10_addRun_21 : decode cX10_addRun 21 = .ok (.aload_n 0, 1) := by decide +kernel
theorem dX10_addRun_22 : decode cX10_addRun 22 = .ok (.iload_n 3, 1) := by decide +kernel
theorem dX10_addRun_23 : decode cX10_addRun 23 = .ok (.iconst 1, 1) := by decide +kernel
theorem dX10_addRun_24 : decode cX10_addRun 24 = .ok (.aload_n 0, 1) := by decide +kernel
theorem dX10_addRun_25 : decode cX10_addRun 25 = .ok (.getfield 16, 3) := by decide +kernel
theorem dX10_addRun_28 : decode cX10_addRun 28 = .ok (.invokevirtual 172, 3) := by decide +kernel
theorem dX10_addRun_31 : decode cX10_addRun 31 = .ok (.ifCond .ne 6, 3) := by decide +kernel
theorem dX10_addRun_34 : decode cX10_addRun 34 = .ok (.bipush (-2), 2) := by decide +kernel
theorem dX10_addRun_36 : decode cX10_addRun 36 = .ok (.ireturn, 1) := by decide +kernel
theorem dX10_addRun_37 : decode cX10_addRun 37 = .ok (.aload_n 0, 1) := by decide +kernel
theorem dX10_addRun_38 : decode cX10_addRun 38 = .ok (.getfield 26, 3) := by decide +kernel
theorem dX10_addRun_41 : decode cX10_addRun 41 = .ok (.iload_n 1, 1) := by decide +kernel
theorem dX10_addRun_42 : decode cX10_addRun 42 = .ok (.iaload, 1) := by decide +kernel
theorem dX10_addRun_43 : decode cX10_addRun 43 = .ok (.bipush 8, 2) := by decide +kernel
theorem dX10_addRun_45 : decode cX10_addRun 45 = .ok (.if_icmp .ne 6, 3) := by decide +kernel
theorem dX10_addRun_48 : decode cX10_addRun 48 = .ok (.bipush (-3), 2) := by decide +kernel
theorem dX10_addRun_50 : decode cX10_addRun 50 = .ok (.ireturn, 1) := by decide +kernel
theorem dX10_addRun_51 : decode cX10_addRun 51 = .ok (.aload_n 0, 1) := by decide +kernel
theorem dX10_addRun_52 : decode cX10_addRun 52 = .ok (.invokevirtual 184, 3) := by decide +kernel
theorem dX10_addRun_55 : decode cX10_addRun 55 = .ok (.aload_n 0, 1) := by decide +kernel
theorem dX10_addRun_56 : decode cX10_addRun 56 = .ok (.iload_n 1, 1) := by decide +kernel
theorem dX10_addRun_57 : decode cX10_addRun 57 = .ok (.iload_n 2, 1) := by decide +kernel
theorem dX10_addRun_58 : decode cX10_addRun 58 = .ok (.iload_n 3, 1) := by decide +kernel
theorem dX10_addRun_59 : decode cX10_addRun 59 = .ok (.invokevirtual 187, 3) := by decide +kernel
theorem dX10_addRun_62 : decode cX10_addRun 62 = .ok (.aload_n 0, 1) := by decide +kernel
theorem dX10_addRun_63 : decode cX10_addRun 63 = .ok (.getfield 26, 3) := by decide +kernel
theorem dX10_addRun_66 : decode cX10_addRun 66 = .ok (.iload_n 1, 1) := by decide +kernel
theorem dX10_addRun_67 : decode cX10_addRun 67 = .ok (.iaload, 1) := by decide +kernel
theorem dX10_addRun_68 : decode cX10_addRun 68 = .ok (.ireturn, 1) := by decide +kernel
theorem dX10_clearClue_0 : decode cX10_clearClue 0 = .ok (.aload_n 0, 1) := by decide +kernel
theorem dX10_clearClue_1 : decode cX10_clearClue 1 = .ok (.iload_n 1, 1) := by decide +kernel
theorem dX10_clearClue_2 : decode cX10_clearClue 2 = .ok (.invokevirtual 180, 3) := by decide +kernel
theorem dX10_clearClue_5 : decode cX10_clearClue 5 = .ok (.ifCond .ne 5, 3) := by decide +kernel
theorem dX10_clearClue_8 : decode cX10_clearClue 8 = .ok (.iconst (-1), 1) := by decide +kernel
theorem dX10_clearClue_9 : decode cX10_clearClue 9 = .ok (.ireturn, 1) := by decide +kernel
theorem dX10_clearClue_10 : decode cX10_clearClue 10 = .ok (.aload_n 0, 1) := by decide +kernel
theorem dX10_clearClue_11 : decode cX10_clearClue 11 = .ok (.getfield 26, 3) := by decide +kernel
theorem dX10_clearClue_14 : decode cX10_clearClue 14 = .ok (.iload_n 1, 1) := by decide +kernel
theorem dX10_clearClue_15 : decode cX10_clearClue 15 = .ok (.iaload, 1) := by decide +kernel
theorem dX10_clearClue_16 : decode cX10_clearClue 16 = .ok (.istore_n 2, 1) := by decide +kernel
theorem dX10_clearClue_17 : decode cX10_clearClue 17 = .ok (.aload_n 0, 1) := by decide +kernel
theorem dX10_clearClue_18 : decode cX10_clearClue 18 = .ok (.invokevirtual 184, 3) := by decide +kernel
theorem dX10_clearClue_21 : decode cX10_clearClue 21 = .ok (.aload_n 0, 1) := by decide +kernel
theorem dX10_clearClue_22 : decode cX10_clearClue 22 = .ok (.getfield 26, 3) := by decide +kernel
theorem dX10_clearClue_25 : decode cX10_clearClue 25 = .ok (.iload_n 1, 1) := by decide +kernel
theorem dX10_clearClue_26 : decode cX10_clearClue 26 = .ok (.iconst 0, 1) := by decide +kernel
theorem dX10_clearClue_27 : decode cX10_clearClue 27 = .ok (.iastore, 1) := by decide +kernel
theorem dX10_clearClue_28 : decode cX10_clearClue 28 = .ok (.iload_n 2, 1) := by decide +kernel
theorem dX10_clearClue_29 : decode cX10_clearClue 29 = .ok (.ireturn, 1) := by decide +kernel
theorem dX10_runCount_0 : decode cX10_runCount 0 = .ok (.aload_n 0, 1) := by decide +kernel
theorem dX10_runCount_1 : decode cX10_runCount 1 = .ok (.iload_n 1, 1) := by decide +kernel
theorem dX10_runCount_2 : decode cX10_runCount 2 = .ok (.invokevirtual 180, 3) := by decide +kernel
theorem dX10_runCount_5 : decode cX10_runCount 5 = .ok (.ifCond .eq 12, 3) := by decide +kernel
theorem dX10_runCount_8 : decode cX10_runCount 8 = .ok (.aload_n 0, 1) := by decide +kernel
theorem dX10_runCount_9 : decode cX10_runCount 9 = .ok (.getfield 26, 3) := by decide +kernel
theorem dX10_runCount_12 : decode cX10_runCount 12 = .ok (.iload_n 1, 1) := by decide +kernel
theorem dX10_runCount_13 : decode cX10_runCount 13 = .ok (.iaload, 1) := by decide +kernel
theorem dX10_runCount_14 : decode cX10_runCount 14 = .ok (.goto 4, 3) := by decide +kernel
theorem dX10_runCount_17 : decode cX10_runCount 17 = .ok (.iconst (-1), 1) := by decide +kernel
theorem dX10_runCount_18 : decode cX10_runCount 18 = .ok (.ireturn, 1) := by decide +kernel
theorem dX10_isRun_0 : decode cX10_isRun 0 = .ok (.aload_n 0, 1) := by decide +kernel
theorem dX10_isRun_1 : decode cX10_isRun 1 = .ok (.iload_n 1, 1) := by decide +kernel
theorem dX10_isRun_2 : decode cX10_isRun 2 = .ok (.invokevirtual 180, 3) := by decide +kernel
theorem dX10_isRun_5 : decode cX10_isRun 5 = .ok (.ifCond .eq 24, 3) := by decide +kernel
theorem dX10_isRun_8 : decode cX10_isRun 8 = .ok (.aload_n 0, 1) := by decide +kernel
theorem dX10_isRun_9 : decode cX10_isRun 9 = .ok (.iload_n 2, 1) := by decide +kernel
theorem dX10_isRun_10 : decode cX10_isRun 10 = .ok (.iconst 0, 1) := by decide +kernel
theorem dX10_isRun_11 : decode cX10_isRun 11 = .ok (.aload_n 0, 1) := by decide +kernel
theorem dX10_isRun_12 : decode cX10_isRun 12 = .ok (.getfield 26, 3) := by decide +kernel
theorem dX10_isRun_15 : decode cX10_isRun 15 = .ok (.iload_n 1, 1) := by decide +kernel
theorem dX10_isRun_16 : decode cX10_isRun 16 = .ok (.iaload, 1) := by decide +kernel
theorem dX10_isRun_17 : decode cX10_isRun 17 = .ok (.iconst 1, 1) := by decide +kernel
theorem dX10_isRun_18 : decode cX10_isRun 18 = .ok (.isub, 1) := by decide +kernel
theorem dX10_isRun_19 : decode cX10_isRun 19 = .ok (.invokevirtual 172, 3) := by decide +kernel
theorem dX10_isRun_22 : decode cX10_isRun 22 = .ok (.ifCond .eq 7, 3) := by decide +kernel
theorem dX10_isRun_25 : decode cX10_isRun 25 = .ok (.iconst 1, 1) := by decide +kernel
theorem dX10_isRun_26 : decode cX10_isRun 26 = .ok (.goto 4, 3) := by decide +kernel
theorem dX10_isRun_29 : decode cX10_isRun 29 = .ok (.iconst 0, 1) := by decide +kernel
theorem dX10_isRun_30 : decode cX10_isRun 30 = .ok (.ireturn, 1) := by decide +kernel
theorem dX10_runLength_0 : decode cX10_runLength 0 = .ok (.aload_n 0, 1) := by decide +kernel
theorem dX10_runLength_1 : decode cX10_runLength 1 = .ok (.iload_n 1, 1) := by decide +kernel
theorem dX10_runLength_2 : decode cX10_runLength 2 = .ok (.iload_n 2, 1) := by decide +kernel
theorem dX10_runLength_3 : decode cX10_runLength 3 = .ok (.invokevirtual 191, 3) := by decide +kernel
theorem dX10_runLength_6 : decode cX10_runLength 6 = .ok (.ifCond .eq 17, 3) := by decide +kernel
theorem dX10_runLength_9 : decode cX10_runLength 9 = .ok (.aload_n 0, 1) := by decide +kernel
theorem dX10_runLength_10 : decode cX10_runLength 10 = .ok (.getfield 29, 3) := by decide +kernel
theorem dX10_runLength_13 : decode cX10_runLength 13 = .ok (.bipush 8, 2) := by decide +kernel
theorem dX10_runLength_15 : decode cX10_runLength 15 = .ok (.iload_n 1, 1) := by decide +kernel
theorem dX10_runLength_16 : decode cX10_runLength 16 = .ok (.imul, 1) := by decide +kernel
theorem dX10_runLength_17 : decode cX10_runLength 17 = .ok (.iload_n 2, 1) := by decide +kernel
theorem dX10_runLength_18 : decode cX10_runLength 18 = .ok (.iadd, 1) := by decide +kernel
theorem dX10_runLength_19 : decode cX10_runLength 19 = .ok (.iaload, 1) := by decide +kernel
theorem dX10_runLength_20 : decode cX10_runLength 20 = .ok (.goto 4, 3) := by decide +kernel
theorem dX10_runLength_23 : decode cX10_runLength 23 = .ok (.iconst (-1), 1) := by decide +kernel
theorem dX10_runLength_24 : decode cX10_runLength 24 = .ok (.ireturn, 1) := by decide +kernel
theorem dX10_runColor_0 : decode cX10_runColor 0 = .ok (.aload_n 0, 1) := by decide +kernel
theorem dX10_runColor_1 : decode cX10_runColor 1 = .ok (.iload_n 1, 1) := by decide +kernel
theorem dX10_runColor_2 : decode cX10_runColor 2 = .ok (.iload_n 2, 1) := by decide +kernel
theorem dX10_runColor_3 : decode cX10_runColor 3 = .ok (.invokevirtual 191, 3) := by decide +kernel
theorem dX10_runColor_6 : decode cX10_runColor 6 = .ok (.ifCond .eq 17, 3) := by decide +kernel
theorem dX10_runColor_9 : decode cX10_runColor 9 = .ok (.aload_n 0, 1) := by decide +kernel
theorem dX10_runColor_10 : decode cX10_runColor 10 = .ok (.getfield 32, 3) := by decide +kernel
theorem dX10_runColor_13 : decode cX10_runColor 13 = .ok (.bipush 8, 2) := by decide +kernel
theorem dX10_runColor_15 : decode cX10_runColor 15 = .ok (.iload_n 1, 1) := by decide +kernel
theorem dX10_runColor_16 : decode cX10_runColor 16 = .ok (.imul, 1) := by decide +kernel
theorem dX10_runColor_17 : decode cX10_runColor 17 = .ok (.iload_n 2, 1) := by decide +kernel
theorem dX10_runColor_18 : decode cX10_runColor 18 = .ok (.iadd, 1) := by decide +kernel
theorem dX10_runColor_19 : decode cX10_runColor 19 = .ok (.iaload, 1) := by decide +kernel
theorem dX10_runColor_20 : decode cX10_runColor 20 = .ok (.goto 4, 3) := by decide +kernel
theorem dX10_runColor_23 : decode cX10_runColor 23 = .ok (.iconst (-1), 1) := by decide +kernel
theorem dX10_runColor_24 : decode cX10_runColor 24 = .ok (.ireturn, 1) := by decide +kernel
theorem dX10_minimumLength_0 : decode cX10_minimumLength 0 = .ok (.aload_n 0, 1) := by decide +kernel
theorem dX10_minimumLength_1 : decode cX10_minimumLength 1 = .ok (.iload_n 1, 1) := by decide +kernel
theorem dX10_minimumLength_2 : decode cX10_minimumLength 2 = .ok (.invokevirtual 180, 3) := by decide +kernel
theorem dX10_minimumLength_5 : decode cX10_minimumLength 5 = .ok (.ifCond .ne 5, 3) := by decide +kernel
theorem dX10_minimumLength_8 : decode cX10_minimumLength 8 = .ok (.iconst (-1), 1) := by decide +kernel
theorem dX10_minimumLength_9 : decode cX10_minimumLength 9 = .ok (.ireturn, 1) := by decide +kernel
theorem dX10_minimumLength_10 : decode cX10_minimumLength 10 = .ok (.iconst 0, 1) := by decide +kernel
theorem dX10_minimumLength_11 : decode cX10_minimumLength 11 = .ok (.istore_n 2, 1) := by decide +kernel
theorem dX10_minimumLength_12 : decode cX10_minimumLength 12 = .ok (.iconst 0, 1) := by decide +kernel
theorem dX10_minimumLength_13 : decode cX10_minimumLength 13 = .ok (.istore_n 3, 1) := by decide +kernel
theorem dX10_minimumLength_14 : decode cX10_minimumLength 14 = .ok (.iload_n 3, 1) := by decide +kernel
theorem dX10_minimumLength_15 : decode cX10_minimumLength 15 = .ok (.aload_n 0, 1) := by decide +kernel
theorem dX10_minimumLength_16 : decode cX10_minimumLength 16 = .ok (.getfield 26, 3) := by decide +kernel
theorem dX10_minimumLength_19 : decode cX10_minimumLength 19 = .ok (.iload_n 1, 1) := by decide +kernel
theorem dX10_minimumLength_20 : decode cX10_minimumLength 20 = .ok (.iaload, 1) := by decide +kernel
theorem dX10_minimumLength_21 : decode cX10_minimumLength 21 = .ok (.if_icmp .ge 60, 3) := by decide +kernel
theorem dX10_minimumLength_24 : decode cX10_minimumLength 24 = .ok (.iload_n 2, 1) := by decide +kernel
theorem dX10_minimumLength_25 : decode cX10_minimumLength 25 = .ok (.aload_n 0, 1) := by decide +kernel
theorem dX10_minimumLength_26 : decode cX10_minimumLength 26 = .ok (.getfield 29, 3) := by decide +kernel
theorem dX10_minimumLength_29 : decode cX10_minimumLength 29 = .ok (.bipush 8, 2) := by decide +kernel
theorem dX10_minimumLength_31 : decode cX10_minimumLength 31 = .ok (.iload_n 1, 1) := by decide +kernel
theorem dX10_minimumLength_32 : decode cX10_minimumLength 32 = .ok (.imul, 1) := by decide +kernel
theorem dX10_minimumLength_33 : decode cX10_minimumLength 33 = .ok (.iload_n 3, 1) := by decide +kernel
theorem dX10_minimumLength_34 : decode cX10_minimumLength 34 = .ok (.iadd, 1) := by decide +kernel
theorem dX10_minimumLength_35 : decode cX10_minimumLength 35 = .ok (.iaload, 1) := by decide +kernel
theorem dX10_minimumLength_36 : decode cX10_minimumLength 36 = .ok (.iload_n 3, 1) := by decide +kernel
theorem dX10_minimumLength_37 : decode cX10_minimumLength 37 = .ok (.ifCond .le 34, 3) := by decide +kernel
theorem dX10_minimumLength_40 : decode cX10_minimumLength 40 = .ok (.aload_n 0, 1) := by decide +kernel
theorem dX10_minimumLength_41 : decode cX10_minimumLength 41 = .ok (.getfield 32, 3) := by decide +kernel
theorem dX10_minimumLength_44 : decode cX10_minimumLength 44 = .ok (.bipush 8, 2) := by decide +kernel
theorem dX10_minimumLength_46 : decode cX10_minimumLength 46 = .ok (.iload_n 1, 1) := by decide +kernel
theorem dX10_minimumLength_47 : decode cX10_minimumLength 47 = .ok (.imul, 1) := by decide +kernel
theorem dX10_minimumLength_48 : decode cX10_minimumLength 48 = .ok (.iload_n 3, 1) := by decide +kernel
theorem dX10_minimumLength_49 : decode cX10_minimumLength 49 = .ok (.iadd, 1) := by decide +kernel
theorem dX10_minimumLength_50 : decode cX10_minimumLength 50 = .ok (.iaload, 1) := by decide +kernel
theorem dX10_minimumLength_51 : decode cX10_minimumLength 51 = .ok (.aload_n 0, 1) := by decide +kernel
theorem dX10_minimumLength_52 : decode cX10_minimumLength 52 = .ok (.getfield 32, 3) := by decide +kernel
theorem dX10_minimumLength_55 : decode cX10_minimumLength 55 = .ok (.bipush 8, 2) := by decide +kernel
theorem dX10_minimumLength_57 : decode cX10_minimumLength 57 = .ok (.iload_n 1, 1) := by decide +kernel
theorem dX10_minimumLength_58 : decode cX10_minimumLength 58 = .ok (.imul, 1) := by decide +kernel
theorem dX10_minimumLength_59 : decode cX10_minimumLength 59 = .ok (.iload_n 3, 1) := by decide +kernel
theorem dX10_minimumLength_60 : decode cX10_minimumLength 60 = .ok (.iadd, 1) := by decide +kernel
theorem dX10_minimumLength_61 : decode cX10_minimumLength 61 = .ok (.iconst 1, 1) := by decide +kernel
theorem dX10_minimumLength_62 : decode cX10_minimumLength 62 = .ok (.isub, 1) := by decide +kernel
theorem dX10_minimumLength_63 : decode cX10_minimumLength 63 = .ok (.iaload, 1) := by decide +kernel
theorem dX10_minimumLength_64 : decode cX10_minimumLength 64 = .ok (.if_icmp .ne 7, 3) := by decide +kernel
theorem dX10_minimumLength_67 : decode cX10_minimumLength 67 = .ok (.iconst 1, 1) := by decide +kernel
theorem dX10_minimumLength_68 : decode cX10_minimumLength 68 = .ok (.goto 4, 3) := by decide +kernel
theorem dX10_minimumLength_71 : decode cX10_minimumLength 71 = .ok (.iconst 0, 1) := by decide +kernel
theorem dX10_minimumLength_72 : decode cX10_minimumLength 72 = .ok (.iadd, 1) := by decide +kernel
theorem dX10_minimumLength_73 : decode cX10_minimumLength 73 = .ok (.iadd, 1) := by decide +kernel
theorem dX10_minimumLength_74 : decode cX10_minimumLength 74 = .ok (.istore_n 2, 1) := by decide +kernel
theorem dX10_minimumLength_75 : decode cX10_minimumLength 75 = .ok (.iinc 3 1, 3) := by decide +kernel
theorem dX10_minimumLength_78 : decode cX10_minimumLength 78 = .ok (.goto (-64), 3) := by decide +kernel
theorem dX10_minimumLength_81 : decode cX10_minimumLength 81 = .ok (.iload_n 2, 1) := by decide +kernel
theorem dX10_minimumLength_82 : decode cX10_minimumLength 82 = .ok (.ireturn, 1) := by decide +kernel
theorem dX10_candidates_0 : decode cX10_candidates 0 = .ok (.aload_n 0, 1) := by decide +kernel
theorem dX10_candidates_1 : decode cX10_candidates 1 = .ok (.iload_n 1, 1) := by decide +kernel
theorem dX10_candidates_2 : decode cX10_candidates 2 = .ok (.iload_n 2, 1) := by decide +kernel
theorem dX10_candidates_3 : decode cX10_candidates 3 = .ok (.invokevirtual 195, 3) := by decide +kernel
theorem dX10_candidates_6 : decode cX10_candidates 6 = .ok (.ifCond .eq 17, 3) := by decide +kernel
theorem dX10_candidates_9 : decode cX10_candidates 9 = .ok (.aload_n 0, 1) := by decide +kernel
theorem dX10_candidates_10 : decode cX10_candidates 10 = .ok (.getfield 22, 3) := by decide +kernel
theorem dX10_candidates_13 : decode cX10_candidates 13 = .ok (.bipush 8, 2) := by decide +kernel
theorem dX10_candidates_15 : decode cX10_candidates 15 = .ok (.iload_n 1, 1) := by decide +kernel
theorem dX10_candidates_16 : decode cX10_candidates 16 = .ok (.imul, 1) := by decide +kernel
theorem dX10_candidates_17 : decode cX10_candidates 17 = .ok (.iload_n 2, 1) := by decide +kernel
theorem dX10_candidates_18 : decode cX10_candidates 18 = .ok (.iadd, 1) := by decide +kernel
theorem dX10_candidates_19 : decode cX10_candidates 19 = .ok (.iaload, 1) := by decide +kernel
theorem dX10_candidates_20 : decode cX10_candidates 20 = .ok (.goto 4, 3) := by decide +kernel
theorem dX10_candidates_23 : decode cX10_candidates 23 = .ok (.iconst (-1), 1) := by decide +kernel
theorem dX10_candidates_24 : decode cX10_candidates 24 = .ok (.ireturn, 1) := by decide +kernel
theorem dX10_color_0 : decode cX10_color 0 = .ok (.aload_n 0, 1) := by decide +kernel
theorem dX10_color_1 : decode cX10_color 1 = .ok (.iload_n 1, 1) := by decide +kernel
theorem dX10_color_2 : decode cX10_color 2 = .ok (.iload_n 2, 1) := by decide +kernel
theorem dX10_color_3 : decode cX10_color 3 = .ok (.invokevirtual 195, 3) := by decide +kernel
theorem dX10_color_6 : decode cX10_color 6 = .ok (.ifCond .ne 5, 3) := by decide +kernel
theorem dX10_color_9 : decode cX10_color 9 = .ok (.iconst (-1), 1) := by decide +kernel
theorem dX10_color_10 : decode cX10_color 10 = .ok (.ireturn, 1) := by decide +kernel
theorem dX10_color_11 : decode cX10_color 11 = .ok (.aload_n 0, 1) := by decide +kernel
theorem dX10_color_12 : decode cX10_color 12 = .ok (.bipush 8, 2) := by decide +kernel
theorem dX10_color_14 : decode cX10_color 14 = .ok (.iload_n 1, 1) := by decide +kernel
theorem dX10_color_15 : decode cX10_color 15 = .ok (.imul, 1) := by decide +kernel
theorem dX10_color_16 : decode cX10_color 16 = .ok (.iload_n 2, 1) := by decide +kernel
theorem dX10_color_17 : decode cX10_color 17 = .ok (.iadd, 1) := by decide +kernel
theorem dX10_color_18 : decode cX10_color 18 = .ok (.invokevirtual 198, 3) := by decide +kernel
theorem dX10_color_21 : decode cX10_color 21 = .ok (.ifCond .eq 16, 3) := by decide +kernel
theorem dX10_color_24 : decode cX10_color 24 = .ok (.aload_n 0, 1) := by decide +kernel
theorem dX10_color_25 : decode cX10_color 25 = .ok (.bipush 8, 2) := by decide +kernel
theorem dX10_color_27 : decode cX10_color 27 = .ok (.iload_n 1, 1) := by decide +kernel
theorem dX10_color_28 : decode cX10_color 28 = .ok (.imul, 1) := by decide +kernel
theorem dX10_color_29 : decode cX10_color 29 = .ok (.iload_n 2, 1) := by decide +kernel
theorem dX10_color_30 : decode cX10_color 30 = .ok (.iadd, 1) := by decide +kernel
theorem dX10_color_31 : decode cX10_color 31 = .ok (.invokevirtual 201, 3) := by decide +kernel
theorem dX10_color_34 : decode cX10_color 34 = .ok (.goto 5, 3) := by decide +kernel
theorem dX10_color_37 : decode cX10_color 37 = .ok (.bipush (-6), 2) := by decide +kernel
theorem dX10_color_39 : decode cX10_color 39 = .ok (.ireturn, 1) := by decide +kernel
theorem dX10_keepOnly_0 : decode cX10_keepOnly 0 = .ok (.aload_n 0, 1) := by decide +kernel
theorem dX10_keepOnly_1 : decode cX10_keepOnly 1 = .ok (.iload_n 1, 1) := by decide +kernel
theorem dX10_keepOnly_2 : decode cX10_keepOnly 2 = .ok (.iload_n 2, 1) := by decide +kernel
theorem dX10_keepOnly_3 : decode cX10_keepOnly 3 = .ok (.invokevirtual 195, 3) := by decide +kernel
theorem dX10_keepOnly_6 : decode cX10_keepOnly 6 = .ok (.ifCond .ne 5, 3) := by decide +kernel
theorem dX10_keepOnly_9 : decode cX10_keepOnly 9 = .ok (.iconst (-1), 1) := by decide +kernel
theorem dX10_keepOnly_10 : decode cX10_keepOnly 10 = .ok (.ireturn, 1) := by decide +kernel
theorem dX10_keepOnly_11 : decode cX10_keepOnly 11 = .ok (.aload_n 0, 1) := by decide +kernel
theorem dX10_keepOnly_12 : decode cX10_keepOnly 12 = .ok (.iload_n 3, 1) := by decide +kernel
theorem dX10_keepOnly_13 : decode cX10_keepOnly 13 = .ok (.invokevirtual 205, 3) := by decide +kernel
theorem dX10_keepOnly_16 : decode cX10_keepOnly 16 = .ok (.ifCond .ne 6, 3) := by decide +kernel
theorem dX10_keepOnly_19 : decode cX10_keepOnly 19 = .ok (.bipush (-2), 2) := by decide +kernel
theorem dX10_keepOnly_21 : decode cX10_keepOnly 21 = .ok (.ireturn, 1) := by decide +kernel
theorem dX10_keepOnly_22 : decode cX10_keepOnly 22 = .ok (.aload_n 0, 1) := by decide +kernel
theorem dX10_keepOnly_23 : decode cX10_keepOnly 23 = .ok (.getfield 22, 3) := by decide +kernel
theorem dX10_keepOnly_26 : decode cX10_keepOnly 26 = .ok (.bipush 8, 2) := by decide +kernel
theorem dX10_keepOnly_28 : decode cX10_keepOnly 28 = .ok (.iload_n 1, 1) := by decide +kernel
theorem dX10_keepOnly_29 : decode cX10_keepOnly 29 = .ok (.imul, 1) := by decide +kernel
theorem dX10_keepOnly_30 : decode cX10_keepOnly 30 = .ok (.iload_n 2, 1) := by decide +kernel
theorem dX10_keepOnly_31 : decode cX10_keepOnly 31 = .ok (.iadd, 1) := by decide +kernel
theorem dX10_keepOnly_32 : decode cX10_keepOnly 32 = .ok (.iaload, 1) := by decide +kernel
theorem dX10_keepOnly_33 : decode cX10_keepOnly 33 = .ok (.istore 4, 2) := by decide +kernel
theorem dX10_keepOnly_35 : decode cX10_keepOnly 35 = .ok (.iload 4, 2) := by decide +kernel
theorem dX10_keepOnly_37 : decode cX10_keepOnly 37 = .ok (.iload_n 3, 1) := by decide +kernel
theorem dX10_keepOnly_38 : decode cX10_keepOnly 38 = .ok (.ishr, 1) := by decide +kernel
theorem dX10_keepOnly_39 : decode cX10_keepOnly 39 = .ok (.iconst 1, 1) := by decide +kernel
theorem dX10_keepOnly_40 : decode cX10_keepOnly 40 = .ok (.iand, 1) := by decide +kernel
theorem dX10_keepOnly_41 : decode cX10_keepOnly 41 = .ok (.ifCond .ne 6, 3) := by decide +kernel
theorem dX10_keepOnly_44 : decode cX10_keepOnly 44 = .ok (.bipush (-5), 2) := by decide +kernel
theorem dX10_keepOnly_46 : decode cX10_keepOnly 46 = .ok (.ireturn, 1) := by decide +kernel
theorem dX10_keepOnly_47 : decode cX10_keepOnly 47 = .ok (.aload_n 0, 1) := by decide +kernel
theorem dX10_keepOnly_48 : decode cX10_keepOnly 48 = .ok (.invokevirtual 184, 3) := by decide +kernel
theorem dX10_keepOnly_51 : decode cX10_keepOnly 51 = .ok (.aload_n 0, 1) := by decide +kernel
theorem dX10_keepOnly_52 : decode cX10_keepOnly 52 = .ok (.getfield 22, 3) := by decide +kernel
theorem dX10_keepOnly_55 : decode cX10_keepOnly 55 = .ok (.bipush 8, 2) := by decide +kernel
theorem dX10_keepOnly_57 : decode cX10_keepOnly 57 = .ok (.iload_n 1, 1) := by decide +kernel
theorem dX10_keepOnly_58 : decode cX10_keepOnly 58 = .ok (.imul, 1) := by decide +kernel
theorem dX10_keepOnly_59 : decode cX10_keepOnly 59 = .ok (.iload_n 2, 1) := by decide +kernel
theorem dX10_keepOnly_60 : decode cX10_keepOnly 60 = .ok (.iadd, 1) := by decide +kernel
theorem dX10_keepOnly_61 : decode cX10_keepOnly 61 = .ok (.iconst 1, 1) := by decide +kernel
theorem dX10_keepOnly_62 : decode cX10_keepOnly 62 = .ok (.iload_n 3, 1) := by decide +kernel
theorem dX10_keepOnly_63 : decode cX10_keepOnly 63 = .ok (.ishl, 1) := by decide +kernel
theorem dX10_keepOnly_64 : decode cX10_keepOnly 64 = .ok (.iastore, 1) := by decide +kernel
theorem dX10_keepOnly_65 : decode cX10_keepOnly 65 = .ok (.aload_n 0, 1) := by decide +kernel
theorem dX10_keepOnly_66 : decode cX10_keepOnly 66 = .ok (.iload 4, 2) := by decide +kernel
theorem dX10_keepOnly_68 : decode cX10_keepOnly 68 = .ok (.invokevirtual 208, 3) := by decide +kernel
theorem dX10_keepOnly_71 : decode cX10_keepOnly 71 = .ok (.iconst 1, 1) := by decide +kernel
theorem dX10_keepOnly_72 : decode cX10_keepOnly 72 = .ok (.isub, 1) := by decide +kernel
theorem dX10_keepOnly_73 : decode cX10_keepOnly 73 = .ok (.ireturn, 1) := by decide +kernel
theorem dX10_eliminate_0 : decode cX10_eliminate 0 = .ok (.aload_n 0, 1) := by decide +kernel
theorem dX10_eliminate_1 : decode cX10_eliminate 1 = .ok (.iload_n 1, 1) := by decide +kernel
theorem dX10_eliminate_2 : decode cX10_eliminate 2 = .ok (.iload_n 2, 1) := by decide +kernel
theorem dX10_eliminate_3 : decode cX10_eliminate 3 = .ok (.invokevirtual 195, 3) := by decide +kernel
theorem dX10_eliminate_6 : decode cX10_eliminate 6 = .ok (.ifCond .ne 5, 3) := by decide +kernel
theorem dX10_eliminate_9 : decode cX10_eliminate 9 = .ok (.iconst (-1), 1) := by decide +kernel
theorem dX10_eliminate_10 : decode cX10_eliminate 10 = .ok (.ireturn, 1) := by decide +kernel
theorem dX10_eliminate_11 : decode cX10_eliminate 11 = .ok (.aload_n 0, 1) := by decide +kernel
theorem dX10_eliminate_12 : decode cX10_eliminate 12 = .ok (.iload_n 3, 1) := by decide +kernel
theorem dX10_eliminate_13 : decode cX10_eliminate 13 = .ok (.invokevirtual 205, 3) := by decide +kernel
theorem dX10_eliminate_16 : decode cX10_eliminate 16 = .ok (.ifCond .ne 6, 3) := by decide +kernel
theorem dX10_eliminate_19 : decode cX10_eliminate 19 = .ok (.bipush (-2), 2) := by decide +kernel
theorem dX10_eliminate_21 : decode cX10_eliminate 21 = .ok (.ireturn, 1) := by decide +kernel
theorem dX10_eliminate_22 : decode cX10_eliminate 22 = .ok (.aload_n 0, 1) := by decide +kernel
theorem dX10_eliminate_23 : decode cX10_eliminate 23 = .ok (.getfield 22, 3) := by decide +kernel
theorem dX10_eliminate_26 : decode cX10_eliminate 26 = .ok (.bipush 8, 2) := by decide +kernel
theorem dX10_eliminate_28 : decode cX10_eliminate 28 = .ok (.iload_n 1, 1) := by decide +kernel
theorem dX10_eliminate_29 : decode cX10_eliminate 29 = .ok (.imul, 1) := by decide +kernel
theorem dX10_eliminate_30 : decode cX10_eliminate 30 = .ok (.iload_n 2, 1) := by decide +kernel
theorem dX10_eliminate_31 : decode cX10_eliminate 31 = .ok (.iadd, 1) := by decide +kernel
theorem dX10_eliminate_32 : decode cX10_eliminate 32 = .ok (.iaload, 1) := by decide +kernel
theorem dX10_eliminate_33 : decode cX10_eliminate 33 = .ok (.istore 4, 2) := by decide +kernel
theorem dX10_eliminate_35 : decode cX10_eliminate 35 = .ok (.iload 4, 2) := by decide +kernel
theorem dX10_eliminate_37 : decode cX10_eliminate 37 = .ok (.iload_n 3, 1) := by decide +kernel
theorem dX10_eliminate_38 : decode cX10_eliminate 38 = .ok (.ishr, 1) := by decide +kernel
theorem dX10_eliminate_39 : decode cX10_eliminate 39 = .ok (.iconst 1, 1) := by decide +kernel
theorem dX10_eliminate_40 : decode cX10_eliminate 40 = .ok (.iand, 1) := by decide +kernel
theorem dX10_eliminate_41 : decode cX10_eliminate 41 = .ok (.ifCond .eq 11, 3) := by decide +kernel
theorem dX10_eliminate_44 : decode cX10_eliminate 44 = .ok (.iload 4, 2) := by decide +kernel
theorem dX10_eliminate_46 : decode cX10_eliminate 46 = .ok (.iconst 1, 1) := by decide +kernel
theorem dX10_eliminate_47 : decode cX10_eliminate 47 = .ok (.iload_n 3, 1) := by decide +kernel
theorem dX10_eliminate_48 : decode cX10_eliminate 48 = .ok (.ishl, 1) := by decide +kernel
theorem dX10_eliminate_49 : decode cX10_eliminate 49 = .ok (.if_icmp .ne 6, 3) := by decide +kernel
theorem dX10_eliminate_52 : decode cX10_eliminate 52 = .ok (.bipush (-5), 2) := by decide +kernel
theorem dX10_eliminate_54 : decode cX10_eliminate 54 = .ok (.ireturn, 1) := by decide +kernel
theorem dX10_eliminate_55 : decode cX10_eliminate 55 = .ok (.aload_n 0, 1) := by decide +kernel
theorem dX10_eliminate_56 : decode cX10_eliminate 56 = .ok (.invokevirtual 184, 3) := by decide +kernel
theorem dX10_eliminate_59 : decode cX10_eliminate 59 = .ok (.aload_n 0, 1) := by decide +kernel
theorem dX10_eliminate_60 : decode cX10_eliminate 60 = .ok (.getfield 22, 3) := by decide +kernel
theorem dX10_eliminate_63 : decode cX10_eliminate 63 = .ok (.bipush 8, 2) := by decide +kernel
theorem dX10_eliminate_65 : decode cX10_eliminate 65 = .ok (.iload_n 1, 1) := by decide +kernel
theorem dX10_eliminate_66 : decode cX10_eliminate 66 = .ok (.imul, 1) := by decide +kernel
theorem dX10_eliminate_67 : decode cX10_eliminate 67 = .ok (.iload_n 2, 1) := by decide +kernel
theorem dX10_eliminate_68 : decode cX10_eliminate 68 = .ok (.iadd, 1) := by decide +kernel
theorem dX10_eliminate_69 : decode cX10_eliminate 69 = .ok (.iload 4, 2) := by decide +kernel
theorem dX10_eliminate_71 : decode cX10_eliminate 71 = .ok (.iconst 1, 1) := by decide +kernel
theorem dX10_eliminate_72 : decode cX10_eliminate 72 = .ok (.iload_n 3, 1) := by decide +kernel
theorem dX10_eliminate_73 : decode cX10_eliminate 73 = .ok (.ishl, 1) := by decide +kernel
theorem dX10_eliminate_74 : decode cX10_eliminate 74 = .ok (.iconst (-1), 1) := by decide +kernel
theorem dX10_eliminate_75 : decode cX10_eliminate 75 = .ok (.ixor, 1) := by decide +kernel
theorem dX10_eliminate_76 : decode cX10_eliminate 76 = .ok (.iand, 1) := by decide +kernel
theorem dX10_eliminate_77 : decode cX10_eliminate 77 = .ok (.iastore, 1) := by decide +kernel
theorem dX10_eliminate_78 : decode cX10_eliminate 78 = .ok (.aload_n 0, 1) := by decide +kernel
theorem dX10_eliminate_79 : decode cX10_eliminate 79 = .ok (.iload 4, 2) := by decide +kernel
theorem dX10_eliminate_81 : decode cX10_eliminate 81 = .ok (.invokevirtual 208, 3) := by decide +kernel
theorem dX10_eliminate_84 : decode cX10_eliminate 84 = .ok (.iconst 1, 1) := by decide +kernel
theorem dX10_eliminate_85 : decode cX10_eliminate 85 = .ok (.isub, 1) := by decide +kernel
theorem dX10_eliminate_86 : decode cX10_eliminate 86 = .ok (.ireturn, 1) := by decide +kernel
theorem dX10_decidedIn_0 : decode cX10_decidedIn 0 = .ok (.iconst 0, 1) := by decide +kernel
theorem dX10_decidedIn_1 : decode cX10_decidedIn 1 = .ok (.istore_n 2, 1) := by decide +kernel
theorem dX10_decidedIn_2 : decode cX10_decidedIn 2 = .ok (.iconst 0, 1) := by decide +kernel
theorem dX10_decidedIn_3 : decode cX10_decidedIn 3 = .ok (.istore_n 3, 1) := by decide +kernel
theorem dX10_decidedIn_4 : decode cX10_decidedIn 4 = .ok (.iload_n 3, 1) := by decide +kernel
theorem dX10_decidedIn_5 : decode cX10_decidedIn 5 = .ok (.aload_n 0, 1) := by decide +kernel
theorem dX10_decidedIn_6 : decode cX10_decidedIn 6 = .ok (.getfield 7, 3) := by decide +kernel
theorem dX10_decidedIn_9 : decode cX10_decidedIn 9 = .ok (.if_icmp .ge 51, 3) := by decide +kernel
theorem dX10_decidedIn_12 : decode cX10_decidedIn 12 = .ok (.iconst 0, 1) := by decide +kernel
theorem dX10_decidedIn_13 : decode cX10_decidedIn 13 = .ok (.istore 4, 2) := by decide +kernel
theorem dX10_decidedIn_15 : decode cX10_decidedIn 15 = .ok (.iload 4, 2) := by decide +kernel
theorem dX10_decidedIn_17 : decode cX10_decidedIn 17 = .ok (.aload_n 0, 1) := by decide +kernel
theorem dX10_decidedIn_18 : decode cX10_decidedIn 18 = .ok (.getfield 13, 3) := by decide +kernel
theorem dX10_decidedIn_21 : decode cX10_decidedIn 21 = .ok (.if_icmp .ge 33, 3) := by decide +kernel
theorem dX10_decidedIn_24 : decode cX10_decidedIn 24 = .ok (.iload_n 2, 1) := by decide +kernel
theorem dX10_decidedIn_25 : decode cX10_decidedIn 25 = .ok (.aload_n 0, 1) := by decide +kernel
theorem dX10_decidedIn_26 : decode cX10_decidedIn 26 = .ok (.iload_n 1, 1) := by decide +kernel
theorem dX10_decidedIn_27 : decode cX10_decidedIn 27 = .ok (.bipush 8, 2) := by decide +kernel
theorem dX10_decidedIn_29 : decode cX10_decidedIn 29 = .ok (.iload_n 3, 1) := by decide +kernel
theorem dX10_decidedIn_30 : decode cX10_decidedIn 30 = .ok (.imul, 1) := by decide +kernel
theorem dX10_decidedIn_31 : decode cX10_decidedIn 31 = .ok (.iadd, 1) := by decide +kernel
theorem dX10_decidedIn_32 : decode cX10_decidedIn 32 = .ok (.iload 4, 2) := by decide +kernel
theorem dX10_decidedIn_34 : decode cX10_decidedIn 34 = .ok (.iadd, 1) := by decide +kernel
theorem dX10_decidedIn_35 : decode cX10_decidedIn 35 = .ok (.invokevirtual 198, 3) := by decide +kernel
theorem dX10_decidedIn_38 : decode cX10_decidedIn 38 = .ok (.ifCond .eq 7, 3) := by decide +kernel
theorem dX10_decidedIn_41 : decode cX10_decidedIn 41 = .ok (.iconst 1, 1) := by decide +kernel
theorem dX10_decidedIn_42 : decode cX10_decidedIn 42 = .ok (.goto 4, 3) := by decide +kernel
theorem dX10_decidedIn_45 : decode cX10_decidedIn 45 = .ok (.iconst 0, 1) := by decide +kernel
theorem dX10_decidedIn_46 : decode cX10_decidedIn 46 = .ok (.iadd, 1) := by decide +kernel
theorem dX10_decidedIn_47 : decode cX10_decidedIn 47 = .ok (.istore_n 2, 1) := by decide +kernel
theorem dX10_decidedIn_48 : decode cX10_decidedIn 48 = .ok (.iinc 4 1, 3) := by decide +kernel
theorem dX10_decidedIn_51 : decode cX10_decidedIn 51 = .ok (.goto (-36), 3) := by decide +kernel
theorem dX10_decidedIn_54 : decode cX10_decidedIn 54 = .ok (.iinc 3 1, 3) := by decide +kernel
theorem dX10_decidedIn_57 : decode cX10_decidedIn 57 = .ok (.goto (-53), 3) := by decide +kernel
theorem dX10_decidedIn_60 : decode cX10_decidedIn 60 = .ok (.iload_n 2, 1) := by decide +kernel
theorem dX10_decidedIn_61 : decode cX10_decidedIn 61 = .ok (.ireturn, 1) := by decide +kernel
theorem dX10_decidedCount_0 : decode cX10_decidedCount 0 = .ok (.aload_n 0, 1) := by decide +kernel
theorem dX10_decidedCount_1 : decode cX10_decidedCount 1 = .ok (.iconst 0, 1) := by decide +kernel
theorem dX10_decidedCount_2 : decode cX10_decidedCount 2 = .ok (.invokevirtual 211, 3) := by decide +kernel
theorem dX10_decidedCount_5 : decode cX10_decidedCount 5 = .ok (.ireturn, 1) := by decide +kernel
theorem dX10_averageCandidates_0 : decode cX10_averageCandidates 0 = .ok (.aload_n 0, 1) := by decide +kernel
theorem dX10_averageCandidates_1 : decode cX10_averageCandidates 1 = .ok (.iload_n 1, 1) := by decide +kernel
theorem dX10_averageCandidates_2 : decode cX10_averageCandidates 2 = .ok (.invokevirtual 180, 3) := by decide +kernel
theorem dX10_averageCandidates_5 : decode cX10_averageCandidates 5 = .ok (.ifCond .ne 5, 3) := by decide +kernel
theorem dX10_averageCandidates_8 : decode cX10_averageCandidates 8 = .ok (.iconst (-1), 1) := by decide +kernel
theorem dX10_averageCandidates_9 : decode cX10_averageCandidates 9 = .ok (.ireturn, 1) := by decide +kernel
theorem dX10_averageCandidates_10 : decode cX10_averageCandidates 10 = .ok (.iconst 0, 1) := by decide +kernel
theorem dX10_averageCandidates_11 : decode cX10_averageCandidates 11 = .ok (.istore_n 2, 1) := by decide +kernel
theorem dX10_averageCandidates_12 : decode cX10_averageCandidates 12 = .ok (.iconst 0, 1) := by decide +kernel
theorem dX10_averageCandidates_13 : decode cX10_averageCandidates 13 = .ok (.istore_n 3, 1) := by decide +kernel
theorem dX10_averageCandidates_14 : decode cX10_averageCandidates 14 = .ok (.iconst 0, 1) := by decide +kernel
theorem dX10_averageCandidates_15 : decode cX10_averageCandidates 15 = .ok (.istore 4, 2) := by decide +kernel
theorem dX10_averageCandidates_17 : decode cX10_averageCandidates 17 = .ok (.iload 4, 2) := by decide +kernel
theorem dX10_averageCandidates_19 : decode cX10_averageCandidates 19 = .ok (.aload_n 0, 1) := by decide +kernel
theorem dX10_averageCandidates_20 : decode cX10_averageCandidates 20 = .ok (.iload_n 1, 1) := by decide +kernel
theorem dX10_averageCandidates_21 : decode cX10_averageCandidates 21 = .ok (.invokevirtual 214, 3) := by decide +kernel
theorem dX10_averageCandidates_24 : decode cX10_averageCandidates 24 = .ok (.if_icmp .ge 47, 3) := by decide +kernel
theorem dX10_averageCandidates_27 : decode cX10_averageCandidates 27 = .ok (.aload_n 0, 1) := by decide +kernel
theorem dX10_averageCandidates_28 : decode cX10_averageCandidates 28 = .ok (.iload_n 1, 1) := by decide +kernel
theorem dX10_averageCandidates_29 : decode cX10_averageCandidates 29 = .ok (.iload 4, 2) := by decide +kernel
theorem dX10_averageCandidates_31 : decode cX10_averageCandidates 31 = .ok (.invokevirtual 217, 3) := by decide +kernel
theorem dX10_averageCandidates_34 : decode cX10_averageCandidates 34 = .ok (.istore 5, 2) := by decide +kernel
theorem dX10_averageCandidates_36 : decode cX10_averageCandidates 36 = .ok (.aload_n 0, 1) := by decide +kernel
theorem dX10_averageCandidates_37 : decode cX10_averageCandidates 37 = .ok (.iload 5, 2) := by decide +kernel
theorem dX10_averageCandidates_39 : decode cX10_averageCandidates 39 = .ok (.invokevirtual 198, 3) := by decide +kernel
theorem dX10_averageCandidates_42 : decode cX10_averageCandidates 42 = .ok (.ifCond .eq 6, 3) := by decide +kernel
theorem dX10_averageCandidates_45 : decode cX10_averageCandidates 45 = .ok (.goto 20, 3) := by decide +kernel
theorem dX10_averageCandidates_48 : decode cX10_averageCandidates 48 = .ok (.iinc 2 1, 3) := by decide +kernel
theorem dX10_averageCandidates_51 : decode cX10_averageCandidates 51 = .ok (.iload_n 3, 1) := by decide +kernel
theorem dX10_averageCandidates_52 : decode cX10_averageCandidates 52 = .ok (.aload_n 0, 1) := by decide +kernel
theorem dX10_averageCandidates_53 : decode cX10_averageCandidates 53 = .ok (.aload_n 0, 1) := by decide +kernel
theorem dX10_averageCandidates_54 : decode cX10_averageCandidates 54 = .ok (.getfield 22, 3) := by decide +kernel
theorem dX10_averageCandidates_57 : decode cX10_averageCandidates 57 = .ok (.iload 5, 2) := by decide +kernel
theorem dX10_averageCandidates_59 : decode cX10_averageCandidates 59 = .ok (.iaload, 1) := by decide +kernel
theorem dX10_averageCandidates_60 : decode cX10_averageCandidates 60 = .ok (.invokevirtual 208, 3) := by decide +kernel
theorem dX10_averageCandidates_63 : decode cX10_averageCandidates 63 = .ok (.iadd, 1) := by decide +kernel
theorem dX10_averageCandidates_64 : decode cX10_averageCandidates 64 = .ok (.istore_n 3, 1) := by decide +kernel
theorem dX10_averageCandidates_65 : decode cX10_averageCandidates 65 = .ok (.iinc 4 1, 3) := by decide +kernel
theorem dX10_averageCandidates_68 : decode cX10_averageCandidates 68 = .ok (.goto (-51), 3) := by decide +kernel
theorem dX10_averageCandidates_71 : decode cX10_averageCandidates 71 = .ok (.iload_n 2, 1) := by decide +kernel
theorem dX10_averageCandidates_72 : decode cX10_averageCandidates 72 = .ok (.ifCond .ne 8, 3) := by decide +kernel
theorem dX10_averageCandidates_75 : decode cX10_averageCandidates 75 = .ok (.bipush (-8), 2) := by decide +kernel
theorem dX10_averageCandidates_77 : decode cX10_averageCandidates 77 = .ok (.goto 9, 3) := by decide +kernel
theorem dX10_averageCandidates_80 : decode cX10_averageCandidates 80 = .ok (.bipush 100, 2) := by decide +kernel
theorem dX10_averageCandidates_82 : decode cX10_averageCandidates 82 = .ok (.iload_n 3, 1) := by decide +kernel
theorem dX10_averageCandidates_83 : decode cX10_averageCandidates 83 = .ok (.imul, 1) := by decide +kernel
theorem dX10_averageCandidates_84 : decode cX10_averageCandidates 84 = .ok (.iload_n 2, 1) := by decide +kernel
theorem dX10_averageCandidates_85 : decode cX10_averageCandidates 85 = .ok (.idiv, 1) := by decide +kernel
theorem dX10_averageCandidates_86 : decode cX10_averageCandidates 86 = .ok (.ireturn, 1) := by decide +kernel
theorem dX10_assign_0 : decode cX10_assign 0 = .ok (.aload_n 0, 1) := by decide +kernel
theorem dX10_assign_1 : decode cX10_assign 1 = .ok (.aload_n 0, 1) := by decide +kernel
theorem dX10_assign_2 : decode cX10_assign 2 = .ok (.getfield 65, 3) := by decide +kernel
theorem dX10_assign_5 : decode cX10_assign 5 = .ok (.invokevirtual 214, 3) := by decide +kernel
theorem dX10_assign_8 : decode cX10_assign 8 = .ok (.istore 4, 2) := by decide +kernel
theorem dX10_assign_10 : decode cX10_assign 10 = .ok (.iload_n 1, 1) := by decide +kernel
theorem dX10_assign_11 : decode cX10_assign 11 = .ok (.iload 4, 2) := by decide +kernel
theorem dX10_assign_13 : decode cX10_assign 13 = .ok (.if_icmp .ne 87, 3) := by decide +kernel
theorem dX10_assign_16 : decode cX10_assign 16 = .ok (.iload_n 2, 1) := by decide +kernel
theorem dX10_assign_17 : decode cX10_assign 17 = .ok (.aload_n 0, 1) := by decide +kernel
theorem dX10_assign_18 : decode cX10_assign 18 = .ok (.getfield 26, 3) := by decide +kernel
theorem dX10_assign_21 : decode cX10_assign 21 = .ok (.aload_n 0, 1) := by decide +kernel
theorem dX10_assign_22 : decode cX10_assign 22 = .ok (.getfield 65, 3) := by decide +kernel
theorem dX10_assign_25 : decode cX10_assign 25 = .ok (.iaload, 1) := by decide +kernel
theorem dX10_assign_26 : decode cX10_assign 26 = .ok (.if_icmp .ge 4, 3) := by decide +kernel
theorem dX10_assign_29 : decode cX10_assign 29 = .ok (.return_, 1) := by decide +kernel
theorem dX10_assign_30 : decode cX10_assign 30 = .ok (.iconst 0, 1) := by decide +kernel
theorem dX10_assign_31 : decode cX10_assign 31 = .ok (.istore 5, 2) := by decide +kernel
theorem dX10_assign_33 : decode cX10_assign 33 = .ok (.iload 5, 2) := by decide +kernel
theorem dX10_assign_35 : decode cX10_assign 35 = .ok (.iload 4, 2) := by decide +kernel
theorem dX10_assign_37 : decode cX10_assign 37 = .ok (.if_icmp .ge 28, 3) := by decide +kernel
theorem dX10_assign_40 : decode cX10_assign 40 = .ok (.aload_n 0, 1) := by decide +kernel
theorem dX10_assign_41 : decode cX10_assign 41 = .ok (.getfield 59, 3) := by decide +kernel
theorem dX10_assign_44 : decode cX10_assign 44 = .ok (.iload 5, 2) := by decide +kernel
theorem dX10_assign_46 : decode cX10_assign 46 = .ok (.dup2, 1) := by decide +kernel
theorem dX10_assign_47 : decode cX10_assign 47 = .ok (.iaload, 1) := by decide +kernel
theorem dX10_assign_48 : decode cX10_assign 48 = .ok (.iconst 1, 1) := by decide +kernel
theorem dX10_assign_49 : decode cX10_assign 49 = .ok (.aload_n 0, 1) := by decide +kernel
theorem dX10_assign_50 : decode cX10_assign 50 = .ok (.getfield 56, 3) := by decide +kernel
theorem dX10_assign_53 : decode cX10_assign 53 = .ok (.iload 5, 2) := by decide +kernel
theorem dX10_assign_55 : decode cX10_assign 55 = .ok (.iaload, 1) := by decide +kernel
theorem dX10_assign_56 : decode cX10_assign 56 = .ok (.ishl, 1) := by decide +kernel
theorem dX10_assign_57 : decode cX10_assign 57 = .ok (.ior, 1) := by decide +kernel
theorem dX10_assign_58 : decode cX10_assign 58 = .ok (.iastore, 1) := by decide +kernel
theorem dX10_assign_59 : decode cX10_assign 59 = .ok (.iinc 5 1, 3) := by decide +kernel
theorem dX10_assign_62 : decode cX10_assign 62 = .ok (.goto (-29), 3) := by decide +kernel
theorem dX10_assign_65 : decode cX10_assign 65 = .ok (.aload_n 0, 1) := by decide +kernel
theorem dX10_assign_66 : decode cX10_assign 66 = .ok (.getfield 68, 3) := by decide +kernel
theorem dX10_assign_69 : decode cX10_assign 69 = .ok (.aload_n 0, 1) := by decide +kernel
theorem dX10_assign_70 : decode cX10_assign 70 = .ok (.getfield 71, 3) := by decide +kernel
theorem dX10_assign_73 : decode cX10_assign 73 = .ok (.if_icmp .ne 16, 3) := by decide +kernel
theorem dX10_assign_76 : decode cX10_assign 76 = .ok (.aload_n 0, 1) := by decide +kernel
theorem dX10_assign_77 : decode cX10_assign 77 = .ok (.aload_n 0, 1) := by decide +kernel
theorem dX10_assign_78 : decode cX10_assign 78 = .ok (.getfield 56, 3) := by decide +kernel
theorem dX10_assign_81 : decode cX10_assign 81 = .ok (.aload_n 0, 1) := by decide +kernel
theorem dX10_assign_82 : decode cX10_assign 82 = .ok (.getfield 74, 3) := by decide +kernel
theorem dX10_assign_85 : decode cX10_assign 85 = .ok (.iaload, 1) := by decide +kernel
theorem dX10_assign_86 : decode cX10_assign 86 = .ok (.putfield 77, 3) := by decide +kernel
theorem dX10_assign_89 : decode cX10_assign 89 = .ok (.aload_n 0, 1) := by decide +kernel
theorem dX10_assign_90 : decode cX10_assign 90 = .ok (.dup, 1) := by decide +kernel
theorem dX10_assign_91 : decode cX10_assign 91 = .ok (.getfield 68, 3) := by decide +kernel
theorem dX10_assign_94 : decode cX10_assign 94 = .ok (.iconst 1, 1) := by decide +kernel
theorem dX10_assign_95 : decode cX10_assign 95 = .ok (.iadd, 1) := by decide +kernel
theorem dX10_assign_96 : decode cX10_assign 96 = .ok (.putfield 68, 3) := by decide +kernel
theorem dX10_assign_99 : decode cX10_assign 99 = .ok (.return_, 1) := by decide +kernel
theorem dX10_assign_100 : decode cX10_assign 100 = .ok (.aload_n 0, 1) := by decide +kernel
theorem dX10_assign_101 : decode cX10_assign 101 = .ok (.getfield 22, 3) := by decide +kernel
theorem dX10_assign_104 : decode cX10_assign 104 = .ok (.aload_n 0, 1) := by decide +kernel
theorem dX10_assign_105 : decode cX10_assign 105 = .ok (.getfield 62, 3) := by decide +kernel
theorem dX10_assign_108 : decode cX10_assign 108 = .ok (.aload_n 0, 1) := by decide +kernel
theorem dX10_assign_109 : decode cX10_assign 109 = .ok (.aload_n 0, 1) := by decide +kernel
theorem dX10_assign_110 : decode cX10_assign 110 = .ok (.getfield 65, 3) := by decide +kernel
theorem dX10_assign_113 : decode cX10_assign 113 = .ok (.iload_n 1, 1) := by decide +kernel
theorem dX10_assign_114 : decode cX10_assign 114 = .ok (.invokevirtual 217, 3) := by decide +kernel
theorem dX10_assign_117 : decode cX10_assign 117 = .ok (.iadd, 1) := by decide +kernel
theorem dX10_assign_118 : decode cX10_assign 118 = .ok (.iaload, 1) := by decide +kernel
theorem dX10_assign_119 : decode cX10_assign 119 = .ok (.istore 5, 2) := by decide +kernel
theorem dX10_assign_121 : decode cX10_assign 121 = .ok (.iload_n 3, 1) := by decide +kernel
theorem dX10_assign_122 : decode cX10_assign 122 = .ok (.ifCond .ne 27, 3) := by decide +kernel
theorem dX10_assign_125 : decode cX10_assign 125 = .ok (.iload 5, 2) := by decide +kernel
theorem dX10_assign_127 : decode cX10_assign 127 = .ok (.iconst 1, 1) := by decide +kernel
theorem dX10_assign_128 : decode cX10_assign 128 = .ok (.iand, 1) := by decide +kernel
theorem dX10_assign_129 : decode cX10_assign 129 = .ok (.iconst 1, 1) := by decide +kernel
theorem dX10_assign_130 : decode cX10_assign 130 = .ok (.if_icmp .ne 19, 3) := by decide +kernel
theorem dX10_assign_133 : decode cX10_assign 133 = .ok (.aload_n 0, 1) := by decide +kernel
theorem dX10_assign_134 : decode cX10_assign 134 = .ok (.getfield 56, 3) := by decide +kernel
theorem dX10_assign_137 : decode cX10_assign 137 = .ok (.iload_n 1, 1) := by decide +kernel
theorem dX10_assign_138 : decode cX10_assign 138 = .ok (.iconst 0, 1) := by decide +kernel
theorem dX10_assign_139 : decode cX10_assign 139 = .ok (.iastore, 1) := by decide +kernel
theorem dX10_assign_140 : decode cX10_assign 140 = .ok (.aload_n 0, 1) := by decide +kernel
theorem dX10_assign_141 : decode cX10_assign 141 = .ok (.iload_n 1, 1) := by decide +kernel
theorem dX10_assign_142 : decode cX10_assign 142 = .ok (.iconst 1, 1) := by decide +kernel
theorem dX10_assign_143 : decode cX10_assign 143 = .ok (.iadd, 1) := by decide +kernel
theorem dX10_assign_144 : decode cX10_assign 144 = .ok (.iload_n 2, 1) := by decide +kernel
theorem dX10_assign_145 : decode cX10_assign 145 = .ok (.iconst 0, 1) := by decide +kernel
theorem dX10_assign_146 : decode cX10_assign 146 = .ok (.invokevirtual 221, 3) := by decide +kernel
theorem dX10_assign_149 : decode cX10_assign 149 = .ok (.iload_n 2, 1) := by decide +kernel
theorem dX10_assign_150 : decode cX10_assign 150 = .ok (.aload_n 0, 1) := by decide +kernel
theorem dX10_assign_151 : decode cX10_assign 151 = .ok (.getfield 26, 3) := by decide +kernel
theorem dX10_assign_154 : decode cX10_assign 154 = .ok (.aload_n 0, 1) := by decide +kernel
theorem dX10_assign_155 : decode cX10_assign 155 = .ok (.getfield 65, 3) := by decide +kernel
theorem dX10_assign_158 : decode cX10_assign 158 = .ok (.iaload, 1) := by decide +kernel
theorem dX10_assign_159 : decode cX10_assign 159 = .ok (.if_icmp .ne 4, 3) := by decide +kernel
theorem dX10_assign_162 : decode cX10_assign 162 = .ok (.return_, 1) := by decide +kernel
theorem dX10_assign_163 : decode cX10_assign 163 = .ok (.aload_n 0, 1) := by decide +kernel
theorem dX10_assign_164 : decode cX10_assign 164 = .ok (.getfield 32, 3) := by decide +kernel
theorem dX10_assign_167 : decode cX10_assign 167 = .ok (.bipush 8, 2) := by decide +kernel
theorem dX10_assign_169 : decode cX10_assign 169 = .ok (.aload_n 0, 1) := by decide +kernel
theorem dX10_assign_170 : decode cX10_assign 170 = .ok (.getfield 65, 3) := by decide +kernel
theorem dX10_assign_173 : decode cX10_assign 173 = .ok (.imul, 1) := by decide +kernel
theorem dX10_assign_174 : decode cX10_assign 174 = .ok (.iload_n 2, 1) := by decide +kernel
theorem dX10_assign_175 : decode cX10_assign 175 = .ok (.iadd, 1) := by decide +kernel
theorem dX10_assign_176 : decode cX10_assign 176 = .ok (.iaload, 1) := by decide +kernel
theorem dX10_assign_177 : decode cX10_assign 177 = .ok (.istore 6, 2) := by decide +kernel
theorem dX10_assign_179 : decode cX10_assign 179 = .ok (.iload 5, 2) := by decide +kernel
theorem dX10_assign_181 : decode cX10_assign 181 = .ok (.iload 6, 2) := by decide +kernel
theorem dX10_assign_183 : decode cX10_assign 183 = .ok (.ishr, 1) := by decide +kernel
theorem dX10_assign_184 : decode cX10_assign 184 = .ok (.iconst 1, 1) := by decide +kernel
theorem dX10_assign_185 : decode cX10_assign 185 = .ok (.iand, 1) := by decide +kernel
theorem dX10_assign_186 : decode cX10_assign 186 = .ok (.ifCond .eq 24, 3) := by decide +kernel
theorem dX10_assign_189 : decode cX10_assign 189 = .ok (.iload_n 3, 1) := by decide +kernel
theorem dX10_assign_190 : decode cX10_assign 190 = .ok (.ifCond .ne 21, 3) := by decide +kernel
theorem dX10_assign_193 : decode cX10_assign 193 = .ok (.iload_n 1, 1) := by decide +kernel
theorem dX10_assign_194 : decode cX10_assign 194 = .ok (.ifCond .le 17, 3) := by decide +kernel
theorem dX10_assign_197 : decode cX10_assign 197 = .ok (.aload_n 0, 1) := by decide +kernel
theorem dX10_assign_198 : decode cX10_assign 198 = .ok (.getfield 56, 3) := by decide +kernel
theorem dX10_assign_201 : decode cX10_assign 201 = .ok (.iload_n 1, 1) := by decide +kernel
theorem dX10_assign_202 : decode cX10_assign 202 = .ok (.iconst 1, 1) := by decide +kernel
theorem dX10_assign_203 : decode cX10_assign 203 = .ok (.isub, 1) := by decide +kernel
theorem dX10_assign_204 : decode cX10_assign 204 = .ok (.iaload, 1) := by decide +kernel
theorem dX10_assign_205 : decode cX10_assign 205 = .ok (.iload 6, 2) := by decide +kernel
theorem dX10_assign_207 : decode cX10_assign 207 = .ok (.if_icmp .ne 4, 3) := by decide +kernel
theorem dX10_assign_210 : decode cX10_assign 210 = .ok (.return_, 1) := by decide +kernel
theorem dX10_assign_211 : decode cX10_assign 211 = .ok (.aload_n 0, 1) := by decide +kernel
theorem dX10_assign_212 : decode cX10_assign 212 = .ok (.getfield 56, 3) := by decide +kernel
theorem dX10_assign_215 : decode cX10_assign 215 = .ok (.iload_n 1, 1) := by decide +kernel
theorem dX10_assign_216 : decode cX10_assign 216 = .ok (.iload 6, 2) := by decide +kernel
theorem dX10_assign_218 : decode cX10_assign 218 = .ok (.iastore, 1) := by decide +kernel
theorem dX10_assign_219 : decode cX10_assign 219 = .ok (.iload_n 3, 1) := by decide +kernel
theorem dX10_assign_220 : decode cX10_assign 220 = .ok (.iconst 1, 1) := by decide +kernel
theorem dX10_assign_221 : decode cX10_assign 221 = .ok (.iadd, 1) := by decide +kernel
theorem dX10_assign_222 : decode cX10_assign 222 = .ok (.aload_n 0, 1) := by decide +kernel
theorem dX10_assign_223 : decode cX10_assign 223 = .ok (.getfield 29, 3) := by decide +kernel
theorem dX10_assign_226 : decode cX10_assign 226 = .ok (.bipush 8, 2) := by decide +kernel
theorem dX10_assign_228 : decode cX10_assign 228 = .ok (.aload_n 0, 1) := by decide +kernel
theorem dX10_assign_229 : decode cX10_assign 229 = .ok (.getfield 65, 3) := by decide +kernel
theorem dX10_assign_232 : decode cX10_assign 232 = .ok (.imul, 1) := by decide +kernel
theorem dX10_assign_233 : decode cX10_assign 233 = .ok (.iload_n 2, 1) := by decide +kernel
theorem dX10_assign_234 : decode cX10_assign 234 = .ok (.iadd, 1) := by decide +kernel
theorem dX10_assign_235 : decode cX10_assign 235 = .ok (.iaload, 1) := by decide +kernel
theorem dX10_assign_236 : decode cX10_assign 236 = .ok (.if_icmp .ne 7, 3) := by decide +kernel
theorem dX10_assign_239 : decode cX10_assign 239 = .ok (.iconst 1, 1) := by decide +kernel
theorem dX10_assign_240 : decode cX10_assign 240 = .ok (.goto 4, 3) := by decide +kernel
theorem dX10_assign_243 : decode cX10_assign 243 = .ok (.iconst 0, 1) := by decide +kernel
theorem dX10_assign_244 : decode cX10_assign 244 = .ok (.istore 7, 2) := by decide +kernel
theorem dX10_assign_246 : decode cX10_assign 246 = .ok (.aload_n 0, 1) := by decide +kernel
theorem dX10_assign_247 : decode cX10_assign 247 = .ok (.iload_n 1, 1) := by decide +kernel
theorem dX10_assign_248 : decode cX10_assign 248 = .ok (.iconst 1, 1) := by decide +kernel
theorem dX10_assign_249 : decode cX10_assign 249 = .ok (.iadd, 1) := by decide +kernel
theorem dX10_assign_250 : decode cX10_assign 250 = .ok (.iload 7, 2) := by decide +kernel
theorem dX10_assign_252 : decode cX10_assign 252 = .ok (.ifCond .eq 9, 3) := by decide +kernel
theorem dX10_assign_255 : decode cX10_assign 255 = .ok (.iload_n 2, 1) := by decide +kernel
theorem dX10_assign_256 : decode cX10_assign 256 = .ok (.iconst 1, 1) := by decide +kernel
theorem dX10_assign_257 : decode cX10_assign 257 = .ok (.iadd, 1) := by decide +kernel
theorem dX10_assign_258 : decode cX10_assign 258 = .ok (.goto 4, 3) := by decide +kernel
theorem dX10_assign_261 : decode cX10_assign 261 = .ok (.iload_n 2, 1) := by decide +kernel
theorem dX10_assign_262 : decode cX10_assign 262 = .ok (.iload 7, 2) := by decide +kernel
theorem dX10_assign_264 : decode cX10_assign 264 = .ok (.ifCond .eq 7, 3) := by decide +kernel
theorem dX10_assign_267 : decode cX10_assign 267 = .ok (.iconst 0, 1) := by decide +kernel
theorem dX10_assign_268 : decode cX10_assign 268 = .ok (.goto 6, 3) := by decide +kernel
theorem dX10_assign_271 : decode cX10_assign 271 = .ok (.iload_n 3, 1) := by decide +kernel
theorem dX10_assign_272 : decode cX10_assign 272 = .ok (.iconst 1, 1) := by decide +kernel
theorem dX10_assign_273 : decode cX10_assign 273 = .ok (.iadd, 1) := by decide +kernel
theorem dX10_assign_274 : decode cX10_assign 274 = .ok (.invokevirtual 221, 3) := by decide +kernel
theorem dX10_assign_277 : decode cX10_assign 277 = .ok (.return_, 1) := by decide +kernel
theorem dX10_assignAll_0 : decode cX10_assignAll 0 = .ok (.aload_n 0, 1) := by decide +kernel
theorem dX10_assignAll_1 : decode cX10_assignAll 1 = .ok (.iload_n 1, 1) := by decide +kernel
theorem dX10_assignAll_2 : decode cX10_assignAll 2 = .ok (.putfield 62, 3) := by decide +kernel
theorem dX10_assignAll_5 : decode cX10_assignAll 5 = .ok (.aload_n 0, 1) := by decide +kernel
theorem dX10_assignAll_6 : decode cX10_assignAll 6 = .ok (.iload_n 2, 1) := by decide +kernel
theorem dX10_assignAll_7 : decode cX10_assignAll 7 = .ok (.putfield 65, 3) := by decide +kernel
theorem dX10_assignAll_10 : decode cX10_assignAll 10 = .ok (.aload_n 0, 1) := by decide +kernel
theorem dX10_assignAll_11 : decode cX10_assignAll 11 = .ok (.iconst 0, 1) := by decide +kernel
theorem dX10_assignAll_12 : decode cX10_assignAll 12 = .ok (.putfield 68, 3) := by decide +kernel
theorem dX10_assignAll_15 : decode cX10_assignAll 15 = .ok (.iconst 0, 1) := by decide +kernel
theorem dX10_assignAll_16 : decode cX10_assignAll 16 = .ok (.istore_n 3, 1) := by decide +kernel
theorem dX10_assignAll_17 : decode cX10_assignAll 17 = .ok (.iload_n 3, 1) := by decide +kernel
theorem dX10_assignAll_18 : decode cX10_assignAll 18 = .ok (.bipush 8, 2) := by decide +kernel
theorem dX10_assignAll_20 : decode cX10_assignAll 20 = .ok (.if_icmp .ge 16, 3) := by decide +kernel
theorem dX10_assignAll_23 : decode cX10_assignAll 23 = .ok (.aload_n 0, 1) := by decide +kernel
theorem dX10_assignAll_24 : decode cX10_assignAll 24 = .ok (.getfield 59, 3) := by decide +kernel
theorem dX10_assignAll_27 : decode cX10_assignAll 27 = .ok (.iload_n 3, 1) := by decide +kernel
theorem dX10_assignAll_28 : decode cX10_assignAll 28 = .ok (.iconst 0, 1) := by decide +kernel
theorem dX10_assignAll_29 : decode cX10_assignAll 29 = .ok (.iastore, 1) := by decide +kernel
theorem dX10_assignAll_30 : decode cX10_assignAll 30 = .ok (.iinc 3 1, 3) := by decide +kernel
theorem dX10_assignAll_33 : decode cX10_assignAll 33 = .ok (.goto (-16), 3) := by decide +kernel
theorem dX10_assignAll_36 : decode cX10_assignAll 36 = .ok (.aload_n 0, 1) := by decide +kernel
theorem dX10_assignAll_37 : decode cX10_assignAll 37 = .ok (.iconst 0, 1) := by decide +kernel
theorem dX10_assignAll_38 : decode cX10_assignAll 38 = .ok (.iconst 0, 1) := by decide +kernel
theorem dX10_assignAll_39 : decode cX10_assignAll 39 = .ok (.iconst 0, 1) := by decide +kernel
theorem dX10_assignAll_40 : decode cX10_assignAll 40 = .ok (.invokevirtual 221, 3) := by decide +kernel
theorem dX10_assignAll_43 : decode cX10_assignAll 43 = .ok (.return_, 1) := by decide +kernel
theorem dX10_assignmentCount_0 : decode cX10_assignmentCount 0 = .ok (.aload_n 0, 1) := by decide +kernel
theorem dX10_assignmentCount_1 : decode cX10_assignmentCount 1 = .ok (.iload_n 1, 1) := by decide +kernel
theorem dX10_assignmentCount_2 : decode cX10_assignmentCount 2 = .ok (.invokevirtual 180, 3) := by decide +kernel
theorem dX10_assignmentCount_5 : decode cX10_assignmentCount 5 = .ok (.ifCond .ne 5, 3) := by decide +kernel
theorem dX10_assignmentCount_8 : decode cX10_assignmentCount 8 = .ok (.iconst (-1), 1) := by decide +kernel
theorem dX10_assignmentCount_9 : decode cX10_assignmentCount 9 = .ok (.ireturn, 1) := by decide +kernel
theorem dX10_assignmentCount_10 : decode cX10_assignmentCount 10 = .ok (.aload_n 0, 1) := by decide +kernel
theorem dX10_assignmentCount_11 : decode cX10_assignmentCount 11 = .ok (.iconst 0, 1) := by decide +kernel
theorem dX10_assignmentCount_12 : decode cX10_assignmentCount 12 = .ok (.iload_n 1, 1) := by decide +kernel
theorem dX10_assignmentCount_13 : decode cX10_assignmentCount 13 = .ok (.invokevirtual 224, 3) := by decide +kernel
theorem dX10_assignmentCount_16 : decode cX10_assignmentCount 16 = .ok (.aload_n 0, 1) := by decide +kernel
theorem dX10_assignmentCount_17 : decode cX10_assignmentCount 17 = .ok (.getfield 68, 3) := by decide +kernel
theorem dX10_assignmentCount_20 : decode cX10_assignmentCount 20 = .ok (.ireturn, 1) := by decide +kernel
theorem dX10_assignmentColor_0 : decode cX10_assignmentColor 0 = .ok (.aload_n 0, 1) := by decide +kernel
theorem dX10_assignmentColor_1 : decode cX10_assignmentColor 1 = .ok (.iload_n 1, 1) := by decide +kernel
theorem dX10_assignmentColor_2 : decode cX10_assignmentColor 2 = .ok (.invokevirtual 180, 3) := by decide +kernel
theorem dX10_assignmentColor_5 : decode cX10_assignmentColor 5 = .ok (.ifCond .eq 23, 3) := by decide +kernel
theorem dX10_assignmentColor_8 : decode cX10_assignmentColor 8 = .ok (.iload_n 2, 1) := by decide +kernel
theorem dX10_assignmentColor_9 : decode cX10_assignmentColor 9 = .ok (.ifCond .lt 19, 3) := by decide +kernel
theorem dX10_assignmentColor_12 : decode cX10_assignmentColor 12 = .ok (.aload_n 0, 1) := by decide +kernel
theorem dX10_assignmentColor_13 : decode cX10_assignmentColor 13 = .ok (.iload_n 3, 1) := by decide +kernel
theorem dX10_assignmentColor_14 : decode cX10_assignmentColor 14 = .ok (.iconst 0, 1) := by decide +kernel
theorem dX10_assignmentColor_15 : decode cX10_assignmentColor 15 = .ok (.aload_n 0, 1) := by decide +kernel
theorem dX10_assignmentColor_16 : decode cX10_assignmentColor 16 = .ok (.iload_n 1, 1) := by decide +kernel
theorem dX10_assignmentColor_17 : decode cX10_assignmentColor 17 = .ok (.invokevirtual 214, 3) := by decide +kernel
theorem dX10_assignmentColor_20 : decode cX10_assignmentColor 20 = .ok (.iconst 1, 1) := by decide +kernel
theorem dX10_assignmentColor_21 : decode cX10_assignmentColor 21 = .ok (.isub, 1) := by decide +kernel
theorem dX10_assignmentColor_22 : decode cX10_assignmentColor 22 = .ok (.invokevirtual 172, 3) := by decide +kernel
theorem dX10_assignmentColor_25 : decode cX10_assignmentColor 25 = .ok (.ifCond .ne 5, 3) := by decide +kernel
theorem dX10_assignmentColor_28 : decode cX10_assignmentColor 28 = .ok (.iconst (-1), 1) := by decide +kernel
theorem dX10_assignmentColor_29 : decode cX10_assignmentColor 29 = .ok (.ireturn, 1) := by decide +kernel
theorem dX10_assignmentColor_30 : decode cX10_assignmentColor 30 = .ok (.aload_n 0, 1) := by decide +kernel
theorem dX10_assignmentColor_31 : decode cX10_assignmentColor 31 = .ok (.iload_n 2, 1) := by decide +kernel
theorem dX10_assignmentColor_32 : decode cX10_assignmentColor 32 = .ok (.putfield 71, 3) := by decide +kernel
theorem dX10_assignmentColor_35 : decode cX10_assignmentColor 35 = .ok (.aload_n 0, 1) := by decide +kernel
theorem dX10_assignmentColor_36 : decode cX10_assignmentColor 36 = .ok (.iload_n 3, 1) := by decide +kernel
theorem dX10_assignmentColor_37 : decode cX10_assignmentColor 37 = .ok (.putfield 74, 3) := by decide +kernel
theorem dX10_assignmentColor_40 : decode cX10_assignmentColor 40 = .ok (.aload_n 0, 1) := by decide +kernel
theorem dX10_assignmentColor_41 : decode cX10_assignmentColor 41 = .ok (.iconst 0, 1) := by decide +kernel
theorem dX10_assignmentColor_42 : decode cX10_assignmentColor 42 = .ok (.iload_n 1, 1) := by decide +kernel
theorem dX10_assignmentColor_43 : decode cX10_assignmentColor 43 = .ok (.invokevirtual 224, 3) := by decide +kernel
theorem dX10_assignmentColor_46 : decode cX10_assignmentColor 46 = .ok (.aload_n 0, 1) := by decide +kernel
theorem dX10_assignmentColor_47 : decode cX10_assignmentColor 47 = .ok (.iconst (-1), 1) := by decide +kernel
theorem dX10_assignmentColor_48 : decode cX10_assignmentColor 48 = .ok (.putfield 71, 3) := by decide +kernel
theorem dX10_assignmentColor_51 : decode cX10_assignmentColor 51 = .ok (.iload_n 2, 1) := by decide +kernel
theorem dX10_assignmentColor_52 : decode cX10_assignmentColor 52 = .ok (.aload_n 0, 1) := by decide +kernel
theorem dX10_assignmentColor_53 : decode cX10_assignmentColor 53 = .ok (.getfield 68, 3) := by decide +kernel
theorem dX10_assignmentColor_56 : decode cX10_assignmentColor 56 = .ok (.if_icmp .ge 10, 3) := by decide +kernel
theorem dX10_assignmentColor_59 : decode cX10_assignmentColor 59 = .ok (.aload_n 0, 1) := by decide +kernel
theorem dX10_assignmentColor_60 : decode cX10_assignmentColor 60 = .ok (.getfield 77, 3) := by decide +kernel
theorem dX10_assignmentColor_63 : decode cX10_assignmentColor 63 = .ok (.goto 4, 3) := by decide +kernel
theorem dX10_assignmentColor_66 : decode cX10_assignmentColor 66 = .ok (.iconst (-1), 1) := by decide +kernel
theorem dX10_assignmentColor_67 : decode cX10_assignmentColor 67 = .ok (.ireturn, 1) := by decide +kernel
theorem dX10_solve_0 : decode cX10_solve 0 = .ok (.aload_n 0, 1) := by decide +kernel
theorem dX10_solve_1 : decode cX10_solve 1 = .ok (.iload_n 1, 1) := by decide +kernel
theorem dX10_solve_2 : decode cX10_solve 2 = .ok (.iload_n 2, 1) := by decide +kernel
theorem dX10_solve_3 : decode cX10_solve 3 = .ok (.invokevirtual 224, 3) := by decide +kernel
theorem dX10_solve_6 : decode cX10_solve 6 = .ok (.aload_n 0, 1) := by decide +kernel
theorem dX10_solve_7 : decode cX10_solve 7 = .ok (.getfield 68, 3) := by decide +kernel
theorem dX10_solve_10 : decode cX10_solve 10 = .ok (.ifCond .ne 5, 3) := by decide +kernel
theorem dX10_solve_13 : decode cX10_solve 13 = .ok (.iconst (-1), 1) := by decide +kernel
theorem dX10_solve_14 : decode cX10_solve 14 = .ok (.ireturn, 1) := by decide +kernel
theorem dX10_solve_15 : decode cX10_solve 15 = .ok (.iconst 0, 1) := by decide +kernel
theorem dX10_solve_16 : decode cX10_solve 16 = .ok (.istore_n 3, 1) := by decide +kernel
theorem dX10_solve_17 : decode cX10_solve 17 = .ok (.iconst 0, 1) := by decide +kernel
theorem dX10_solve_18 : decode cX10_solve 18 = .ok (.istore 4, 2) := by decide +kernel
theorem dX10_solve_20 : decode cX10_solve 20 = .ok (.iload 4, 2) := by decide +kernel
theorem dX10_solve_22 : decode cX10_solve 22 = .ok (.aload_n 0, 1) := by decide +kernel
theorem dX10_solve_23 : decode cX10_solve 23 = .ok (.iload_n 2, 1) := by decide +kernel
theorem dX10_solve_24 : decode cX10_solve 24 = .ok (.invokevirtual 214, 3) := by decide +kernel
theorem dX10_solve_27 : decode cX10_solve 27 = .ok (.if_icmp .ge 61, 3) := by decide +kernel
theorem dX10_solve_30 : decode cX10_solve 30 = .ok (.iload_n 1, 1) := by decide +kernel
theorem dX10_solve_31 : decode cX10_solve 31 = .ok (.aload_n 0, 1) := by decide +kernel
theorem dX10_solve_32 : decode cX10_solve 32 = .ok (.iload_n 2, 1) := by decide +kernel
theorem dX10_solve_33 : decode cX10_solve 33 = .ok (.iload 4, 2) := by decide +kernel
theorem dX10_solve_35 : decode cX10_solve 35 = .ok (.invokevirtual 217, 3) := by decide +kernel
theorem dX10_solve_38 : decode cX10_solve 38 = .ok (.iadd, 1) := by decide +kernel
theorem dX10_solve_39 : decode cX10_solve 39 = .ok (.istore 5, 2) := by decide +kernel
theorem dX10_solve_41 : decode cX10_solve 41 = .ok (.iload_n 3, 1) := by decide +kernel
theorem dX10_solve_42 : decode cX10_solve 42 = .ok (.aload_n 0, 1) := by decide +kernel
theorem dX10_solve_43 : decode cX10_solve 43 = .ok (.aload_n 0, 1) := by decide +kernel
theorem dX10_solve_44 : decode cX10_solve 44 = .ok (.getfield 22, 3) := by decide +kernel
theorem dX10_solve_47 : decode cX10_solve 47 = .ok (.iload 5, 2) := by decide +kernel
theorem dX10_solve_49 : decode cX10_solve 49 = .ok (.iaload, 1) := by decide +kernel
theorem dX10_solve_50 : decode cX10_solve 50 = .ok (.aload_n 0, 1) := by decide +kernel
theorem dX10_solve_51 : decode cX10_solve 51 = .ok (.getfield 59, 3) := by decide +kernel
theorem dX10_solve_54 : decode cX10_solve 54 = .ok (.iload 4, 2) := by decide +kernel
theorem dX10_solve_56 : decode cX10_solve 56 = .ok (.iaload, 1) := by decide +kernel
theorem dX10_solve_57 : decode cX10_solve 57 = .ok (.iconst (-1), 1) := by decide +kernel
theorem dX10_solve_58 : decode cX10_solve 58 = .ok (.ixor, 1) := by decide +kernel
theorem dX10_solve_59 : decode cX10_solve 59 = .ok (.iand, 1) := by decide +kernel
theorem dX10_solve_60 : decode cX10_solve 60 = .ok (.invokevirtual 208, 3) := by decide +kernel
theorem dX10_solve_63 : decode cX10_solve 63 = .ok (.iadd, 1) := by decide +kernel
theorem dX10_solve_64 : decode cX10_solve 64 = .ok (.istore_n 3, 1) := by decide +kernel
theorem dX10_solve_65 : decode cX10_solve 65 = .ok (.aload_n 0, 1) := by decide +kernel
theorem dX10_solve_66 : decode cX10_solve 66 = .ok (.getfield 22, 3) := by decide +kernel
theorem dX10_solve_69 : decode cX10_solve 69 = .ok (.iload 5, 2) := by decide +kernel
theorem dX10_solve_71 : decode cX10_solve 71 = .ok (.dup2, 1) := by decide +kernel
theorem dX10_solve_72 : decode cX10_solve 72 = .ok (.iaload, 1) := by decide +kernel
theorem dX10_solve_73 : decode cX10_solve 73 = .ok (.aload_n 0, 1) := by decide +kernel
theorem dX10_solve_74 : decode cX10_solve 74 = .ok (.getfield 59, 3) := by decide +kernel
theorem dX10_solve_77 : decode cX10_solve 77 = .ok (.iload 4, 2) := by decide +kernel
theorem dX10_solve_79 : decode cX10_solve 79 = .ok (.iaload, 1) := by decide +kernel
theorem dX10_solve_80 : decode cX10_solve 80 = .ok (.iand, 1) := by decide +kernel
theorem dX10_solve_81 : decode cX10_solve 81 = .ok (.iastore, 1) := by decide +kernel
theorem dX10_solve_82 : decode cX10_solve 82 = .ok (.iinc 4 1, 3) := by decide +kernel
theorem dX10_solve_85 : decode cX10_solve 85 = .ok (.goto (-65), 3) := by decide +kernel
theorem dX10_solve_88 : decode cX10_solve 88 = .ok (.iload_n 3, 1) := by decide +kernel
theorem dX10_solve_89 : decode cX10_solve 89 = .ok (.ireturn, 1) := by decide +kernel
theorem dX10_spread_0 : decode cX10_spread 0 = .ok (.iconst 0, 1) := by decide +kernel
theorem dX10_spread_1 : decode cX10_spread 1 = .ok (.istore_n 2, 1) := by decide +kernel
theorem dX10_spread_2 : decode cX10_spread 2 = .ok (.iconst (-1), 1) := by decide +kernel
theorem dX10_spread_3 : decode cX10_spread 3 = .ok (.istore_n 3, 1) := by decide +kernel
theorem dX10_spread_4 : decode cX10_spread 4 = .ok (.aload_n 0, 1) := by decide +kernel
theorem dX10_spread_5 : decode cX10_spread 5 = .ok (.iconst 0, 1) := by decide +kernel
theorem dX10_spread_6 : decode cX10_spread 6 = .ok (.putfield 80, 3) := by decide +kernel
theorem dX10_spread_9 : decode cX10_spread 9 = .ok (.iload_n 3, 1) := by decide +kernel
theorem dX10_spread_10 : decode cX10_spread 10 = .ok (.iload_n 2, 1) := by decide +kernel
theorem dX10_spread_11 : decode cX10_spread 11 = .ok (.if_icmp .ge 63, 3) := by decide +kernel
theorem dX10_spread_14 : decode cX10_spread 14 = .ok (.iload_n 2, 1) := by decide +kernel
theorem dX10_spread_15 : decode cX10_spread 15 = .ok (.istore_n 3, 1) := by decide +kernel
theorem dX10_spread_16 : decode cX10_spread 16 = .ok (.aload_n 0, 1) := by decide +kernel
theorem dX10_spread_17 : decode cX10_spread 17 = .ok (.dup, 1) := by decide +kernel
theorem dX10_spread_18 : decode cX10_spread 18 = .ok (.getfield 80, 3) := by decide +kernel
theorem dX10_spread_21 : decode cX10_spread 21 = .ok (.iconst 1, 1) := by decide +kernel
theorem dX10_spread_22 : decode cX10_spread 22 = .ok (.iadd, 1) := by decide +kernel
theorem dX10_spread_23 : decode cX10_spread 23 = .ok (.putfield 80, 3) := by decide +kernel
theorem dX10_spread_26 : decode cX10_spread 26 = .ok (.iconst 0, 1) := by decide +kernel
theorem dX10_spread_27 : decode cX10_spread 27 = .ok (.istore 4, 2) := by decide +kernel
theorem dX10_spread_29 : decode cX10_spread 29 = .ok (.iload 4, 2) := by decide +kernel
theorem dX10_spread_31 : decode cX10_spread 31 = .ok (.aload_n 0, 1) := by decide +kernel
theorem dX10_spread_32 : decode cX10_spread 32 = .ok (.invokevirtual 168, 3) := by decide +kernel
theorem dX10_spread_35 : decode cX10_spread 35 = .ok (.if_icmp .ge 36, 3) := by decide +kernel
theorem dX10_spread_38 : decode cX10_spread 38 = .ok (.aload_n 0, 1) := by decide +kernel
theorem dX10_spread_39 : decode cX10_spread 39 = .ok (.iload_n 1, 1) := by decide +kernel
theorem dX10_spread_40 : decode cX10_spread 40 = .ok (.iload 4, 2) := by decide +kernel
theorem dX10_spread_42 : decode cX10_spread 42 = .ok (.invokevirtual 227, 3) := by decide +kernel
theorem dX10_spread_45 : decode cX10_spread 45 = .ok (.istore 5, 2) := by decide +kernel
theorem dX10_spread_47 : decode cX10_spread 47 = .ok (.iload 5, 2) := by decide +kernel
theorem dX10_spread_49 : decode cX10_spread 49 = .ok (.ifCond .ge 11, 3) := by decide +kernel
theorem dX10_spread_52 : decode cX10_spread 52 = .ok (.aload_n 0, 1) := by decide +kernel
theorem dX10_spread_53 : decode cX10_spread 53 = .ok (.iload 4, 2) := by decide +kernel
theorem dX10_spread_55 : decode cX10_spread 55 = .ok (.putfield 83, 3) := by decide +kernel
theorem dX10_spread_58 : decode cX10_spread 58 = .ok (.iconst (-1), 1) := by decide +kernel
theorem dX10_spread_59 : decode cX10_spread 59 = .ok (.ireturn, 1) := by decide +kernel
theorem dX10_spread_60 : decode cX10_spread 60 = .ok (.iload_n 2, 1) := by decide +kernel
theorem dX10_spread_61 : decode cX10_spread 61 = .ok (.iload 5, 2) := by decide +kernel
theorem dX10_spread_63 : decode cX10_spread 63 = .ok (.iadd, 1) := by decide +kernel
theorem dX10_spread_64 : decode cX10_spread 64 = .ok (.istore_n 2, 1) := by decide +kernel
theorem dX10_spread_65 : decode cX10_spread 65 = .ok (.iinc 4 1, 3) := by decide +kernel
theorem dX10_spread_68 : decode cX10_spread 68 = .ok (.goto (-39), 3) := by decide +kernel
theorem dX10_spread_71 : decode cX10_spread 71 = .ok (.goto (-62), 3) := by decide +kernel
theorem dX10_spread_74 : decode cX10_spread 74 = .ok (.iload_n 2, 1) := by decide +kernel
theorem dX10_spread_75 : decode cX10_spread 75 = .ok (.ireturn, 1) := by decide +kernel
theorem dX10_copy_0 : decode cX10_copy 0 = .ok (.iconst 0, 1) := by decide +kernel
theorem dX10_copy_1 : decode cX10_copy 1 = .ok (.istore_n 3, 1) := by decide +kernel
theorem dX10_copy_2 : decode cX10_copy 2 = .ok (.iload_n 3, 1) := by decide +kernel
theorem dX10_copy_3 : decode cX10_copy 3 = .ok (.bipush 64, 2) := by decide +kernel
theorem dX10_copy_5 : decode cX10_copy 5 = .ok (.if_icmp .ge 25, 3) := by decide +kernel
theorem dX10_copy_8 : decode cX10_copy 8 = .ok (.aload_n 0, 1) := by decide +kernel
theorem dX10_copy_9 : decode cX10_copy 9 = .ok (.getfield 22, 3) := by decide +kernel
theorem dX10_copy_12 : decode cX10_copy 12 = .ok (.iload_n 2, 1) := by decide +kernel
theorem dX10_copy_13 : decode cX10_copy 13 = .ok (.iload_n 3, 1) := by decide +kernel
theorem dX10_copy_14 : decode cX10_copy 14 = .ok (.iadd, 1) := by decide +kernel
theorem dX10_copy_15 : decode cX10_copy 15 = .ok (.aload_n 0, 1) := by decide +kernel
theorem dX10_copy_16 : decode cX10_copy 16 = .ok (.getfield 22, 3) := by decide +kernel
theorem dX10_copy_19 : decode cX10_copy 19 = .ok (.iload_n 1, 1) := by decide +kernel
theorem dX10_copy_20 : decode cX10_copy 20 = .ok (.iload_n 3, 1) := by decide +kernel
theorem dX10_copy_21 : decode cX10_copy 21 = .ok (.iadd, 1) := by decide +kernel
theorem dX10_copy_22 : decode cX10_copy 22 = .ok (.iaload, 1) := by decide +kernel
theorem dX10_copy_23 : decode cX10_copy 23 = .ok (.iastore, 1) := by decide +kernel
theorem dX10_copy_24 : decode cX10_copy 24 = .ok (.iinc 3 1, 3) := by decide +kernel
theorem dX10_copy_27 : decode cX10_copy 27 = .ok (.goto (-25), 3) := by decide +kernel
theorem dX10_copy_30 : decode cX10_copy 30 = .ok (.return_, 1) := by decide +kernel
theorem dX10_contradiction_0 : decode cX10_contradiction 0 = .ok (.aload_n 0, 1) := by decide +kernel
theorem dX10_contradiction_1 : decode cX10_contradiction 1 = .ok (.iload_n 1, 1) := by decide +kernel
theorem dX10_contradiction_2 : decode cX10_contradiction 2 = .ok (.putfield 50, 3) := by decide +kernel
theorem dX10_contradiction_5 : decode cX10_contradiction 5 = .ok (.aload_n 0, 1) := by decide +kernel
theorem dX10_contradiction_6 : decode cX10_contradiction 6 = .ok (.iload_n 2, 1) := by decide +kernel
theorem dX10_contradiction_7 : decode cX10_contradiction 7 = .ok (.putfield 53, 3) := by decide +kernel
theorem dX10_contradiction_10 : decode cX10_contradiction 10 = .ok (.bipush (-4), 2) := by decide +kernel
theorem dX10_contradiction_12 : decode cX10_contradiction 12 = .ok (.ireturn, 1) := by decide +kernel
theorem dX10_takeOver_0 : decode cX10_takeOver 0 = .ok (.aload_n 0, 1) := by decide +kernel
theorem dX10_takeOver_1 : decode cX10_takeOver 1 = .ok (.invokevirtual 184, 3) := by decide +kernel
theorem dX10_takeOver_4 : decode cX10_takeOver 4 = .ok (.aload_n 0, 1) := by decide +kernel
theorem dX10_takeOver_5 : decode cX10_takeOver 5 = .ok (.bipush 64, 2) := by decide +kernel
theorem dX10_takeOver_7 : decode cX10_takeOver 7 = .ok (.iconst 0, 1) := by decide +kernel
theorem dX10_takeOver_8 : decode cX10_takeOver 8 = .ok (.invokevirtual 230, 3) := by decide +kernel
theorem dX10_takeOver_11 : decode cX10_takeOver 11 = .ok (.iload_n 1, 1) := by decide +kernel
theorem dX10_takeOver_12 : decode cX10_takeOver 12 = .ok (.ireturn, 1) := by decide +kernel
theorem dX10_solveLine_0 : decode cX10_solveLine 0 = .ok (.aload_n 0, 1) := by decide +kernel
theorem dX10_solveLine_1 : decode cX10_solveLine 1 = .ok (.iload_n 1, 1) := by decide +kernel
theorem dX10_solveLine_2 : decode cX10_solveLine 2 = .ok (.invokevirtual 180, 3) := by decide +kernel
theorem dX10_solveLine_5 : decode cX10_solveLine 5 = .ok (.ifCond .ne 5, 3) := by decide +kernel
theorem dX10_solveLine_8 : decode cX10_solveLine 8 = .ok (.iconst (-1), 1) := by decide +kernel
theorem dX10_solveLine_9 : decode cX10_solveLine 9 = .ok (.ireturn, 1) := by decide +kernel
theorem dX10_solveLine_10 : decode cX10_solveLine 10 = .ok (.aload_n 0, 1) := by decide +kernel
theorem dX10_solveLine_11 : decode cX10_solveLine 11 = .ok (.iconst 0, 1) := by decide +kernel
theorem dX10_solveLine_12 : decode cX10_solveLine 12 = .ok (.bipush 64, 2) := by decide +kernel
theorem dX10_solveLine_14 : decode cX10_solveLine 14 = .ok (.invokevirtual 230, 3) := by decide +kernel
theorem dX10_solveLine_17 : decode cX10_solveLine 17 = .ok (.aload_n 0, 1) := by decide +kernel
theorem dX10_solveLine_18 : decode cX10_solveLine 18 = .ok (.bipush 64, 2) := by decide +kernel
theorem dX10_solveLine_20 : decode cX10_solveLine 20 = .ok (.iload_n 1, 1) := by decide +kernel
theorem dX10_solveLine_21 : decode cX10_solveLine 21 = .ok (.invokevirtual 227, 3) := by decide +kernel
theorem dX10_solveLine_24 : decode cX10_solveLine 24 = .ok (.istore_n 2, 1) := by decide +kernel
theorem dX10_solveLine_25 : decode cX10_solveLine 25 = .ok (.iload_n 2, 1) := by decide +kernel
theorem dX10_solveLine_26 : decode cX10_solveLine 26 = .ok (.ifCond .ge 12, 3) := by decide +kernel
theorem dX10_solveLine_29 : decode cX10_solveLine 29 = .ok (.aload_n 0, 1) := by decide +kernel
theorem dX10_solveLine_30 : decode cX10_solveLine 30 = .ok (.iload_n 1, 1) := by decide +kernel
theorem dX10_solveLine_31 : decode cX10_solveLine 31 = .ok (.iconst 0, 1) := by decide +kernel
theorem dX10_solveLine_32 : decode cX10_solveLine 32 = .ok (.invokevirtual 233, 3) := by decide +kernel
theorem dX10_solveLine_35 : decode cX10_solveLine 35 = .ok (.goto 8, 3) := by decide +kernel
theorem dX10_solveLine_38 : decode cX10_solveLine 38 = .ok (.aload_n 0, 1) := by decide +kernel
theorem dX10_solveLine_39 : decode cX10_solveLine 39 = .ok (.iload_n 2, 1) := by decide +kernel
theorem dX10_solveLine_40 : decode cX10_solveLine 40 = .ok (.invokevirtual 236, 3) := by decide +kernel
theorem dX10_solveLine_43 : decode cX10_solveLine 43 = .ok (.ireturn, 1) := by decide +kernel
theorem dX10_propagate_0 : decode cX10_propagate 0 = .ok (.aload_n 0, 1) := by decide +kernel
theorem dX10_propagate_1 : decode cX10_propagate 1 = .ok (.iconst 0, 1) := by decide +kernel
theorem dX10_propagate_2 : decode cX10_propagate 2 = .ok (.bipush 64, 2) := by decide +kernel
theorem dX10_propagate_4 : decode cX10_propagate 4 = .ok (.invokevirtual 230, 3) := by decide +kernel
theorem dX10_propagate_7 : decode cX10_propagate 7 = .ok (.aload_n 0, 1) := by decide +kernel
theorem dX10_propagate_8 : decode cX10_propagate 8 = .ok (.bipush 64, 2) := by decide +kernel
theorem dX10_propagate_10 : decode cX10_propagate 10 = .ok (.invokevirtual 239, 3) := by decide +kernel
theorem dX10_propagate_13 : decode cX10_propagate 13 = .ok (.istore_n 1, 1) := by decide +kernel
theorem dX10_propagate_14 : decode cX10_propagate 14 = .ok (.iload_n 1, 1) := by decide +kernel
theorem dX10_propagate_15 : decode cX10_propagate 15 = .ok (.ifCond .ge 15, 3) := by decide +kernel
theorem dX10_propagate_18 : decode cX10_propagate 18 = .ok (.aload_n 0, 1) := by decide +kernel
theorem dX10_propagate_19 : decode cX10_propagate 19 = .ok (.aload_n 0, 1) := by decide +kernel
theorem dX10_propagate_20 : decode cX10_propagate 20 = .ok (.getfield 83, 3) := by decide +kernel
theorem dX10_propagate_23 : decode cX10_propagate 23 = .ok (.iconst 0, 1) := by decide +kernel
theorem dX10_propagate_24 : decode cX10_propagate 24 = .ok (.invokevirtual 233, 3) := by decide +kernel
theorem dX10_propagate_27 : decode cX10_propagate 27 = .ok (.goto 8, 3) := by decide +kernel
theorem dX10_propagate_30 : decode cX10_propagate 30 = .ok (.aload_n 0, 1) := by decide +kernel
theorem dX10_propagate_31 : decode cX10_propagate 31 = .ok (.iload_n 1, 1) := by decide +kernel
theorem dX10_propagate_32 : decode cX10_propagate 32 = .ok (.invokevirtual 236, 3) := by decide +kernel
theorem dX10_propagate_35 : decode cX10_propagate 35 = .ok (.ireturn, 1) := by decide +kernel
theorem dX10_passCount_0 : decode cX10_passCount 0 = .ok (.aload_n 0, 1) := by decide +kernel
theorem dX10_passCount_1 : decode cX10_passCount 1 = .ok (.iconst 0, 1) := by decide +kernel
theorem dX10_passCount_2 : decode cX10_passCount 2 = .ok (.bipush 64, 2) := by decide +kernel
theorem dX10_passCount_4 : decode cX10_passCount 4 = .ok (.invokevirtual 230, 3) := by decide +kernel
theorem dX10_passCount_7 : decode cX10_passCount 7 = .ok (.aload_n 0, 1) := by decide +kernel
theorem dX10_passCount_8 : decode cX10_passCount 8 = .ok (.bipush 64, 2) := by decide +kernel
theorem dX10_passCount_10 : decode cX10_passCount 10 = .ok (.invokevirtual 239, 3) := by decide +kernel
theorem dX10_passCount_13 : decode cX10_passCount 13 = .ok (.ifCond .ge 8, 3) := by decide +kernel
theorem dX10_passCount_16 : decode cX10_passCount 16 = .ok (.bipush (-4), 2) := by decide +kernel
theorem dX10_passCount_18 : decode cX10_passCount 18 = .ok (.goto 7, 3) := by decide +kernel
theorem dX10_passCount_21 : decode cX10_passCount 21 = .ok (.aload_n 0, 1) := by decide +kernel
theorem dX10_passCount_22 : decode cX10_passCount 22 = .ok (.getfield 80, 3) := by decide +kernel
theorem dX10_passCount_25 : decode cX10_passCount 25 = .ok (.ireturn, 1) := by decide +kernel
theorem dX10_fails_0 : decode cX10_fails 0 = .ok (.aload_n 0, 1) := by decide +kernel
theorem dX10_fails_1 : decode cX10_fails 1 = .ok (.iload_n 1, 1) := by decide +kernel
theorem dX10_fails_2 : decode cX10_fails 2 = .ok (.sipush 128, 3) := by decide +kernel
theorem dX10_fails_5 : decode cX10_fails 5 = .ok (.invokevirtual 230, 3) := by decide +kernel
theorem dX10_fails_8 : decode cX10_fails 8 = .ok (.aload_n 0, 1) := by decide +kernel
end
section
theorem dX10_fails_9 : decode cX10_fails 9 = .ok (.getfield 22, 3) := by decide +kernel
theorem dX10_fails_12 : decode cX10_fails 12 = .ok (.sipush 128, 3) := by decide +kernel
theorem dX10_fails_15 : decode cX10_fails 15 = .ok (.iload_n 2, 1) := by decide +kernel
theorem dX10_fails_16 : decode cX10_fails 16 = .ok (.iadd, 1) := by decide +kernel
theorem dX10_fails_17 : decode cX10_fails 17 = .ok (.iconst 1, 1) := by decide +kernel
theorem dX10_fails_18 : decode cX10_fails 18 = .ok (.iload_n 3, 1) := by decide +kernel
theorem dX10_fails_19 : decode cX10_fails 19 = .ok (.ishl, 1) := by decide +kernel
theorem dX10_fails_20 : decode cX10_fails 20 = .ok (.iastore, 1) := by decide +kernel
theorem dX10_fails_21 : decode cX10_fails 21 = .ok (.aload_n 0, 1) := by decide +kernel
theorem dX10_fails_22 : decode cX10_fails 22 = .ok (.sipush 128, 3) := by decide +kernel
theorem dX10_fails_25 : decode cX10_fails 25 = .ok (.invokevirtual 239, 3) := by decide +kernel
theorem dX10_fails_28 : decode cX10_fails 28 = .ok (.ifCond .ge 7, 3) := by decide +kernel
theorem dX10_fails_31 : decode cX10_fails 31 = .ok (.iconst 1, 1) := by decide +kernel
theorem dX10_fails_32 : decode cX10_fails 32 = .ok (.goto 4, 3) := by decide +kernel
theorem dX10_fails_35 : decode cX10_fails 35 = .ok (.iconst 0, 1) := by decide +kernel
theorem dX10_fails_36 : decode cX10_fails 36 = .ok (.ireturn, 1) := by decide +kernel
theorem dX10_probe_0 : decode cX10_probe 0 = .ok (.aload_n 0, 1) := by decide +kernel
theorem dX10_probe_1 : decode cX10_probe 1 = .ok (.iload_n 1, 1) := by decide +kernel
theorem dX10_probe_2 : decode cX10_probe 2 = .ok (.iload_n 2, 1) := by decide +kernel
theorem dX10_probe_3 : decode cX10_probe 3 = .ok (.invokevirtual 195, 3) := by decide +kernel
theorem dX10_probe_6 : decode cX10_probe 6 = .ok (.ifCond .ne 5, 3) := by decide +kernel
theorem dX10_probe_9 : decode cX10_probe 9 = .ok (.iconst (-1), 1) := by decide +kernel
theorem dX10_probe_10 : decode cX10_probe 10 = .ok (.ireturn, 1) := by decide +kernel
theorem dX10_probe_11 : decode cX10_probe 11 = .ok (.aload_n 0, 1) := by decide +kernel
theorem dX10_probe_12 : decode cX10_probe 12 = .ok (.iload_n 3, 1) := by decide +kernel
theorem dX10_probe_13 : decode cX10_probe 13 = .ok (.invokevirtual 205, 3) := by decide +kernel
theorem dX10_probe_16 : decode cX10_probe 16 = .ok (.ifCond .ne 6, 3) := by decide +kernel
theorem dX10_probe_19 : decode cX10_probe 19 = .ok (.bipush (-2), 2) := by decide +kernel
theorem dX10_probe_21 : decode cX10_probe 21 = .ok (.ireturn, 1) := by decide +kernel
theorem dX10_probe_22 : decode cX10_probe 22 = .ok (.aload_n 0, 1) := by decide +kernel
theorem dX10_probe_23 : decode cX10_probe 23 = .ok (.getfield 22, 3) := by decide +kernel
theorem dX10_probe_26 : decode cX10_probe 26 = .ok (.bipush 8, 2) := by decide +kernel
theorem dX10_probe_28 : decode cX10_probe 28 = .ok (.iload_n 1, 1) := by decide +kernel
theorem dX10_probe_29 : decode cX10_probe 29 = .ok (.imul, 1) := by decide +kernel
theorem dX10_probe_30 : decode cX10_probe 30 = .ok (.iload_n 2, 1) := by decide +kernel
theorem dX10_probe_31 : decode cX10_probe 31 = .ok (.iadd, 1) := by decide +kernel
theorem dX10_probe_32 : decode cX10_probe 32 = .ok (.iaload, 1) := by decide +kernel
theorem dX10_probe_33 : decode cX10_probe 33 = .ok (.istore 4, 2) := by decide +kernel
theorem dX10_probe_35 : decode cX10_probe 35 = .ok (.iload 4, 2) := by decide +kernel
theorem dX10_probe_37 : decode cX10_probe 37 = .ok (.iload_n 3, 1) := by decide +kernel
theorem dX10_probe_38 : decode cX10_probe 38 = .ok (.ishr, 1) := by decide +kernel
theorem dX10_probe_39 : decode cX10_probe 39 = .ok (.iconst 1, 1) := by decide +kernel
theorem dX10_probe_40 : decode cX10_probe 40 = .ok (.iand, 1) := by decide +kernel
theorem dX10_probe_41 : decode cX10_probe 41 = .ok (.ifCond .eq 11, 3) := by decide +kernel
theorem dX10_probe_44 : decode cX10_probe 44 = .ok (.iload 4, 2) := by decide +kernel
theorem dX10_probe_46 : decode cX10_probe 46 = .ok (.iconst 1, 1) := by decide +kernel
theorem dX10_probe_47 : decode cX10_probe 47 = .ok (.iload_n 3, 1) := by decide +kernel
theorem dX10_probe_48 : decode cX10_probe 48 = .ok (.ishl, 1) := by decide +kernel
theorem dX10_probe_49 : decode cX10_probe 49 = .ok (.if_icmp .ne 6, 3) := by decide +kernel
theorem dX10_probe_52 : decode cX10_probe 52 = .ok (.bipush (-5), 2) := by decide +kernel
theorem dX10_probe_54 : decode cX10_probe 54 = .ok (.ireturn, 1) := by decide +kernel
theorem dX10_probe_55 : decode cX10_probe 55 = .ok (.aload_n 0, 1) := by decide +kernel
theorem dX10_probe_56 : decode cX10_probe 56 = .ok (.iconst 0, 1) := by decide +kernel
theorem dX10_probe_57 : decode cX10_probe 57 = .ok (.bipush 8, 2) := by decide +kernel
theorem dX10_probe_59 : decode cX10_probe 59 = .ok (.iload_n 1, 1) := by decide +kernel
theorem dX10_probe_60 : decode cX10_probe 60 = .ok (.imul, 1) := by decide +kernel
theorem dX10_probe_61 : decode cX10_probe 61 = .ok (.iload_n 2, 1) := by decide +kernel
theorem dX10_probe_62 : decode cX10_probe 62 = .ok (.iadd, 1) := by decide +kernel
theorem dX10_probe_63 : decode cX10_probe 63 = .ok (.iload_n 3, 1) := by decide +kernel
theorem dX10_probe_64 : decode cX10_probe 64 = .ok (.invokevirtual 242, 3) := by decide +kernel
theorem dX10_probe_67 : decode cX10_probe 67 = .ok (.ifCond .eq 7, 3) := by decide +kernel
theorem dX10_probe_70 : decode cX10_probe 70 = .ok (.iconst 1, 1) := by decide +kernel
theorem dX10_probe_71 : decode cX10_probe 71 = .ok (.goto 4, 3) := by decide +kernel
theorem dX10_probe_74 : decode cX10_probe 74 = .ok (.iconst 0, 1) := by decide +kernel
theorem dX10_probe_75 : decode cX10_probe 75 = .ok (.ireturn, 1) := by decide +kernel
theorem dX10_probeRound_0 : decode cX10_probeRound 0 = .ok (.iconst 0, 1) := by decide +kernel
theorem dX10_probeRound_1 : decode cX10_probeRound 1 = .ok (.istore_n 1, 1) := by decide +kernel
theorem dX10_probeRound_2 : decode cX10_probeRound 2 = .ok (.iload_n 1, 1) := by decide +kernel
theorem dX10_probeRound_3 : decode cX10_probeRound 3 = .ok (.bipush 64, 2) := by decide +kernel
theorem dX10_probeRound_5 : decode cX10_probeRound 5 = .ok (.if_icmp .ge 141, 3) := by decide +kernel
theorem dX10_probeRound_8 : decode cX10_probeRound 8 = .ok (.iload_n 1, 1) := by decide +kernel
theorem dX10_probeRound_9 : decode cX10_probeRound 9 = .ok (.bipush 8, 2) := by decide +kernel
theorem dX10_probeRound_11 : decode cX10_probeRound 11 = .ok (.idiv, 1) := by decide +kernel
theorem dX10_probeRound_12 : decode cX10_probeRound 12 = .ok (.aload_n 0, 1) := by decide +kernel
theorem dX10_probeRound_13 : decode cX10_probeRound 13 = .ok (.getfield 7, 3) := by decide +kernel
theorem dX10_probeRound_16 : decode cX10_probeRound 16 = .ok (.if_icmp .ge 124, 3) := by decide +kernel
theorem dX10_probeRound_19 : decode cX10_probeRound 19 = .ok (.iload_n 1, 1) := by decide +kernel
theorem dX10_probeRound_20 : decode cX10_probeRound 20 = .ok (.bipush 8, 2) := by decide +kernel
theorem dX10_probeRound_22 : decode cX10_probeRound 22 = .ok (.irem, 1) := by decide +kernel
theorem dX10_probeRound_23 : decode cX10_probeRound 23 = .ok (.aload_n 0, 1) := by decide +kernel
theorem dX10_probeRound_24 : decode cX10_probeRound 24 = .ok (.getfield 13, 3) := by decide +kernel
theorem dX10_probeRound_27 : decode cX10_probeRound 27 = .ok (.if_icmp .lt 6, 3) := by decide +kernel
theorem dX10_probeRound_30 : decode cX10_probeRound 30 = .ok (.goto 110, 3) := by decide +kernel
theorem dX10_probeRound_33 : decode cX10_probeRound 33 = .ok (.aload_n 0, 1) := by decide +kernel
theorem dX10_probeRound_34 : decode cX10_probeRound 34 = .ok (.getfield 22, 3) := by decide +kernel
theorem dX10_probeRound_37 : decode cX10_probeRound 37 = .ok (.bipush 64, 2) := by decide +kernel
theorem dX10_probeRound_39 : decode cX10_probeRound 39 = .ok (.iload_n 1, 1) := by decide +kernel
theorem dX10_probeRound_40 : decode cX10_probeRound 40 = .ok (.iadd, 1) := by decide +kernel
theorem dX10_probeRound_41 : decode cX10_probeRound 41 = .ok (.iaload, 1) := by decide +kernel
theorem dX10_probeRound_42 : decode cX10_probeRound 42 = .ok (.istore_n 2, 1) := by decide +kernel
theorem dX10_probeRound_43 : decode cX10_probeRound 43 = .ok (.iconst 0, 1) := by decide +kernel
theorem dX10_probeRound_44 : decode cX10_probeRound 44 = .ok (.istore_n 3, 1) := by decide +kernel
theorem dX10_probeRound_45 : decode cX10_probeRound 45 = .ok (.iload_n 3, 1) := by decide +kernel
theorem dX10_probeRound_46 : decode cX10_probeRound 46 = .ok (.aload_n 0, 1) := by decide +kernel
theorem dX10_probeRound_47 : decode cX10_probeRound 47 = .ok (.getfield 16, 3) := by decide +kernel
theorem dX10_probeRound_50 : decode cX10_probeRound 50 = .ok (.if_icmp .gt 90, 3) := by decide +kernel
theorem dX10_probeRound_53 : decode cX10_probeRound 53 = .ok (.iload_n 2, 1) := by decide +kernel
theorem dX10_probeRound_54 : decode cX10_probeRound 54 = .ok (.aload_n 0, 1) := by decide +kernel
theorem dX10_probeRound_55 : decode cX10_probeRound 55 = .ok (.getfield 22, 3) := by decide +kernel
theorem dX10_probeRound_58 : decode cX10_probeRound 58 = .ok (.bipush 64, 2) := by decide +kernel
theorem dX10_probeRound_60 : decode cX10_probeRound 60 = .ok (.iload_n 1, 1) := by decide +kernel
theorem dX10_probeRound_61 : decode cX10_probeRound 61 = .ok (.iadd, 1) := by decide +kernel
theorem dX10_probeRound_62 : decode cX10_probeRound 62 = .ok (.iaload, 1) := by decide +kernel
theorem dX10_probeRound_63 : decode cX10_probeRound 63 = .ok (.iand, 1) := by decide +kernel
theorem dX10_probeRound_64 : decode cX10_probeRound 64 = .ok (.iconst 1, 1) := by decide +kernel
theorem dX10_probeRound_65 : decode cX10_probeRound 65 = .ok (.iload_n 3, 1) := by decide +kernel
theorem dX10_probeRound_66 : decode cX10_probeRound 66 = .ok (.ishl, 1) := by decide +kernel
theorem dX10_probeRound_67 : decode cX10_probeRound 67 = .ok (.iand, 1) := by decide +kernel
theorem dX10_probeRound_68 : decode cX10_probeRound 68 = .ok (.ifCond .eq 66, 3) := by decide +kernel
theorem dX10_probeRound_71 : decode cX10_probeRound 71 = .ok (.aload_n 0, 1) := by decide +kernel
theorem dX10_probeRound_72 : decode cX10_probeRound 72 = .ok (.bipush 64, 2) := by decide +kernel
theorem dX10_probeRound_74 : decode cX10_probeRound 74 = .ok (.iload_n 1, 1) := by decide +kernel
theorem dX10_probeRound_75 : decode cX10_probeRound 75 = .ok (.iadd, 1) := by decide +kernel
theorem dX10_probeRound_76 : decode cX10_probeRound 76 = .ok (.invokevirtual 198, 3) := by decide +kernel
theorem dX10_probeRound_79 : decode cX10_probeRound 79 = .ok (.ifCond .ne 55, 3) := by decide +kernel
theorem dX10_probeRound_82 : decode cX10_probeRound 82 = .ok (.aload_n 0, 1) := by decide +kernel
theorem dX10_probeRound_83 : decode cX10_probeRound 83 = .ok (.bipush 64, 2) := by decide +kernel
theorem dX10_probeRound_85 : decode cX10_probeRound 85 = .ok (.iload_n 1, 1) := by decide +kernel
theorem dX10_probeRound_86 : decode cX10_probeRound 86 = .ok (.iload_n 3, 1) := by decide +kernel
theorem dX10_probeRound_87 : decode cX10_probeRound 87 = .ok (.invokevirtual 242, 3) := by decide +kernel
theorem dX10_probeRound_90 : decode cX10_probeRound 90 = .ok (.ifCond .ne 6, 3) := by decide +kernel
theorem dX10_probeRound_93 : decode cX10_probeRound 93 = .ok (.goto 41, 3) := by decide +kernel
theorem dX10_probeRound_96 : decode cX10_probeRound 96 = .ok (.aload_n 0, 1) := by decide +kernel
theorem dX10_probeRound_97 : decode cX10_probeRound 97 = .ok (.dup, 1) := by decide +kernel
theorem dX10_probeRound_98 : decode cX10_probeRound 98 = .ok (.getfield 86, 3) := by decide +kernel
theorem dX10_probeRound_101 : decode cX10_probeRound 101 = .ok (.iconst 1, 1) := by decide +kernel
theorem dX10_probeRound_102 : decode cX10_probeRound 102 = .ok (.iadd, 1) := by decide +kernel
theorem dX10_probeRound_103 : decode cX10_probeRound 103 = .ok (.putfield 86, 3) := by decide +kernel
theorem dX10_probeRound_106 : decode cX10_probeRound 106 = .ok (.aload_n 0, 1) := by decide +kernel
theorem dX10_probeRound_107 : decode cX10_probeRound 107 = .ok (.getfield 22, 3) := by decide +kernel
theorem dX10_probeRound_110 : decode cX10_probeRound 110 = .ok (.bipush 64, 2) := by decide +kernel
theorem dX10_probeRound_112 : decode cX10_probeRound 112 = .ok (.iload_n 1, 1) := by decide +kernel
theorem dX10_probeRound_113 : decode cX10_probeRound 113 = .ok (.iadd, 1) := by decide +kernel
theorem dX10_probeRound_114 : decode cX10_probeRound 114 = .ok (.dup2, 1) := by decide +kernel
theorem dX10_probeRound_115 : decode cX10_probeRound 115 = .ok (.iaload, 1) := by decide +kernel
theorem dX10_probeRound_116 : decode cX10_probeRound 116 = .ok (.iconst 1, 1) := by decide +kernel
theorem dX10_probeRound_117 : decode cX10_probeRound 117 = .ok (.iload_n 3, 1) := by decide +kernel
theorem dX10_probeRound_118 : decode cX10_probeRound 118 = .ok (.ishl, 1) := by decide +kernel
theorem dX10_probeRound_119 : decode cX10_probeRound 119 = .ok (.iconst (-1), 1) := by decide +kernel
theorem dX10_probeRound_120 : decode cX10_probeRound 120 = .ok (.ixor, 1) := by decide +kernel
theorem dX10_probeRound_121 : decode cX10_probeRound 121 = .ok (.iand, 1) := by decide +kernel
theorem dX10_probeRound_122 : decode cX10_probeRound 122 = .ok (.iastore, 1) := by decide +kernel
theorem dX10_probeRound_123 : decode cX10_probeRound 123 = .ok (.aload_n 0, 1) := by decide +kernel
theorem dX10_probeRound_124 : decode cX10_probeRound 124 = .ok (.bipush 64, 2) := by decide +kernel
theorem dX10_probeRound_126 : decode cX10_probeRound 126 = .ok (.invokevirtual 239, 3) := by decide +kernel
theorem dX10_probeRound_129 : decode cX10_probeRound 129 = .ok (.ifCond .ge 5, 3) := by decide +kernel
theorem dX10_probeRound_132 : decode cX10_probeRound 132 = .ok (.iconst 0, 1) := by decide +kernel
theorem dX10_probeRound_133 : decode cX10_probeRound 133 = .ok (.ireturn, 1) := by decide +kernel
theorem dX10_probeRound_134 : decode cX10_probeRound 134 = .ok (.iinc 3 1, 3) := by decide +kernel
theorem dX10_probeRound_137 : decode cX10_probeRound 137 = .ok (.goto (-92), 3) := by decide +kernel
theorem dX10_probeRound_140 : decode cX10_probeRound 140 = .ok (.iinc 1 1, 3) := by decide +kernel
theorem dX10_probeRound_143 : decode cX10_probeRound 143 = .ok (.goto (-141), 3) := by decide +kernel
theorem dX10_probeRound_146 : decode cX10_probeRound 146 = .ok (.iconst 1, 1) := by decide +kernel
theorem dX10_probeRound_147 : decode cX10_probeRound 147 = .ok (.ireturn, 1) := by decide +kernel
theorem dX10_probeAll_0 : decode cX10_probeAll 0 = .ok (.aload_n 0, 1) := by decide +kernel
theorem dX10_probeAll_1 : decode cX10_probeAll 1 = .ok (.iconst 0, 1) := by decide +kernel
theorem dX10_probeAll_2 : decode cX10_probeAll 2 = .ok (.bipush 64, 2) := by decide +kernel
theorem dX10_probeAll_4 : decode cX10_probeAll 4 = .ok (.invokevirtual 230, 3) := by decide +kernel
theorem dX10_probeAll_7 : decode cX10_probeAll 7 = .ok (.aload_n 0, 1) := by decide +kernel
theorem dX10_probeAll_8 : decode cX10_probeAll 8 = .ok (.iconst 0, 1) := by decide +kernel
theorem dX10_probeAll_9 : decode cX10_probeAll 9 = .ok (.putfield 86, 3) := by decide +kernel
theorem dX10_probeAll_12 : decode cX10_probeAll 12 = .ok (.aload_n 0, 1) := by decide +kernel
theorem dX10_probeAll_13 : decode cX10_probeAll 13 = .ok (.bipush 64, 2) := by decide +kernel
theorem dX10_probeAll_15 : decode cX10_probeAll 15 = .ok (.invokevirtual 239, 3) := by decide +kernel
theorem dX10_probeAll_18 : decode cX10_probeAll 18 = .ok (.ifCond .ge 13, 3) := by decide +kernel
theorem dX10_probeAll_21 : decode cX10_probeAll 21 = .ok (.aload_n 0, 1) := by decide +kernel
theorem dX10_probeAll_22 : decode cX10_probeAll 22 = .ok (.aload_n 0, 1) := by decide +kernel
theorem dX10_probeAll_23 : decode cX10_probeAll 23 = .ok (.getfield 83, 3) := by decide +kernel
theorem dX10_probeAll_26 : decode cX10_probeAll 26 = .ok (.iconst 0, 1) := by decide +kernel
theorem dX10_probeAll_27 : decode cX10_probeAll 27 = .ok (.invokevirtual 233, 3) := by decide +kernel
theorem dX10_probeAll_30 : decode cX10_probeAll 30 = .ok (.ireturn, 1) := by decide +kernel
theorem dX10_probeAll_31 : decode cX10_probeAll 31 = .ok (.iconst (-1), 1) := by decide +kernel
theorem dX10_probeAll_32 : decode cX10_probeAll 32 = .ok (.istore_n 1, 1) := by decide +kernel
theorem dX10_probeAll_33 : decode cX10_probeAll 33 = .ok (.iload_n 1, 1) := by decide +kernel
theorem dX10_probeAll_34 : decode cX10_probeAll 34 = .ok (.aload_n 0, 1) := by decide +kernel
theorem dX10_probeAll_35 : decode cX10_probeAll 35 = .ok (.getfield 86, 3) := by decide +kernel
theorem dX10_probeAll_38 : decode cX10_probeAll 38 = .ok (.if_icmp .ge 28, 3) := by decide +kernel
theorem dX10_probeAll_41 : decode cX10_probeAll 41 = .ok (.aload_n 0, 1) := by decide +kernel
theorem dX10_probeAll_42 : decode cX10_probeAll 42 = .ok (.getfield 86, 3) := by decide +kernel
theorem dX10_probeAll_45 : decode cX10_probeAll 45 = .ok (.istore_n 1, 1) := by decide +kernel
theorem dX10_probeAll_46 : decode cX10_probeAll 46 = .ok (.aload_n 0, 1) := by decide +kernel
theorem dX10_probeAll_47 : decode cX10_probeAll 47 = .ok (.invokevirtual 245, 3) := by decide +kernel
theorem dX10_probeAll_50 : decode cX10_probeAll 50 = .ok (.ifCond .ne (-17), 3) := by decide +kernel
theorem dX10_probeAll_53 : decode cX10_probeAll 53 = .ok (.aload_n 0, 1) := by decide +kernel
theorem dX10_probeAll_54 : decode cX10_probeAll 54 = .ok (.aload_n 0, 1) := by decide +kernel
theorem dX10_probeAll_55 : decode cX10_probeAll 55 = .ok (.getfield 83, 3) := by decide +kernel
theorem dX10_probeAll_58 : decode cX10_probeAll 58 = .ok (.aload_n 0, 1) := by decide +kernel
theorem dX10_probeAll_59 : decode cX10_probeAll 59 = .ok (.getfield 86, 3) := by decide +kernel
theorem dX10_probeAll_62 : decode cX10_probeAll 62 = .ok (.invokevirtual 233, 3) := by decide +kernel
theorem dX10_probeAll_65 : decode cX10_probeAll 65 = .ok (.ireturn, 1) := by decide +kernel
theorem dX10_probeAll_66 : decode cX10_probeAll 66 = .ok (.aload_n 0, 1) := by decide +kernel
theorem dX10_probeAll_67 : decode cX10_probeAll 67 = .ok (.aload_n 0, 1) := by decide +kernel
theorem dX10_probeAll_68 : decode cX10_probeAll 68 = .ok (.getfield 86, 3) := by decide +kernel
theorem dX10_probeAll_71 : decode cX10_probeAll 71 = .ok (.invokevirtual 236, 3) := by decide +kernel
theorem dX10_probeAll_74 : decode cX10_probeAll 74 = .ok (.ireturn, 1) := by decide +kernel
theorem dX10_contradictionLine_0 : decode cX10_contradictionLine 0 = .ok (.aload_n 0, 1) := by decide +kernel
theorem dX10_contradictionLine_1 : decode cX10_contradictionLine 1 = .ok (.getfield 50, 3) := by decide +kernel
theorem dX10_contradictionLine_4 : decode cX10_contradictionLine 4 = .ok (.ifCond .ge 8, 3) := by decide +kernel
theorem dX10_contradictionLine_7 : decode cX10_contradictionLine 7 = .ok (.bipush (-8), 2) := by decide +kernel
theorem dX10_contradictionLine_9 : decode cX10_contradictionLine 9 = .ok (.goto 7, 3) := by decide +kernel
theorem dX10_contradictionLine_12 : decode cX10_contradictionLine 12 = .ok (.aload_n 0, 1) := by decide +kernel
theorem dX10_contradictionLine_13 : decode cX10_contradictionLine 13 = .ok (.getfield 50, 3) := by decide +kernel
theorem dX10_contradictionLine_16 : decode cX10_contradictionLine 16 = .ok (.ireturn, 1) := by decide +kernel
theorem dX10_contradictionDepth_0 : decode cX10_contradictionDepth 0 = .ok (.aload_n 0, 1) := by decide +kernel
theorem dX10_contradictionDepth_1 : decode cX10_contradictionDepth 1 = .ok (.getfield 50, 3) := by decide +kernel
theorem dX10_contradictionDepth_4 : decode cX10_contradictionDepth 4 = .ok (.ifCond .ge 8, 3) := by decide +kernel
theorem dX10_contradictionDepth_7 : decode cX10_contradictionDepth 7 = .ok (.bipush (-8), 2) := by decide +kernel
theorem dX10_contradictionDepth_9 : decode cX10_contradictionDepth 9 = .ok (.goto 7, 3) := by decide +kernel
theorem dX10_contradictionDepth_12 : decode cX10_contradictionDepth 12 = .ok (.aload_n 0, 1) := by decide +kernel
theorem dX10_contradictionDepth_13 : decode cX10_contradictionDepth 13 = .ok (.getfield 53, 3) := by decide +kernel
theorem dX10_contradictionDepth_16 : decode cX10_contradictionDepth 16 = .ok (.ireturn, 1) := by decide +kernel
theorem dX10_setRule_0 : decode cX10_setRule 0 = .ok (.aload_n 0, 1) := by decide +kernel
theorem dX10_setRule_1 : decode cX10_setRule 1 = .ok (.iload_n 1, 1) := by decide +kernel
theorem dX10_setRule_2 : decode cX10_setRule 2 = .ok (.iconst 0, 1) := by decide +kernel
theorem dX10_setRule_3 : decode cX10_setRule 3 = .ok (.iconst 2, 1) := by decide +kernel
theorem dX10_setRule_4 : decode cX10_setRule 4 = .ok (.invokevirtual 172, 3) := by decide +kernel
theorem dX10_setRule_7 : decode cX10_setRule 7 = .ok (.ifCond .ne 6, 3) := by decide +kernel
theorem dX10_setRule_10 : decode cX10_setRule 10 = .ok (.bipush (-2), 2) := by decide +kernel
theorem dX10_setRule_12 : decode cX10_setRule 12 = .ok (.ireturn, 1) := by decide +kernel
theorem dX10_setRule_13 : decode cX10_setRule 13 = .ok (.aload_n 0, 1) := by decide +kernel
theorem dX10_setRule_14 : decode cX10_setRule 14 = .ok (.getfield 19, 3) := by decide +kernel
theorem dX10_setRule_17 : decode cX10_setRule 17 = .ok (.istore_n 2, 1) := by decide +kernel
theorem dX10_setRule_18 : decode cX10_setRule 18 = .ok (.aload_n 0, 1) := by decide +kernel
theorem dX10_setRule_19 : decode cX10_setRule 19 = .ok (.iload_n 1, 1) := by decide +kernel
theorem dX10_setRule_20 : decode cX10_setRule 20 = .ok (.putfield 19, 3) := by decide +kernel
theorem dX10_setRule_23 : decode cX10_setRule 23 = .ok (.iload_n 2, 1) := by decide +kernel
theorem dX10_setRule_24 : decode cX10_setRule 24 = .ok (.ireturn, 1) := by decide +kernel
theorem dX10_rank_0 : decode cX10_rank 0 = .ok (.aload_n 0, 1) := by decide +kernel
theorem dX10_rank_1 : decode cX10_rank 1 = .ok (.getfield 19, 3) := by decide +kernel
theorem dX10_rank_4 : decode cX10_rank 4 = .ok (.ifCond .ne 5, 3) := by decide +kernel
theorem dX10_rank_7 : decode cX10_rank 7 = .ok (.iconst 0, 1) := by decide +kernel
theorem dX10_rank_8 : decode cX10_rank 8 = .ok (.ireturn, 1) := by decide +kernel
theorem dX10_rank_9 : decode cX10_rank 9 = .ok (.aload_n 0, 1) := by decide +kernel
theorem dX10_rank_10 : decode cX10_rank 10 = .ok (.getfield 19, 3) := by decide +kernel
theorem dX10_rank_13 : decode cX10_rank 13 = .ok (.iconst 1, 1) := by decide +kernel
theorem dX10_rank_14 : decode cX10_rank 14 = .ok (.if_icmp .ne 17, 3) := by decide +kernel
theorem dX10_rank_17 : decode cX10_rank 17 = .ok (.aload_n 0, 1) := by decide +kernel
theorem dX10_rank_18 : decode cX10_rank 18 = .ok (.aload_n 0, 1) := by decide +kernel
theorem dX10_rank_19 : decode cX10_rank 19 = .ok (.getfield 22, 3) := by decide +kernel
theorem dX10_rank_22 : decode cX10_rank 22 = .ok (.iload_n 1, 1) := by decide +kernel
theorem dX10_rank_23 : decode cX10_rank 23 = .ok (.iload_n 2, 1) := by decide +kernel
theorem dX10_rank_24 : decode cX10_rank 24 = .ok (.iadd, 1) := by decide +kernel
theorem dX10_rank_25 : decode cX10_rank 25 = .ok (.iaload, 1) := by decide +kernel
theorem dX10_rank_26 : decode cX10_rank 26 = .ok (.invokevirtual 208, 3) := by decide +kernel
theorem dX10_rank_29 : decode cX10_rank 29 = .ok (.ineg, 1) := by decide +kernel
theorem dX10_rank_30 : decode cX10_rank 30 = .ok (.ireturn, 1) := by decide +kernel
theorem dX10_rank_31 : decode cX10_rank 31 = .ok (.iconst 0, 1) := by decide +kernel
theorem dX10_rank_32 : decode cX10_rank 32 = .ok (.istore_n 3, 1) := by decide +kernel
theorem dX10_rank_33 : decode cX10_rank 33 = .ok (.iconst 0, 1) := by decide +kernel
theorem dX10_rank_34 : decode cX10_rank 34 = .ok (.istore 4, 2) := by decide +kernel
theorem dX10_rank_36 : decode cX10_rank 36 = .ok (.iload 4, 2) := by decide +kernel
theorem dX10_rank_38 : decode cX10_rank 38 = .ok (.aload_n 0, 1) := by decide +kernel
theorem dX10_rank_39 : decode cX10_rank 39 = .ok (.getfield 13, 3) := by decide +kernel
theorem dX10_rank_42 : decode cX10_rank 42 = .ok (.if_icmp .ge 36, 3) := by decide +kernel
theorem dX10_rank_45 : decode cX10_rank 45 = .ok (.iload_n 3, 1) := by decide +kernel
theorem dX10_rank_46 : decode cX10_rank 46 = .ok (.aload_n 0, 1) := by decide +kernel
theorem dX10_rank_47 : decode cX10_rank 47 = .ok (.iload_n 1, 1) := by decide +kernel
theorem dX10_rank_48 : decode cX10_rank 48 = .ok (.iload_n 2, 1) := by decide +kernel
theorem dX10_rank_49 : decode cX10_rank 49 = .ok (.bipush 8, 2) := by decide +kernel
theorem dX10_rank_51 : decode cX10_rank 51 = .ok (.idiv, 1) := by decide +kernel
theorem dX10_rank_52 : decode cX10_rank 52 = .ok (.bipush 8, 2) := by decide +kernel
theorem dX10_rank_54 : decode cX10_rank 54 = .ok (.imul, 1) := by decide +kernel
theorem dX10_rank_55 : decode cX10_rank 55 = .ok (.iadd, 1) := by decide +kernel
theorem dX10_rank_56 : decode cX10_rank 56 = .ok (.iload 4, 2) := by decide +kernel
theorem dX10_rank_58 : decode cX10_rank 58 = .ok (.iadd, 1) := by decide +kernel
theorem dX10_rank_59 : decode cX10_rank 59 = .ok (.invokevirtual 198, 3) := by decide +kernel
theorem dX10_rank_62 : decode cX10_rank 62 = .ok (.ifCond .eq 7, 3) := by decide +kernel
theorem dX10_rank_65 : decode cX10_rank 65 = .ok (.iconst 1, 1) := by decide +kernel
theorem dX10_rank_66 : decode cX10_rank 66 = .ok (.goto 4, 3) := by decide +kernel
theorem dX10_rank_69 : decode cX10_rank 69 = .ok (.iconst 0, 1) := by decide +kernel
theorem dX10_rank_70 : decode cX10_rank 70 = .ok (.iadd, 1) := by decide +kernel
theorem dX10_rank_71 : decode cX10_rank 71 = .ok (.istore_n 3, 1) := by decide +kernel
theorem dX10_rank_72 : decode cX10_rank 72 = .ok (.iinc 4 1, 3) := by decide +kernel
theorem dX10_rank_75 : decode cX10_rank 75 = .ok (.goto (-39), 3) := by decide +kernel
theorem dX10_rank_78 : decode cX10_rank 78 = .ok (.iconst 0, 1) := by decide +kernel
theorem dX10_rank_79 : decode cX10_rank 79 = .ok (.istore 4, 2) := by decide +kernel
theorem dX10_rank_81 : decode cX10_rank 81 = .ok (.iload 4, 2) := by decide +kernel
theorem dX10_rank_83 : decode cX10_rank 83 = .ok (.aload_n 0, 1) := by decide +kernel
theorem dX10_rank_84 : decode cX10_rank 84 = .ok (.getfield 7, 3) := by decide +kernel
theorem dX10_rank_87 : decode cX10_rank 87 = .ok (.if_icmp .ge 36, 3) := by decide +kernel
theorem dX10_rank_90 : decode cX10_rank 90 = .ok (.iload_n 3, 1) := by decide +kernel
theorem dX10_rank_91 : decode cX10_rank 91 = .ok (.aload_n 0, 1) := by decide +kernel
theorem dX10_rank_92 : decode cX10_rank 92 = .ok (.iload_n 1, 1) := by decide +kernel
theorem dX10_rank_93 : decode cX10_rank 93 = .ok (.bipush 8, 2) := by decide +kernel
theorem dX10_rank_95 : decode cX10_rank 95 = .ok (.iload 4, 2) := by decide +kernel
theorem dX10_rank_97 : decode cX10_rank 97 = .ok (.imul, 1) := by decide +kernel
theorem dX10_rank_98 : decode cX10_rank 98 = .ok (.iadd, 1) := by decide +kernel
theorem dX10_rank_99 : decode cX10_rank 99 = .ok (.iload_n 2, 1) := by decide +kernel
theorem dX10_rank_100 : decode cX10_rank 100 = .ok (.bipush 8, 2) := by decide +kernel
theorem dX10_rank_102 : decode cX10_rank 102 = .ok (.irem, 1) := by decide +kernel
theorem dX10_rank_103 : decode cX10_rank 103 = .ok (.iadd, 1) := by decide +kernel
theorem dX10_rank_104 : decode cX10_rank 104 = .ok (.invokevirtual 198, 3) := by decide +kernel
theorem dX10_rank_107 : decode cX10_rank 107 = .ok (.ifCond .eq 7, 3) := by decide +kernel
theorem dX10_rank_110 : decode cX10_rank 110 = .ok (.iconst 1, 1) := by decide +kernel
theorem dX10_rank_111 : decode cX10_rank 111 = .ok (.goto 4, 3) := by decide +kernel
theorem dX10_rank_114 : decode cX10_rank 114 = .ok (.iconst 0, 1) := by decide +kernel
theorem dX10_rank_115 : decode cX10_rank 115 = .ok (.iadd, 1) := by decide +kernel
theorem dX10_rank_116 : decode cX10_rank 116 = .ok (.istore_n 3, 1) := by decide +kernel
theorem dX10_rank_117 : decode cX10_rank 117 = .ok (.iinc 4 1, 3) := by decide +kernel
theorem dX10_rank_120 : decode cX10_rank 120 = .ok (.goto (-39), 3) := by decide +kernel
theorem dX10_rank_123 : decode cX10_rank 123 = .ok (.iload_n 3, 1) := by decide +kernel
theorem dX10_rank_124 : decode cX10_rank 124 = .ok (.ireturn, 1) := by decide +kernel
theorem dX10_select_0 : decode cX10_select 0 = .ok (.iconst (-1), 1) := by decide +kernel
theorem dX10_select_1 : decode cX10_select 1 = .ok (.istore_n 2, 1) := by decide +kernel
theorem dX10_select_2 : decode cX10_select 2 = .ok (.iconst 0, 1) := by decide +kernel
theorem dX10_select_3 : decode cX10_select 3 = .ok (.istore_n 3, 1) := by decide +kernel
theorem dX10_select_4 : decode cX10_select 4 = .ok (.iload_n 3, 1) := by decide +kernel
theorem dX10_select_5 : decode cX10_select 5 = .ok (.aload_n 0, 1) := by decide +kernel
theorem dX10_select_6 : decode cX10_select 6 = .ok (.getfield 7, 3) := by decide +kernel
theorem dX10_select_9 : decode cX10_select 9 = .ok (.if_icmp .ge 70, 3) := by decide +kernel
theorem dX10_select_12 : decode cX10_select 12 = .ok (.iconst 0, 1) := by decide +kernel
theorem dX10_select_13 : decode cX10_select 13 = .ok (.istore 4, 2) := by decide +kernel
theorem dX10_select_15 : decode cX10_select 15 = .ok (.iload 4, 2) := by decide +kernel
theorem dX10_select_17 : decode cX10_select 17 = .ok (.aload_n 0, 1) := by decide +kernel
theorem dX10_select_18 : decode cX10_select 18 = .ok (.getfield 13, 3) := by decide +kernel
theorem dX10_select_21 : decode cX10_select 21 = .ok (.if_icmp .ge 52, 3) := by decide +kernel
theorem dX10_select_24 : decode cX10_select 24 = .ok (.bipush 8, 2) := by decide +kernel
theorem dX10_select_26 : decode cX10_select 26 = .ok (.iload_n 3, 1) := by decide +kernel
theorem dX10_select_27 : decode cX10_select 27 = .ok (.imul, 1) := by decide +kernel
theorem dX10_select_28 : decode cX10_select 28 = .ok (.iload 4, 2) := by decide +kernel
theorem dX10_select_30 : decode cX10_select 30 = .ok (.iadd, 1) := by decide +kernel
theorem dX10_select_31 : decode cX10_select 31 = .ok (.istore 5, 2) := by decide +kernel
theorem dX10_select_33 : decode cX10_select 33 = .ok (.aload_n 0, 1) := by decide +kernel
theorem dX10_select_34 : decode cX10_select 34 = .ok (.iload_n 1, 1) := by decide +kernel
theorem dX10_select_35 : decode cX10_select 35 = .ok (.iload 5, 2) := by decide +kernel
theorem dX10_select_37 : decode cX10_select 37 = .ok (.iadd, 1) := by decide +kernel
theorem dX10_select_38 : decode cX10_select 38 = .ok (.invokevirtual 198, 3) := by decide +kernel
theorem dX10_select_41 : decode cX10_select 41 = .ok (.ifCond .ne 26, 3) := by decide +kernel
theorem dX10_select_44 : decode cX10_select 44 = .ok (.iload_n 2, 1) := by decide +kernel
theorem dX10_select_45 : decode cX10_select 45 = .ok (.ifCond .lt 19, 3) := by decide +kernel
theorem dX10_select_48 : decode cX10_select 48 = .ok (.aload_n 0, 1) := by decide +kernel
theorem dX10_select_49 : decode cX10_select 49 = .ok (.iload_n 1, 1) := by decide +kernel
theorem dX10_select_50 : decode cX10_select 50 = .ok (.iload 5, 2) := by decide +kernel
theorem dX10_select_52 : decode cX10_select 52 = .ok (.invokevirtual 249, 3) := by decide +kernel
theorem dX10_select_55 : decode cX10_select 55 = .ok (.aload_n 0, 1) := by decide +kernel
theorem dX10_select_56 : decode cX10_select 56 = .ok (.iload_n 1, 1) := by decide +kernel
theorem dX10_select_57 : decode cX10_select 57 = .ok (.iload_n 2, 1) := by decide +kernel
theorem dX10_select_58 : decode cX10_select 58 = .ok (.invokevirtual 249, 3) := by decide +kernel
theorem dX10_select_61 : decode cX10_select 61 = .ok (.if_icmp .le 6, 3) := by decide +kernel
theorem dX10_select_64 : decode cX10_select 64 = .ok (.iload 5, 2) := by decide +kernel
theorem dX10_select_66 : decode cX10_select 66 = .ok (.istore_n 2, 1) := by decide +kernel
theorem dX10_select_67 : decode cX10_select 67 = .ok (.iinc 4 1, 3) := by decide +kernel
theorem dX10_select_70 : decode cX10_select 70 = .ok (.goto (-55), 3) := by decide +kernel
theorem dX10_select_73 : decode cX10_select 73 = .ok (.iinc 3 1, 3) := by decide +kernel
theorem dX10_select_76 : decode cX10_select 76 = .ok (.goto (-72), 3) := by decide +kernel
theorem dX10_select_79 : decode cX10_select 79 = .ok (.iload_n 2, 1) := by decide +kernel
theorem dX10_select_80 : decode cX10_select 80 = .ok (.ireturn, 1) := by decide +kernel
theorem dX10_visit_0 : decode cX10_visit 0 = .ok (.aload_n 0, 1) := by decide +kernel
theorem dX10_visit_1 : decode cX10_visit 1 = .ok (.getfield 92, 3) := by decide +kernel
theorem dX10_visit_4 : decode cX10_visit 4 = .ok (.bipush 60, 2) := by decide +kernel
theorem dX10_visit_6 : decode cX10_visit 6 = .ok (.if_icmp .ne 9, 3) := by decide +kernel
theorem dX10_visit_9 : decode cX10_visit 9 = .ok (.aload_n 0, 1) := by decide +kernel
theorem dX10_visit_10 : decode cX10_visit 10 = .ok (.iconst 1, 1) := by decide +kernel
theorem dX10_visit_11 : decode cX10_visit 11 = .ok (.putfield 101, 3) := by decide +kernel
theorem dX10_visit_14 : decode cX10_visit 14 = .ok (.return_, 1) := by decide +kernel
theorem dX10_visit_15 : decode cX10_visit 15 = .ok (.aload_n 0, 1) := by decide +kernel
theorem dX10_visit_16 : decode cX10_visit 16 = .ok (.dup, 1) := by decide +kernel
theorem dX10_visit_17 : decode cX10_visit 17 = .ok (.getfield 92, 3) := by decide +kernel
theorem dX10_visit_20 : decode cX10_visit 20 = .ok (.iconst 1, 1) := by decide +kernel
theorem dX10_visit_21 : decode cX10_visit 21 = .ok (.iadd, 1) := by decide +kernel
theorem dX10_visit_22 : decode cX10_visit 22 = .ok (.putfield 92, 3) := by decide +kernel
theorem dX10_visit_25 : decode cX10_visit 25 = .ok (.aload_n 0, 1) := by decide +kernel
theorem dX10_visit_26 : decode cX10_visit 26 = .ok (.iload_n 1, 1) := by decide +kernel
theorem dX10_visit_27 : decode cX10_visit 27 = .ok (.invokevirtual 239, 3) := by decide +kernel
theorem dX10_visit_30 : decode cX10_visit 30 = .ok (.ifCond .ge 4, 3) := by decide +kernel
theorem dX10_visit_33 : decode cX10_visit 33 = .ok (.return_, 1) := by decide +kernel
theorem dX10_visit_34 : decode cX10_visit 34 = .ok (.aload_n 0, 1) := by decide +kernel
theorem dX10_visit_35 : decode cX10_visit 35 = .ok (.iload_n 1, 1) := by decide +kernel
theorem dX10_visit_36 : decode cX10_visit 36 = .ok (.invokevirtual 252, 3) := by decide +kernel
theorem dX10_visit_39 : decode cX10_visit 39 = .ok (.istore_n 2, 1) := by decide +kernel
theorem dX10_visit_40 : decode cX10_visit 40 = .ok (.iload_n 2, 1) := by decide +kernel
theorem dX10_visit_41 : decode cX10_visit 41 = .ok (.ifCond .ge 42, 3) := by decide +kernel
theorem dX10_visit_44 : decode cX10_visit 44 = .ok (.aload_n 0, 1) := by decide +kernel
theorem dX10_visit_45 : decode cX10_visit 45 = .ok (.dup, 1) := by decide +kernel
theorem dX10_visit_46 : decode cX10_visit 46 = .ok (.getfield 95, 3) := by decide +kernel
theorem dX10_visit_49 : decode cX10_visit 49 = .ok (.iconst 1, 1) := by decide +kernel
theorem dX10_visit_50 : decode cX10_visit 50 = .ok (.iadd, 1) := by decide +kernel
theorem dX10_visit_51 : decode cX10_visit 51 = .ok (.putfield 95, 3) := by decide +kernel
theorem dX10_visit_54 : decode cX10_visit 54 = .ok (.iconst 0, 1) := by decide +kernel
theorem dX10_visit_55 : decode cX10_visit 55 = .ok (.istore_n 3, 1) := by decide +kernel
theorem dX10_visit_56 : decode cX10_visit 56 = .ok (.iload_n 3, 1) := by decide +kernel
theorem dX10_visit_57 : decode cX10_visit 57 = .ok (.bipush 64, 2) := by decide +kernel
theorem dX10_visit_59 : decode cX10_visit 59 = .ok (.if_icmp .ge 23, 3) := by decide +kernel
theorem dX10_visit_62 : decode cX10_visit 62 = .ok (.aload_n 0, 1) := by decide +kernel
theorem dX10_visit_63 : decode cX10_visit 63 = .ok (.getfield 89, 3) := by decide +kernel
theorem dX10_visit_66 : decode cX10_visit 66 = .ok (.iload_n 3, 1) := by decide +kernel
theorem dX10_visit_67 : decode cX10_visit 67 = .ok (.aload_n 0, 1) := by decide +kernel
theorem dX10_visit_68 : decode cX10_visit 68 = .ok (.getfield 22, 3) := by decide +kernel
theorem dX10_visit_71 : decode cX10_visit 71 = .ok (.iload_n 1, 1) := by decide +kernel
theorem dX10_visit_72 : decode cX10_visit 72 = .ok (.iload_n 3, 1) := by decide +kernel
theorem dX10_visit_73 : decode cX10_visit 73 = .ok (.iadd, 1) := by decide +kernel
theorem dX10_visit_74 : decode cX10_visit 74 = .ok (.iaload, 1) := by decide +kernel
theorem dX10_visit_75 : decode cX10_visit 75 = .ok (.iastore, 1) := by decide +kernel
theorem dX10_visit_76 : decode cX10_visit 76 = .ok (.iinc 3 1, 3) := by decide +kernel
theorem dX10_visit_79 : decode cX10_visit 79 = .ok (.goto (-23), 3) := by decide +kernel
theorem dX10_visit_82 : decode cX10_visit 82 = .ok (.return_, 1) := by decide +kernel
theorem dX10_visit_83 : decode cX10_visit 83 = .ok (.aload_n 0, 1) := by decide +kernel
theorem dX10_visit_84 : decode cX10_visit 84 = .ok (.getfield 22, 3) := by decide +kernel
theorem dX10_visit_87 : decode cX10_visit 87 = .ok (.iload_n 1, 1) := by decide +kernel
theorem dX10_visit_88 : decode cX10_visit 88 = .ok (.iload_n 2, 1) := by decide +kernel
theorem dX10_visit_89 : decode cX10_visit 89 = .ok (.iadd, 1) := by decide +kernel
theorem dX10_visit_90 : decode cX10_visit 90 = .ok (.iaload, 1) := by decide +kernel
theorem dX10_visit_91 : decode cX10_visit 91 = .ok (.istore_n 3, 1) := by decide +kernel
theorem dX10_visit_92 : decode cX10_visit 92 = .ok (.iconst 0, 1) := by decide +kernel
theorem dX10_visit_93 : decode cX10_visit 93 = .ok (.istore 4, 2) := by decide +kernel
theorem dX10_visit_95 : decode cX10_visit 95 = .ok (.iload 4, 2) := by decide +kernel
theorem dX10_visit_97 : decode cX10_visit 97 = .ok (.aload_n 0, 1) := by decide +kernel
theorem dX10_visit_98 : decode cX10_visit 98 = .ok (.getfield 16, 3) := by decide +kernel
theorem dX10_visit_101 : decode cX10_visit 101 = .ok (.if_icmp .gt 71, 3) := by decide +kernel
theorem dX10_visit_104 : decode cX10_visit 104 = .ok (.aload_n 0, 1) := by decide +kernel
theorem dX10_visit_105 : decode cX10_visit 105 = .ok (.getfield 101, 3) := by decide +kernel
theorem dX10_visit_108 : decode cX10_visit 108 = .ok (.ifCond .ne 64, 3) := by decide +kernel
theorem dX10_visit_111 : decode cX10_visit 111 = .ok (.aload_n 0, 1) := by decide +kernel
theorem dX10_visit_112 : decode cX10_visit 112 = .ok (.getfield 95, 3) := by decide +kernel
theorem dX10_visit_115 : decode cX10_visit 115 = .ok (.aload_n 0, 1) := by decide +kernel
theorem dX10_visit_116 : decode cX10_visit 116 = .ok (.getfield 98, 3) := by decide +kernel
theorem dX10_visit_119 : decode cX10_visit 119 = .ok (.if_icmp .ge 53, 3) := by decide +kernel
theorem dX10_visit_122 : decode cX10_visit 122 = .ok (.iload_n 3, 1) := by decide +kernel
theorem dX10_visit_123 : decode cX10_visit 123 = .ok (.iload 4, 2) := by decide +kernel
theorem dX10_visit_125 : decode cX10_visit 125 = .ok (.ishr, 1) := by decide +kernel
theorem dX10_visit_126 : decode cX10_visit 126 = .ok (.iconst 1, 1) := by decide +kernel
theorem dX10_visit_127 : decode cX10_visit 127 = .ok (.iand, 1) := by decide +kernel
theorem dX10_visit_128 : decode cX10_visit 128 = .ok (.ifCond .ne 6, 3) := by decide +kernel
theorem dX10_visit_131 : decode cX10_visit 131 = .ok (.goto 35, 3) := by decide +kernel
theorem dX10_visit_134 : decode cX10_visit 134 = .ok (.aload_n 0, 1) := by decide +kernel
theorem dX10_visit_135 : decode cX10_visit 135 = .ok (.iload_n 1, 1) := by decide +kernel
theorem dX10_visit_136 : decode cX10_visit 136 = .ok (.iload_n 1, 1) := by decide +kernel
theorem dX10_visit_137 : decode cX10_visit 137 = .ok (.bipush 64, 2) := by decide +kernel
theorem dX10_visit_139 : decode cX10_visit 139 = .ok (.iadd, 1) := by decide +kernel
theorem dX10_visit_140 : decode cX10_visit 140 = .ok (.invokevirtual 230, 3) := by decide +kernel
theorem dX10_visit_143 : decode cX10_visit 143 = .ok (.aload_n 0, 1) := by decide +kernel
theorem dX10_visit_144 : decode cX10_visit 144 = .ok (.getfield 22, 3) := by decide +kernel
theorem dX10_visit_147 : decode cX10_visit 147 = .ok (.iload_n 1, 1) := by decide +kernel
theorem dX10_visit_148 : decode cX10_visit 148 = .ok (.bipush 64, 2) := by decide +kernel
theorem dX10_visit_150 : decode cX10_visit 150 = .ok (.iadd, 1) := by decide +kernel
theorem dX10_visit_151 : decode cX10_visit 151 = .ok (.iload_n 2, 1) := by decide +kernel
theorem dX10_visit_152 : decode cX10_visit 152 = .ok (.iadd, 1) := by decide +kernel
theorem dX10_visit_153 : decode cX10_visit 153 = .ok (.iconst 1, 1) := by decide +kernel
theorem dX10_visit_154 : decode cX10_visit 154 = .ok (.iload 4, 2) := by decide +kernel
theorem dX10_visit_156 : decode cX10_visit 156 = .ok (.ishl, 1) := by decide +kernel
theorem dX10_visit_157 : decode cX10_visit 157 = .ok (.iastore, 1) := by decide +kernel
theorem dX10_visit_158 : decode cX10_visit 158 = .ok (.aload_n 0, 1) := by decide +kernel
theorem dX10_visit_159 : decode cX10_visit 159 = .ok (.iload_n 1, 1) := by decide +kernel
theorem dX10_visit_160 : decode cX10_visit 160 = .ok (.bipush 64, 2) := by decide +kernel
theorem dX10_visit_162 : decode cX10_visit 162 = .ok (.iadd, 1) := by decide +kernel
theorem dX10_visit_163 : decode cX10_visit 163 = .ok (.invokevirtual 255, 3) := by decide +kernel
theorem dX10_visit_166 : decode cX10_visit 166 = .ok (.iinc 4 1, 3) := by decide +kernel
theorem dX10_visit_169 : decode cX10_visit 169 = .ok (.goto (-74), 3) := by decide +kernel
theorem dX10_visit_172 : decode cX10_visit 172 = .ok (.return_, 1) := by decide +kernel
theorem dX10_search_0 : decode cX10_search 0 = .ok (.aload_n 0, 1) := by decide +kernel
theorem dX10_search_1 : decode cX10_search 1 = .ok (.iconst 0, 1) := by decide +kernel
theorem dX10_search_2 : decode cX10_search 2 = .ok (.putfield 92, 3) := by decide +kernel
theorem dX10_search_5 : decode cX10_search 5 = .ok (.aload_n 0, 1) := by decide +kernel
theorem dX10_search_6 : decode cX10_search 6 = .ok (.iconst 0, 1) := by decide +kernel
theorem dX10_search_7 : decode cX10_search 7 = .ok (.putfield 95, 3) := by decide +kernel
theorem dX10_search_10 : decode cX10_search 10 = .ok (.aload_n 0, 1) := by decide +kernel
theorem dX10_search_11 : decode cX10_search 11 = .ok (.iload_n 1, 1) := by decide +kernel
theorem dX10_search_12 : decode cX10_search 12 = .ok (.putfield 98, 3) := by decide +kernel
theorem dX10_search_15 : decode cX10_search 15 = .ok (.aload_n 0, 1) := by decide +kernel
theorem dX10_search_16 : decode cX10_search 16 = .ok (.iconst 0, 1) := by decide +kernel
theorem dX10_search_17 : decode cX10_search 17 = .ok (.putfield 101, 3) := by decide +kernel
theorem dX10_search_20 : decode cX10_search 20 = .ok (.aload_n 0, 1) := by decide +kernel
theorem dX10_search_21 : decode cX10_search 21 = .ok (.iconst 0, 1) := by decide +kernel
theorem dX10_search_22 : decode cX10_search 22 = .ok (.bipush 64, 2) := by decide +kernel
theorem dX10_search_24 : decode cX10_search 24 = .ok (.invokevirtual 230, 3) := by decide +kernel
theorem dX10_search_27 : decode cX10_search 27 = .ok (.aload_n 0, 1) := by decide +kernel
theorem dX10_search_28 : decode cX10_search 28 = .ok (.bipush 64, 2) := by decide +kernel
theorem dX10_search_30 : decode cX10_search 30 = .ok (.invokevirtual 255, 3) := by decide +kernel
theorem dX10_search_33 : decode cX10_search 33 = .ok (.aload_n 0, 1) := by decide +kernel
theorem dX10_search_34 : decode cX10_search 34 = .ok (.getfield 101, 3) := by decide +kernel
theorem dX10_search_37 : decode cX10_search 37 = .ok (.ifCond .ne 7, 3) := by decide +kernel
theorem dX10_search_40 : decode cX10_search 40 = .ok (.iconst 1, 1) := by decide +kernel
theorem dX10_search_41 : decode cX10_search 41 = .ok (.goto 4, 3) := by decide +kernel
theorem dX10_search_44 : decode cX10_search 44 = .ok (.iconst 0, 1) := by decide +kernel
theorem dX10_search_45 : decode cX10_search 45 = .ok (.ireturn, 1) := by decide +kernel
theorem dX10_countSolutions_0 : decode cX10_countSolutions 0 = .ok (.aload_n 0, 1) := by decide +kernel
theorem dX10_countSolutions_1 : decode cX10_countSolutions 1 = .ok (.iload_n 1, 1) := by decide +kernel
theorem dX10_countSolutions_2 : decode cX10_countSolutions 2 = .ok (.iconst 1, 1) := by decide +kernel
theorem dX10_countSolutions_3 : decode cX10_countSolutions 3 = .ok (.bipush 20, 2) := by decide +kernel
theorem dX10_countSolutions_5 : decode cX10_countSolutions 5 = .ok (.invokevirtual 172, 3) := by decide +kernel
theorem dX10_countSolutions_8 : decode cX10_countSolutions 8 = .ok (.ifCond .ne 6, 3) := by decide +kernel
theorem dX10_countSolutions_11 : decode cX10_countSolutions 11 = .ok (.bipush (-2), 2) := by decide +kernel
theorem dX10_countSolutions_13 : decode cX10_countSolutions 13 = .ok (.ireturn, 1) := by decide +kernel
theorem dX10_countSolutions_14 : decode cX10_countSolutions 14 = .ok (.aload_n 0, 1) := by decide +kernel
theorem dX10_countSolutions_15 : decode cX10_countSolutions 15 = .ok (.iload_n 1, 1) := by decide +kernel
theorem dX10_countSolutions_16 : decode cX10_countSolutions 16 = .ok (.invokevirtual 259, 3) := by decide +kernel
theorem dX10_countSolutions_19 : decode cX10_countSolutions 19 = .ok (.ifCond .eq 10, 3) := by decide +kernel
theorem dX10_countSolutions_22 : decode cX10_countSolutions 22 = .ok (.aload_n 0, 1) := by decide +kernel
theorem dX10_countSolutions_23 : decode cX10_countSolutions 23 = .ok (.getfield 95, 3) := by decide +kernel
theorem dX10_countSolutions_26 : decode cX10_countSolutions 26 = .ok (.goto 5, 3) := by decide +kernel
theorem dX10_countSolutions_29 : decode cX10_countSolutions 29 = .ok (.bipush (-7), 2) := by decide +kernel
theorem dX10_countSolutions_31 : decode cX10_countSolutions 31 = .ok (.ireturn, 1) := by decide +kernel
theorem dX10_solutionColor_0 : decode cX10_solutionColor 0 = .ok (.aload_n 0, 1) := by decide +kernel
theorem dX10_solutionColor_1 : decode cX10_solutionColor 1 = .ok (.iload_n 1, 1) := by decide +kernel
theorem dX10_solutionColor_2 : decode cX10_solutionColor 2 = .ok (.iconst 0, 1) := by decide +kernel
theorem dX10_solutionColor_3 : decode cX10_solutionColor 3 = .ok (.bipush 19, 2) := by decide +kernel
theorem dX10_solutionColor_5 : decode cX10_solutionColor 5 = .ok (.invokevirtual 172, 3) := by decide +kernel
theorem dX10_solutionColor_8 : decode cX10_solutionColor 8 = .ok (.ifCond .ne 6, 3) := by decide +kernel
theorem dX10_solutionColor_11 : decode cX10_solutionColor 11 = .ok (.bipush (-2), 2) := by decide +kernel
theorem dX10_solutionColor_13 : decode cX10_solutionColor 13 = .ok (.ireturn, 1) := by decide +kernel
theorem dX10_solutionColor_14 : decode cX10_solutionColor 14 = .ok (.aload_n 0, 1) := by decide +kernel
theorem dX10_solutionColor_15 : decode cX10_solutionColor 15 = .ok (.iload_n 2, 1) := by decide +kernel
theorem dX10_solutionColor_16 : decode cX10_solutionColor 16 = .ok (.iload_n 3, 1) := by decide +kernel
theorem dX10_solutionColor_17 : decode cX10_solutionColor 17 = .ok (.invokevirtual 195, 3) := by decide +kernel
theorem dX10_solutionColor_20 : decode cX10_solutionColor 20 = .ok (.ifCond .ne 5, 3) := by decide +kernel
theorem dX10_solutionColor_23 : decode cX10_solutionColor 23 = .ok (.iconst (-1), 1) := by decide +kernel
theorem dX10_solutionColor_24 : decode cX10_solutionColor 24 = .ok (.ireturn, 1) := by decide +kernel
theorem dX10_solutionColor_25 : decode cX10_solutionColor 25 = .ok (.aload_n 0, 1) := by decide +kernel
theorem dX10_solutionColor_26 : decode cX10_solutionColor 26 = .ok (.iload_n 1, 1) := by decide +kernel
theorem dX10_solutionColor_27 : decode cX10_solutionColor 27 = .ok (.iconst 1, 1) := by decide +kernel
theorem dX10_solutionColor_28 : decode cX10_solutionColor 28 = .ok (.iadd, 1) := by decide +kernel
theorem dX10_solutionColor_29 : decode cX10_solutionColor 29 = .ok (.invokevirtual 259, 3) := by decide +kernel
theorem dX10_solutionColor_32 : decode cX10_solutionColor 32 = .ok (.ifCond .ne 6, 3) := by decide +kernel
theorem dX10_solutionColor_35 : decode cX10_solutionColor 35 = .ok (.bipush (-7), 2) := by decide +kernel
theorem dX10_solutionColor_37 : decode cX10_solutionColor 37 = .ok (.ireturn, 1) := by decide +kernel
theorem dX10_solutionColor_38 : decode cX10_solutionColor 38 = .ok (.aload_n 0, 1) := by decide +kernel
theorem dX10_solutionColor_39 : decode cX10_solutionColor 39 = .ok (.getfield 95, 3) := by decide +kernel
theorem dX10_solutionColor_42 : decode cX10_solutionColor 42 = .ok (.iload_n 1, 1) := by decide +kernel
theorem dX10_solutionColor_43 : decode cX10_solutionColor 43 = .ok (.if_icmp .gt 6, 3) := by decide +kernel
theorem dX10_solutionColor_46 : decode cX10_solutionColor 46 = .ok (.bipush (-8), 2) := by decide +kernel
theorem dX10_solutionColor_48 : decode cX10_solutionColor 48 = .ok (.ireturn, 1) := by decide +kernel
theorem dX10_solutionColor_49 : decode cX10_solutionColor 49 = .ok (.iconst 0, 1) := by decide +kernel
theorem dX10_solutionColor_50 : decode cX10_solutionColor 50 = .ok (.istore 4, 2) := by decide +kernel
theorem dX10_solutionColor_52 : decode cX10_solutionColor 52 = .ok (.aload_n 0, 1) := by decide +kernel
theorem dX10_solutionColor_53 : decode cX10_solutionColor 53 = .ok (.getfield 89, 3) := by decide +kernel
theorem dX10_solutionColor_56 : decode cX10_solutionColor 56 = .ok (.bipush 8, 2) := by decide +kernel
theorem dX10_solutionColor_58 : decode cX10_solutionColor 58 = .ok (.iload_n 2, 1) := by decide +kernel
theorem dX10_solutionColor_59 : decode cX10_solutionColor 59 = .ok (.imul, 1) := by decide +kernel
theorem dX10_solutionColor_60 : decode cX10_solutionColor 60 = .ok (.iload_n 3, 1) := by decide +kernel
theorem dX10_solutionColor_61 : decode cX10_solutionColor 61 = .ok (.iadd, 1) := by decide +kernel
theorem dX10_solutionColor_62 : decode cX10_solutionColor 62 = .ok (.iaload, 1) := by decide +kernel
theorem dX10_solutionColor_63 : decode cX10_solutionColor 63 = .ok (.iload 4, 2) := by decide +kernel
theorem dX10_solutionColor_65 : decode cX10_solutionColor 65 = .ok (.ishr, 1) := by decide +kernel
theorem dX10_solutionColor_66 : decode cX10_solutionColor 66 = .ok (.iconst 1, 1) := by decide +kernel
theorem dX10_solutionColor_67 : decode cX10_solutionColor 67 = .ok (.if_icmp .eq 9, 3) := by decide +kernel
theorem dX10_solutionColor_70 : decode cX10_solutionColor 70 = .ok (.iinc 4 1, 3) := by decide +kernel
theorem dX10_solutionColor_73 : decode cX10_solutionColor 73 = .ok (.goto (-21), 3) := by decide +kernel
theorem dX10_solutionColor_76 : decode cX10_solutionColor 76 = .ok (.iload 4, 2) := by decide +kernel
theorem dX10_solutionColor_78 : decode cX10_solutionColor 78 = .ok (.ireturn, 1) := by decide +kernel
theorem dX10_searchNodes_0 : decode cX10_searchNodes 0 = .ok (.aload_n 0, 1) := by decide +kernel
theorem dX10_searchNodes_1 : decode cX10_searchNodes 1 = .ok (.iload_n 1, 1) := by decide +kernel
theorem dX10_searchNodes_2 : decode cX10_searchNodes 2 = .ok (.iconst 1, 1) := by decide +kernel
theorem dX10_searchNodes_3 : decode cX10_searchNodes 3 = .ok (.bipush 20, 2) := by decide +kernel
theorem dX10_searchNodes_5 : decode cX10_searchNodes 5 = .ok (.invokevirtual 172, 3) := by decide +kernel
theorem dX10_searchNodes_8 : decode cX10_searchNodes 8 = .ok (.ifCond .ne 6, 3) := by decide +kernel
theorem dX10_searchNodes_11 : decode cX10_searchNodes 11 = .ok (.bipush (-2), 2) := by decide +kernel
theorem dX10_searchNodes_13 : decode cX10_searchNodes 13 = .ok (.ireturn, 1) := by decide +kernel
theorem dX10_searchNodes_14 : decode cX10_searchNodes 14 = .ok (.aload_n 0, 1) := by decide +kernel
theorem dX10_searchNodes_15 : decode cX10_searchNodes 15 = .ok (.iload_n 1, 1) := by decide +kernel
theorem dX10_searchNodes_16 : decode cX10_searchNodes 16 = .ok (.invokevirtual 259, 3) := by decide +kernel
theorem dX10_searchNodes_19 : decode cX10_searchNodes 19 = .ok (.ifCond .eq 10, 3) := by decide +kernel
theorem dX10_searchNodes_22 : decode cX10_searchNodes 22 = .ok (.aload_n 0, 1) := by decide +kernel
theorem dX10_searchNodes_23 : decode cX10_searchNodes 23 = .ok (.getfield 92, 3) := by decide +kernel
theorem dX10_searchNodes_26 : decode cX10_searchNodes 26 = .ok (.goto 5, 3) := by decide +kernel
theorem dX10_searchNodes_29 : decode cX10_searchNodes 29 = .ok (.bipush (-7), 2) := by decide +kernel
theorem dX10_searchNodes_31 : decode cX10_searchNodes 31 = .ok (.ireturn, 1) := by decide +kernel
theorem dX10_isUnique_0 : decode cX10_isUnique 0 = .ok (.aload_n 0, 1) := by decide +kernel
theorem dX10_isUnique_1 : decode cX10_isUnique 1 = .ok (.iconst 2, 1) := by decide +kernel
theorem dX10_isUnique_2 : decode cX10_isUnique 2 = .ok (.invokevirtual 259, 3) := by decide +kernel
theorem dX10_isUnique_5 : decode cX10_isUnique 5 = .ok (.ifCond .eq 19, 3) := by decide +kernel
theorem dX10_isUnique_8 : decode cX10_isUnique 8 = .ok (.aload_n 0, 1) := by decide +kernel
theorem dX10_isUnique_9 : decode cX10_isUnique 9 = .ok (.getfield 95, 3) := by decide +kernel
theorem dX10_isUnique_12 : decode cX10_isUnique 12 = .ok (.iconst 1, 1) := by decide +kernel
theorem dX10_isUnique_13 : decode cX10_isUnique 13 = .ok (.if_icmp .ne 7, 3) := by decide +kernel
theorem dX10_isUnique_16 : decode cX10_isUnique 16 = .ok (.iconst 1, 1) := by decide +kernel
theorem dX10_isUnique_17 : decode cX10_isUnique 17 = .ok (.goto 9, 3) := by decide +kernel
theorem dX10_isUnique_20 : decode cX10_isUnique 20 = .ok (.iconst 0, 1) := by decide +kernel
theorem dX10_isUnique_21 : decode cX10_isUnique 21 = .ok (.goto 5, 3) := by decide +kernel
theorem dX10_isUnique_24 : decode cX10_isUnique 24 = .ok (.bipush (-7), 2) := by decide +kernel
theorem dX10_isUnique_26 : decode cX10_isUnique 26 = .ok (.ireturn, 1) := by decide +kernel
theorem dX10_blocks_0 : decode cX10_blocks 0 = .ok (.iconst 0, 1) := by decide +kernel
theorem dX10_blocks_1 : decode cX10_blocks 1 = .ok (.istore_n 2, 1) := by decide +kernel
theorem dX10_blocks_2 : decode cX10_blocks 2 = .ok (.iconst 0, 1) := by decide +kernel
theorem dX10_blocks_3 : decode cX10_blocks 3 = .ok (.istore_n 3, 1) := by decide +kernel
theorem dX10_blocks_4 : decode cX10_blocks 4 = .ok (.iconst 0, 1) := by decide +kernel
theorem dX10_blocks_5 : decode cX10_blocks 5 = .ok (.istore 4, 2) := by decide +kernel
theorem dX10_blocks_7 : decode cX10_blocks 7 = .ok (.iload 4, 2) := by decide +kernel
theorem dX10_blocks_9 : decode cX10_blocks 9 = .ok (.aload_n 0, 1) := by decide +kernel
theorem dX10_blocks_10 : decode cX10_blocks 10 = .ok (.iload_n 1, 1) := by decide +kernel
theorem dX10_blocks_11 : decode cX10_blocks 11 = .ok (.invokevirtual 214, 3) := by decide +kernel
theorem dX10_blocks_14 : decode cX10_blocks 14 = .ok (.if_icmp .ge 74, 3) := by decide +kernel
theorem dX10_blocks_17 : decode cX10_blocks 17 = .ok (.aload_n 0, 1) := by decide +kernel
theorem dX10_blocks_18 : decode cX10_blocks 18 = .ok (.aload_n 0, 1) := by decide +kernel
theorem dX10_blocks_19 : decode cX10_blocks 19 = .ok (.iload_n 1, 1) := by decide +kernel
theorem dX10_blocks_20 : decode cX10_blocks 20 = .ok (.iload 4, 2) := by decide +kernel
theorem dX10_blocks_22 : decode cX10_blocks 22 = .ok (.invokevirtual 217, 3) := by decide +kernel
theorem dX10_blocks_25 : decode cX10_blocks 25 = .ok (.invokevirtual 201, 3) := by decide +kernel
theorem dX10_blocks_28 : decode cX10_blocks 28 = .ok (.istore 5, 2) := by decide +kernel
theorem dX10_blocks_30 : decode cX10_blocks 30 = .ok (.iload 5, 2) := by decide +kernel
theorem dX10_blocks_32 : decode cX10_blocks 32 = .ok (.ifCond .le 24, 3) := by decide +kernel
theorem dX10_blocks_35 : decode cX10_blocks 35 = .ok (.iload 5, 2) := by decide +kernel
theorem dX10_blocks_37 : decode cX10_blocks 37 = .ok (.iload_n 3, 1) := by decide +kernel
theorem dX10_blocks_38 : decode cX10_blocks 38 = .ok (.if_icmp .ne 18, 3) := by decide +kernel
theorem dX10_blocks_41 : decode cX10_blocks 41 = .ok (.aload_n 0, 1) := by decide +kernel
theorem dX10_blocks_42 : decode cX10_blocks 42 = .ok (.getfield 105, 3) := by decide +kernel
theorem dX10_blocks_45 : decode cX10_blocks 45 = .ok (.iload_n 2, 1) := by decide +kernel
theorem dX10_blocks_46 : decode cX10_blocks 46 = .ok (.iconst 1, 1) := by decide +kernel
theorem dX10_blocks_47 : decode cX10_blocks 47 = .ok (.isub, 1) := by decide +kernel
theorem dX10_blocks_48 : decode cX10_blocks 48 = .ok (.dup2, 1) := by decide +kernel
theorem dX10_blocks_49 : decode cX10_blocks 49 = .ok (.iaload, 1) := by decide +kernel
theorem dX10_blocks_50 : decode cX10_blocks 50 = .ok (.iconst 1, 1) := by decide +kernel
theorem dX10_blocks_51 : decode cX10_blocks 51 = .ok (.iadd, 1) := by decide +kernel
theorem dX10_blocks_52 : decode cX10_blocks 52 = .ok (.iastore, 1) := by decide +kernel
theorem dX10_blocks_53 : decode cX10_blocks 53 = .ok (.goto 26, 3) := by decide +kernel
theorem dX10_blocks_56 : decode cX10_blocks 56 = .ok (.iload 5, 2) := by decide +kernel
theorem dX10_blocks_58 : decode cX10_blocks 58 = .ok (.ifCond .le 21, 3) := by decide +kernel
theorem dX10_blocks_61 : decode cX10_blocks 61 = .ok (.aload_n 0, 1) := by decide +kernel
theorem dX10_blocks_62 : decode cX10_blocks 62 = .ok (.getfield 105, 3) := by decide +kernel
theorem dX10_blocks_65 : decode cX10_blocks 65 = .ok (.iload_n 2, 1) := by decide +kernel
theorem dX10_blocks_66 : decode cX10_blocks 66 = .ok (.iconst 1, 1) := by decide +kernel
theorem dX10_blocks_67 : decode cX10_blocks 67 = .ok (.iastore, 1) := by decide +kernel
theorem dX10_blocks_68 : decode cX10_blocks 68 = .ok (.aload_n 0, 1) := by decide +kernel
theorem dX10_blocks_69 : decode cX10_blocks 69 = .ok (.getfield 108, 3) := by decide +kernel
theorem dX10_blocks_72 : decode cX10_blocks 72 = .ok (.iload_n 2, 1) := by decide +kernel
theorem dX10_blocks_73 : decode cX10_blocks 73 = .ok (.iload 5, 2) := by decide +kernel
theorem dX10_blocks_75 : decode cX10_blocks 75 = .ok (.iastore, 1) := by decide +kernel
theorem dX10_blocks_76 : decode cX10_blocks 76 = .ok (.iinc 2 1, 3) := by decide +kernel
theorem dX10_blocks_79 : decode cX10_blocks 79 = .ok (.iload 5, 2) := by decide +kernel
theorem dX10_blocks_81 : decode cX10_blocks 81 = .ok (.istore_n 3, 1) := by decide +kernel
theorem dX10_blocks_82 : decode cX10_blocks 82 = .ok (.iinc 4 1, 3) := by decide +kernel
theorem dX10_blocks_85 : decode cX10_blocks 85 = .ok (.goto (-78), 3) := by decide +kernel
theorem dX10_blocks_88 : decode cX10_blocks 88 = .ok (.iload_n 2, 1) := by decide +kernel
theorem dX10_blocks_89 : decode cX10_blocks 89 = .ok (.ireturn, 1) := by decide +kernel
theorem dX10_firstMismatch_0 : decode cX10_firstMismatch 0 = .ok (.aload_n 0, 1) := by decide +kernel
theorem dX10_firstMismatch_1 : decode cX10_firstMismatch 1 = .ok (.iconst 0, 1) := by decide +kernel
theorem dX10_firstMismatch_2 : decode cX10_firstMismatch 2 = .ok (.invokevirtual 211, 3) := by decide +kernel
theorem dX10_firstMismatch_5 : decode cX10_firstMismatch 5 = .ok (.aload_n 0, 1) := by decide +kernel
theorem dX10_firstMismatch_6 : decode cX10_firstMismatch 6 = .ok (.getfield 7, 3) := by decide +kernel
theorem dX10_firstMismatch_9 : decode cX10_firstMismatch 9 = .ok (.aload_n 0, 1) := by decide +kernel
theorem dX10_firstMismatch_10 : decode cX10_firstMismatch 10 = .ok (.getfield 13, 3) := by decide +kernel
theorem dX10_firstMismatch_13 : decode cX10_firstMismatch 13 = .ok (.imul, 1) := by decide +kernel
theorem dX10_firstMismatch_14 : decode cX10_firstMismatch 14 = .ok (.if_icmp .ge 6, 3) := by decide +kernel
theorem dX10_firstMismatch_17 : decode cX10_firstMismatch 17 = .ok (.bipush (-6), 2) := by decide +kernel
theorem dX10_firstMismatch_19 : decode cX10_firstMismatch 19 = .ok (.ireturn, 1) := by decide +kernel
theorem dX10_firstMismatch_20 : decode cX10_firstMismatch 20 = .ok (.iconst 0, 1) := by decide +kernel
theorem dX10_firstMismatch_21 : decode cX10_firstMismatch 21 = .ok (.istore_n 1, 1) := by decide +kernel
theorem dX10_firstMismatch_22 : decode cX10_firstMismatch 22 = .ok (.iload_n 1, 1) := by decide +kernel
theorem dX10_firstMismatch_23 : decode cX10_firstMismatch 23 = .ok (.aload_n 0, 1) := by decide +kernel
theorem dX10_firstMismatch_24 : decode cX10_firstMismatch 24 = .ok (.invokevirtual 168, 3) := by decide +kernel
theorem dX10_firstMismatch_27 : decode cX10_firstMismatch 27 = .ok (.if_icmp .ge 106, 3) := by decide +kernel
theorem dX10_firstMismatch_30 : decode cX10_firstMismatch 30 = .ok (.aload_n 0, 1) := by decide +kernel
theorem dX10_firstMismatch_31 : decode cX10_firstMismatch 31 = .ok (.iload_n 1, 1) := by decide +kernel
theorem dX10_firstMismatch_32 : decode cX10_firstMismatch 32 = .ok (.invokevirtual 262, 3) := by decide +kernel
theorem dX10_firstMismatch_35 : decode cX10_firstMismatch 35 = .ok (.istore_n 2, 1) := by decide +kernel
theorem dX10_firstMismatch_36 : decode cX10_firstMismatch 36 = .ok (.iload_n 2, 1) := by decide +kernel
theorem dX10_firstMismatch_37 : decode cX10_firstMismatch 37 = .ok (.aload_n 0, 1) := by decide +kernel
theorem dX10_firstMismatch_38 : decode cX10_firstMismatch 38 = .ok (.getfield 26, 3) := by decide +kernel
theorem dX10_firstMismatch_41 : decode cX10_firstMismatch 41 = .ok (.iload_n 1, 1) := by decide +kernel
theorem dX10_firstMismatch_42 : decode cX10_firstMismatch 42 = .ok (.iaload, 1) := by decide +kernel
theorem dX10_firstMismatch_43 : decode cX10_firstMismatch 43 = .ok (.if_icmp .ne 7, 3) := by decide +kernel
theorem dX10_firstMismatch_46 : decode cX10_firstMismatch 46 = .ok (.iconst 1, 1) := by decide +kernel
theorem dX10_firstMismatch_47 : decode cX10_firstMismatch 47 = .ok (.goto 4, 3) := by decide +kernel
theorem dX10_firstMismatch_50 : decode cX10_firstMismatch 50 = .ok (.iconst 0, 1) := by decide +kernel
theorem dX10_firstMismatch_51 : decode cX10_firstMismatch 51 = .ok (.istore_n 3, 1) := by decide +kernel
theorem dX10_firstMismatch_52 : decode cX10_firstMismatch 52 = .ok (.iconst 0, 1) := by decide +kernel
theorem dX10_firstMismatch_53 : decode cX10_firstMismatch 53 = .ok (.istore 4, 2) := by decide +kernel
theorem dX10_firstMismatch_55 : decode cX10_firstMismatch 55 = .ok (.iload 4, 2) := by decide +kernel
theorem dX10_firstMismatch_57 : decode cX10_firstMismatch 57 = .ok (.iload_n 2, 1) := by decide +kernel
theorem dX10_firstMismatch_58 : decode cX10_firstMismatch 58 = .ok (.if_icmp .ge 63, 3) := by decide +kernel
theorem dX10_firstMismatch_61 : decode cX10_firstMismatch 61 = .ok (.iload_n 3, 1) := by decide +kernel
theorem dX10_firstMismatch_62 : decode cX10_firstMismatch 62 = .ok (.ifCond .eq 59, 3) := by decide +kernel
theorem dX10_firstMismatch_65 : decode cX10_firstMismatch 65 = .ok (.aload_n 0, 1) := by decide +kernel
theorem dX10_firstMismatch_66 : decode cX10_firstMismatch 66 = .ok (.getfield 105, 3) := by decide +kernel
theorem dX10_firstMismatch_69 : decode cX10_firstMismatch 69 = .ok (.iload 4, 2) := by decide +kernel
theorem dX10_firstMismatch_71 : decode cX10_firstMismatch 71 = .ok (.iaload, 1) := by decide +kernel
theorem dX10_firstMismatch_72 : decode cX10_firstMismatch 72 = .ok (.aload_n 0, 1) := by decide +kernel
theorem dX10_firstMismatch_73 : decode cX10_firstMismatch 73 = .ok (.getfield 29, 3) := by decide +kernel
theorem dX10_firstMismatch_76 : decode cX10_firstMismatch 76 = .ok (.bipush 8, 2) := by decide +kernel
theorem dX10_firstMismatch_78 : decode cX10_firstMismatch 78 = .ok (.iload_n 1, 1) := by decide +kernel
theorem dX10_firstMismatch_79 : decode cX10_firstMismatch 79 = .ok (.imul, 1) := by decide +kernel
theorem dX10_firstMismatch_80 : decode cX10_firstMismatch 80 = .ok (.iload 4, 2) := by decide +kernel
theorem dX10_firstMismatch_82 : decode cX10_firstMismatch 82 = .ok (.iadd, 1) := by decide +kernel
theorem dX10_firstMismatch_83 : decode cX10_firstMismatch 83 = .ok (.iaload, 1) := by decide +kernel
theorem dX10_firstMismatch_84 : decode cX10_firstMismatch 84 = .ok (.if_icmp .ne 29, 3) := by decide +kernel
theorem dX10_firstMismatch_87 : decode cX10_firstMismatch 87 = .ok (.aload_n 0, 1) := by decide +kernel
theorem dX10_firstMismatch_88 : decode cX10_firstMismatch 88 = .ok (.getfield 108, 3) := by decide +kernel
theorem dX10_firstMismatch_91 : decode cX10_firstMismatch 91 = .ok (.iload 4, 2) := by decide +kernel
theorem dX10_firstMismatch_93 : decode cX10_firstMismatch 93 = .ok (.iaload, 1) := by decide +kernel
theorem dX10_firstMismatch_94 : decode cX10_firstMismatch 94 = .ok (.aload_n 0, 1) := by decide +kernel
theorem dX10_firstMismatch_95 : decode cX10_firstMismatch 95 = .ok (.getfield 32, 3) := by decide +kernel
theorem dX10_firstMismatch_98 : decode cX10_firstMismatch 98 = .ok (.bipush 8, 2) := by decide +kernel
theorem dX10_firstMismatch_100 : decode cX10_firstMismatch 100 = .ok (.iload_n 1, 1) := by decide +kernel
theorem dX10_firstMismatch_101 : decode cX10_firstMismatch 101 = .ok (.imul, 1) := by decide +kernel
theorem dX10_firstMismatch_102 : decode cX10_firstMismatch 102 = .ok (.iload 4, 2) := by decide +kernel
theorem dX10_firstMismatch_104 : decode cX10_firstMismatch 104 = .ok (.iadd, 1) := by decide +kernel
theorem dX10_firstMismatch_105 : decode cX10_firstMismatch 105 = .ok (.iaload, 1) := by decide +kernel
theorem dX10_firstMismatch_106 : decode cX10_firstMismatch 106 = .ok (.if_icmp .ne 7, 3) := by decide +kernel
theorem dX10_firstMismatch_109 : decode cX10_firstMismatch 109 = .ok (.iconst 1, 1) := by decide +kernel
theorem dX10_firstMismatch_110 : decode cX10_firstMismatch 110 = .ok (.goto 4, 3) := by decide +kernel
theorem dX10_firstMismatch_113 : decode cX10_firstMismatch 113 = .ok (.iconst 0, 1) := by decide +kernel
theorem dX10_firstMismatch_114 : decode cX10_firstMismatch 114 = .ok (.istore_n 3, 1) := by decide +kernel
theorem dX10_firstMismatch_115 : decode cX10_firstMismatch 115 = .ok (.iinc 4 1, 3) := by decide +kernel
theorem dX10_firstMismatch_118 : decode cX10_firstMismatch 118 = .ok (.goto (-63), 3) := by decide +kernel
theorem dX10_firstMismatch_121 : decode cX10_firstMismatch 121 = .ok (.iload_n 3, 1) := by decide +kernel
theorem dX10_firstMismatch_122 : decode cX10_firstMismatch 122 = .ok (.ifCond .ne 5, 3) := by decide +kernel
theorem dX10_firstMismatch_125 : decode cX10_firstMismatch 125 = .ok (.iload_n 1, 1) := by decide +kernel
theorem dX10_firstMismatch_126 : decode cX10_firstMismatch 126 = .ok (.ireturn, 1) := by decide +kernel
theorem dX10_firstMismatch_127 : decode cX10_firstMismatch 127 = .ok (.iinc 1 1, 3) := by decide +kernel
theorem dX10_firstMismatch_130 : decode cX10_firstMismatch 130 = .ok (.goto (-108), 3) := by decide +kernel
theorem dX10_firstMismatch_133 : decode cX10_firstMismatch 133 = .ok (.bipush (-8), 2) := by decide +kernel
theorem dX10_firstMismatch_135 : decode cX10_firstMismatch 135 = .ok (.ireturn, 1) := by decide +kernel
theorem dX10_take_0 : decode cX10_take 0 = .ok (.iconst 0, 1) := by decide +kernel
theorem dX10_take_1 : decode cX10_take 1 = .ok (.istore_n 1, 1) := by decide +kernel
theorem dX10_take_2 : decode cX10_take 2 = .ok (.iconst 0, 1) := by decide +kernel
theorem dX10_take_3 : decode cX10_take 3 = .ok (.istore_n 2, 1) := by decide +kernel
theorem dX10_take_4 : decode cX10_take 4 = .ok (.iload_n 2, 1) := by decide +kernel
theorem dX10_take_5 : decode cX10_take 5 = .ok (.aload_n 0, 1) := by decide +kernel
theorem dX10_take_6 : decode cX10_take 6 = .ok (.invokevirtual 168, 3) := by decide +kernel
theorem dX10_take_9 : decode cX10_take 9 = .ok (.if_icmp .ge 60, 3) := by decide +kernel
theorem dX10_take_12 : decode cX10_take 12 = .ok (.aload_n 0, 1) := by decide +kernel
theorem dX10_take_13 : decode cX10_take 13 = .ok (.iload_n 2, 1) := by decide +kernel
theorem dX10_take_14 : decode cX10_take 14 = .ok (.invokevirtual 262, 3) := by decide +kernel
theorem dX10_take_17 : decode cX10_take 17 = .ok (.istore_n 3, 1) := by decide +kernel
theorem dX10_take_18 : decode cX10_take 18 = .ok (.aload_n 0, 1) := by decide +kernel
theorem dX10_take_19 : decode cX10_take 19 = .ok (.getfield 26, 3) := by decide +kernel
theorem dX10_take_22 : decode cX10_take 22 = .ok (.iload_n 2, 1) := by decide +kernel
theorem dX10_take_23 : decode cX10_take 23 = .ok (.iconst 0, 1) := by decide +kernel
theorem dX10_take_24 : decode cX10_take 24 = .ok (.iastore, 1) := by decide +kernel
theorem dX10_take_25 : decode cX10_take 25 = .ok (.iconst 0, 1) := by decide +kernel
theorem dX10_take_26 : decode cX10_take 26 = .ok (.istore 4, 2) := by decide +kernel
theorem dX10_take_28 : decode cX10_take 28 = .ok (.iload 4, 2) := by decide +kernel
theorem dX10_take_30 : decode cX10_take 30 = .ok (.iload_n 3, 1) := by decide +kernel
theorem dX10_take_31 : decode cX10_take 31 = .ok (.if_icmp .ge 28, 3) := by decide +kernel
theorem dX10_take_34 : decode cX10_take 34 = .ok (.aload_n 0, 1) := by decide +kernel
theorem dX10_take_35 : decode cX10_take 35 = .ok (.iload_n 2, 1) := by decide +kernel
theorem dX10_take_36 : decode cX10_take 36 = .ok (.aload_n 0, 1) := by decide +kernel
theorem dX10_take_37 : decode cX10_take 37 = .ok (.getfield 105, 3) := by decide +kernel
theorem dX10_take_40 : decode cX10_take 40 = .ok (.iload 4, 2) := by decide +kernel
theorem dX10_take_42 : decode cX10_take 42 = .ok (.iaload, 1) := by decide +kernel
theorem dX10_take_43 : decode cX10_take 43 = .ok (.aload_n 0, 1) := by decide +kernel
theorem dX10_take_44 : decode cX10_take 44 = .ok (.getfield 108, 3) := by decide +kernel
theorem dX10_take_47 : decode cX10_take 47 = .ok (.iload 4, 2) := by decide +kernel
theorem dX10_take_49 : decode cX10_take 49 = .ok (.iaload, 1) := by decide +kernel
theorem dX10_take_50 : decode cX10_take 50 = .ok (.invokevirtual 187, 3) := by decide +kernel
theorem dX10_take_53 : decode cX10_take 53 = .ok (.iinc 4 1, 3) := by decide +kernel
theorem dX10_take_56 : decode cX10_take 56 = .ok (.goto (-28), 3) := by decide +kernel
theorem dX10_take_59 : decode cX10_take 59 = .ok (.iload_n 1, 1) := by decide +kernel
theorem dX10_take_60 : decode cX10_take 60 = .ok (.iload_n 3, 1) := by decide +kernel
theorem dX10_take_61 : decode cX10_take 61 = .ok (.iadd, 1) := by decide +kernel
theorem dX10_take_62 : decode cX10_take 62 = .ok (.istore_n 1, 1) := by decide +kernel
theorem dX10_take_63 : decode cX10_take 63 = .ok (.iinc 2 1, 3) := by decide +kernel
theorem dX10_take_66 : decode cX10_take 66 = .ok (.goto (-62), 3) := by decide +kernel
theorem dX10_take_69 : decode cX10_take 69 = .ok (.iload_n 1, 1) := by decide +kernel
theorem dX10_take_70 : decode cX10_take 70 = .ok (.ireturn, 1) := by decide +kernel
theorem dX10_takeClues_0 : decode cX10_takeClues 0 = .ok (.aload_n 0, 1) := by decide +kernel
theorem dX10_takeClues_1 : decode cX10_takeClues 1 = .ok (.iconst 0, 1) := by decide +kernel
theorem dX10_takeClues_2 : decode cX10_takeClues 2 = .ok (.invokevirtual 211, 3) := by decide +kernel
theorem dX10_takeClues_5 : decode cX10_takeClues 5 = .ok (.aload_n 0, 1) := by decide +kernel
theorem dX10_takeClues_6 : decode cX10_takeClues 6 = .ok (.getfield 7, 3) := by decide +kernel
theorem dX10_takeClues_9 : decode cX10_takeClues 9 = .ok (.aload_n 0, 1) := by decide +kernel
theorem dX10_takeClues_10 : decode cX10_takeClues 10 = .ok (.getfield 13, 3) := by decide +kernel
theorem dX10_takeClues_13 : decode cX10_takeClues 13 = .ok (.imul, 1) := by decide +kernel
theorem dX10_takeClues_14 : decode cX10_takeClues 14 = .ok (.if_icmp .ge 6, 3) := by decide +kernel
theorem dX10_takeClues_17 : decode cX10_takeClues 17 = .ok (.bipush (-6), 2) := by decide +kernel
theorem dX10_takeClues_19 : decode cX10_takeClues 19 = .ok (.ireturn, 1) := by decide +kernel
theorem dX10_takeClues_20 : decode cX10_takeClues 20 = .ok (.aload_n 0, 1) := by decide +kernel
theorem dX10_takeClues_21 : decode cX10_takeClues 21 = .ok (.invokevirtual 184, 3) := by decide +kernel
theorem dX10_takeClues_24 : decode cX10_takeClues 24 = .ok (.aload_n 0, 1) := by decide +kernel
theorem dX10_takeClues_25 : decode cX10_takeClues 25 = .ok (.invokevirtual 265, 3) := by decide +kernel
theorem dX10_takeClues_28 : decode cX10_takeClues 28 = .ok (.ireturn, 1) := by decide +kernel
theorem dX10_drawPicture_0 : decode cX10_drawPicture 0 = .ok (.iload_n 1, 1) := by decide +kernel
theorem dX10_drawPicture_1 : decode cX10_drawPicture 1 = .ok (.istore_n 2, 1) := by decide +kernel
theorem dX10_drawPicture_2 : decode cX10_drawPicture 2 = .ok (.iconst 0, 1) := by decide +kernel
theorem dX10_drawPicture_3 : decode cX10_drawPicture 3 = .ok (.istore_n 3, 1) := by decide +kernel
theorem dX10_drawPicture_4 : decode cX10_drawPicture 4 = .ok (.iconst 0, 1) := by decide +kernel
theorem dX10_drawPicture_5 : decode cX10_drawPicture 5 = .ok (.istore 4, 2) := by decide +kernel
theorem dX10_drawPicture_7 : decode cX10_drawPicture 7 = .ok (.iload 4, 2) := by decide +kernel
theorem dX10_drawPicture_9 : decode cX10_drawPicture 9 = .ok (.aload_n 0, 1) := by decide +kernel
theorem dX10_drawPicture_10 : decode cX10_drawPicture 10 = .ok (.getfield 7, 3) := by decide +kernel
theorem dX10_drawPicture_13 : decode cX10_drawPicture 13 = .ok (.if_icmp .ge 80, 3) := by decide +kernel
theorem dX10_drawPicture_16 : decode cX10_drawPicture 16 = .ok (.iconst 0, 1) := by decide +kernel
theorem dX10_drawPicture_17 : decode cX10_drawPicture 17 = .ok (.istore 5, 2) := by decide +kernel
theorem dX10_drawPicture_19 : decode cX10_drawPicture 19 = .ok (.iload 5, 2) := by decide +kernel
theorem dX10_drawPicture_21 : decode cX10_drawPicture 21 = .ok (.aload_n 0, 1) := by decide +kernel
theorem dX10_drawPicture_22 : decode cX10_drawPicture 22 = .ok (.getfield 13, 3) := by decide +kernel
theorem dX10_drawPicture_25 : decode cX10_drawPicture 25 = .ok (.if_icmp .ge 62, 3) := by decide +kernel
theorem dX10_drawPicture_28 : decode cX10_drawPicture 28 = .ok (.iload_n 2, 1) := by decide +kernel
theorem dX10_drawPicture_29 : decode cX10_drawPicture 29 = .ok (.ldc_w 268, 3) := by decide +kernel
theorem dX10_drawPicture_32 : decode cX10_drawPicture 32 = .ok (.imul, 1) := by decide +kernel
theorem dX10_drawPicture_33 : decode cX10_drawPicture 33 = .ok (.sipush 12345, 3) := by decide +kernel
theorem dX10_drawPicture_36 : decode cX10_drawPicture 36 = .ok (.iadd, 1) := by decide +kernel
theorem dX10_drawPicture_37 : decode cX10_drawPicture 37 = .ok (.istore_n 2, 1) := by decide +kernel
theorem dX10_drawPicture_38 : decode cX10_drawPicture 38 = .ok (.iload_n 2, 1) := by decide +kernel
theorem dX10_drawPicture_39 : decode cX10_drawPicture 39 = .ok (.bipush 16, 2) := by decide +kernel
theorem dX10_drawPicture_41 : decode cX10_drawPicture 41 = .ok (.iushr, 1) := by decide +kernel
theorem dX10_drawPicture_42 : decode cX10_drawPicture 42 = .ok (.aload_n 0, 1) := by decide +kernel
theorem dX10_drawPicture_43 : decode cX10_drawPicture 43 = .ok (.getfield 16, 3) := by decide +kernel
theorem dX10_drawPicture_46 : decode cX10_drawPicture 46 = .ok (.iconst 1, 1) := by decide +kernel
theorem dX10_drawPicture_47 : decode cX10_drawPicture 47 = .ok (.iadd, 1) := by decide +kernel
theorem dX10_drawPicture_48 : decode cX10_drawPicture 48 = .ok (.irem, 1) := by decide +kernel
theorem dX10_drawPicture_49 : decode cX10_drawPicture 49 = .ok (.istore 6, 2) := by decide +kernel
theorem dX10_drawPicture_51 : decode cX10_drawPicture 51 = .ok (.aload_n 0, 1) := by decide +kernel
theorem dX10_drawPicture_52 : decode cX10_drawPicture 52 = .ok (.getfield 22, 3) := by decide +kernel
theorem dX10_drawPicture_55 : decode cX10_drawPicture 55 = .ok (.bipush 8, 2) := by decide +kernel
theorem dX10_drawPicture_57 : decode cX10_drawPicture 57 = .ok (.iload 4, 2) := by decide +kernel
theorem dX10_drawPicture_59 : decode cX10_drawPicture 59 = .ok (.imul, 1) := by decide +kernel
theorem dX10_drawPicture_60 : decode cX10_drawPicture 60 = .ok (.iload 5, 2) := by decide +kernel
theorem dX10_drawPicture_62 : decode cX10_drawPicture 62 = .ok (.iadd, 1) := by decide +kernel
theorem dX10_drawPicture_63 : decode cX10_drawPicture 63 = .ok (.iconst 1, 1) := by decide +kernel
theorem dX10_drawPicture_64 : decode cX10_drawPicture 64 = .ok (.iload 6, 2) := by decide +kernel
theorem dX10_drawPicture_66 : decode cX10_drawPicture 66 = .ok (.ishl, 1) := by decide +kernel
theorem dX10_drawPicture_67 : decode cX10_drawPicture 67 = .ok (.iastore, 1) := by decide +kernel
theorem dX10_drawPicture_68 : decode cX10_drawPicture 68 = .ok (.iload_n 3, 1) := by decide +kernel
theorem dX10_drawPicture_69 : decode cX10_drawPicture 69 = .ok (.iload 6, 2) := by decide +kernel
theorem dX10_drawPicture_71 : decode cX10_drawPicture 71 = .ok (.ifCond .le 7, 3) := by decide +kernel
theorem dX10_drawPicture_74 : decode cX10_drawPicture 74 = .ok (.iconst 1, 1) := by decide +kernel
theorem dX10_drawPicture_75 : decode cX10_drawPicture 75 = .ok (.goto 4, 3) := by decide +kernel
theorem dX10_drawPicture_78 : decode cX10_drawPicture 78 = .ok (.iconst 0, 1) := by decide +kernel
theorem dX10_drawPicture_79 : decode cX10_drawPicture 79 = .ok (.iadd, 1) := by decide +kernel
theorem dX10_drawPicture_80 : decode cX10_drawPicture 80 = .ok (.istore_n 3, 1) := by decide +kernel
theorem dX10_drawPicture_81 : decode cX10_drawPicture 81 = .ok (.iinc 5 1, 3) := by decide +kernel
theorem dX10_drawPicture_84 : decode cX10_drawPicture 84 = .ok (.goto (-65), 3) := by decide +kernel
theorem dX10_drawPicture_87 : decode cX10_drawPicture 87 = .ok (.iinc 4 1, 3) := by decide +kernel
theorem dX10_drawPicture_90 : decode cX10_drawPicture 90 = .ok (.goto (-83), 3) := by decide +kernel
theorem dX10_drawPicture_93 : decode cX10_drawPicture 93 = .ok (.aload_n 0, 1) := by decide +kernel
theorem dX10_drawPicture_94 : decode cX10_drawPicture 94 = .ok (.iconst 0, 1) := by decide +kernel
theorem dX10_drawPicture_95 : decode cX10_drawPicture 95 = .ok (.putfield 35, 3) := by decide +kernel
theorem dX10_drawPicture_98 : decode cX10_drawPicture 98 = .ok (.aload_n 0, 1) := by decide +kernel
theorem dX10_drawPicture_99 : decode cX10_drawPicture 99 = .ok (.invokevirtual 265, 3) := by decide +kernel
theorem dX10_drawPicture_102 : decode cX10_drawPicture 102 = .ok (.istore 4, 2) := by decide +kernel
theorem dX10_drawPicture_104 : decode cX10_drawPicture 104 = .ok (.iload_n 3, 1) := by decide +kernel
theorem dX10_drawPicture_105 : decode cX10_drawPicture 105 = .ok (.ireturn, 1) := by decide +kernel
theorem dX10_clearCells_0 : decode cX10_clearCells 0 = .ok (.aload_n 0, 1) := by decide +kernel
theorem dX10_clearCells_1 : decode cX10_clearCells 1 = .ok (.iconst 0, 1) := by decide +kernel
theorem dX10_clearCells_2 : decode cX10_clearCells 2 = .ok (.invokevirtual 211, 3) := by decide +kernel
theorem dX10_clearCells_5 : decode cX10_clearCells 5 = .ok (.istore_n 1, 1) := by decide +kernel
theorem dX10_clearCells_6 : decode cX10_clearCells 6 = .ok (.aload_n 0, 1) := by decide +kernel
theorem dX10_clearCells_7 : decode cX10_clearCells 7 = .ok (.invokevirtual 165, 3) := by decide +kernel
theorem dX10_clearCells_10 : decode cX10_clearCells 10 = .ok (.aload_n 0, 1) := by decide +kernel
theorem dX10_clearCells_11 : decode cX10_clearCells 11 = .ok (.iconst 0, 1) := by decide +kernel
theorem dX10_clearCells_12 : decode cX10_clearCells 12 = .ok (.putfield 35, 3) := by decide +kernel
theorem dX10_clearCells_15 : decode cX10_clearCells 15 = .ok (.iload_n 1, 1) := by decide +kernel
theorem dX10_clearCells_16 : decode cX10_clearCells 16 = .ok (.ireturn, 1) := by decide +kernel
theorem dX10_appendText_0 : decode cX10_appendText 0 = .ok (.aload_n 0, 1) := by decide +kernel
theorem dX10_appendText_1 : decode cX10_appendText 1 = .ok (.iload_n 1, 1) := by decide +kernel
theorem dX10_appendText_2 : decode cX10_appendText 2 = .ok (.bipush 32, 2) := by decide +kernel
theorem dX10_appendText_4 : decode cX10_appendText 4 = .ok (.bipush 126, 2) := by decide +kernel
theorem dX10_appendText_6 : decode cX10_appendText 6 = .ok (.invokevirtual 172, 3) := by decide +kernel
theorem dX10_appendText_9 : decode cX10_appendText 9 = .ok (.ifCond .ne 6, 3) := by decide +kernel
theorem dX10_appendText_12 : decode cX10_appendText 12 = .ok (.bipush (-2), 2) := by decide +kernel
theorem dX10_appendText_14 : decode cX10_appendText 14 = .ok (.ireturn, 1) := by decide +kernel
theorem dX10_appendText_15 : decode cX10_appendText 15 = .ok (.aload_n 0, 1) := by decide +kernel
theorem dX10_appendText_16 : decode cX10_appendText 16 = .ok (.getfield 117, 3) := by decide +kernel
theorem dX10_appendText_19 : decode cX10_appendText 19 = .ok (.bipush 120, 2) := by decide +kernel
theorem dX10_appendText_21 : decode cX10_appendText 21 = .ok (.if_icmp .ne 6, 3) := by decide +kernel
theorem dX10_appendText_24 : decode cX10_appendText 24 = .ok (.bipush (-3), 2) := by decide +kernel
theorem dX10_appendText_26 : decode cX10_appendText 26 = .ok (.ireturn, 1) := by decide +kernel
theorem dX10_appendText_27 : decode cX10_appendText 27 = .ok (.aload_n 0, 1) := by decide +kernel
theorem dX10_appendText_28 : decode cX10_appendText 28 = .ok (.getfield 111, 3) := by decide +kernel
theorem dX10_appendText_31 : decode cX10_appendText 31 = .ok (.aload_n 0, 1) := by decide +kernel
theorem dX10_appendText_32 : decode cX10_appendText 32 = .ok (.getfield 117, 3) := by decide +kernel
theorem dX10_appendText_35 : decode cX10_appendText 35 = .ok (.iload_n 1, 1) := by decide +kernel
theorem dX10_appendText_36 : decode cX10_appendText 36 = .ok (.iastore, 1) := by decide +kernel
theorem dX10_appendText_37 : decode cX10_appendText 37 = .ok (.aload_n 0, 1) := by decide +kernel
theorem dX10_appendText_38 : decode cX10_appendText 38 = .ok (.dup, 1) := by decide +kernel
theorem dX10_appendText_39 : decode cX10_appendText 39 = .ok (.getfield 117, 3) := by decide +kernel
theorem dX10_appendText_42 : decode cX10_appendText 42 = .ok (.iconst 1, 1) := by decide +kernel
theorem dX10_appendText_43 : decode cX10_appendText 43 = .ok (.iadd, 1) := by decide +kernel
theorem dX10_appendText_44 : decode cX10_appendText 44 = .ok (.putfield 117, 3) := by decide +kernel
theorem dX10_appendText_47 : decode cX10_appendText 47 = .ok (.aload_n 0, 1) := by decide +kernel
theorem dX10_appendText_48 : decode cX10_appendText 48 = .ok (.getfield 117, 3) := by decide +kernel
theorem dX10_appendText_51 : decode cX10_appendText 51 = .ok (.ireturn, 1) := by decide +kernel
theorem dX10_read_0 : decode cX10_read 0 = .ok (.iconst 0, 1) := by decide +kernel
theorem dX10_read_1 : decode cX10_read 1 = .ok (.istore_n 2, 1) := by decide +kernel
theorem dX10_read_2 : decode cX10_read 2 = .ok (.iconst 0, 1) := by decide +kernel
theorem dX10_read_3 : decode cX10_read 3 = .ok (.istore_n 3, 1) := by decide +kernel
theorem dX10_read_4 : decode cX10_read 4 = .ok (.aload_n 0, 1) := by decide +kernel
theorem dX10_read_5 : decode cX10_read 5 = .ok (.getfield 123, 3) := by decide +kernel
theorem dX10_read_8 : decode cX10_read 8 = .ok (.iconst 0, 1) := by decide +kernel
theorem dX10_read_9 : decode cX10_read 9 = .ok (.iconst 0, 1) := by decide +kernel
theorem dX10_read_10 : decode cX10_read 10 = .ok (.iastore, 1) := by decide +kernel
theorem dX10_read_11 : decode cX10_read 11 = .ok (.iconst 0, 1) := by decide +kernel
theorem dX10_read_12 : decode cX10_read 12 = .ok (.istore 4, 2) := by decide +kernel
theorem dX10_read_14 : decode cX10_read 14 = .ok (.iload 4, 2) := by decide +kernel
theorem dX10_read_16 : decode cX10_read 16 = .ok (.iload_n 1, 1) := by decide +kernel
theorem dX10_read_17 : decode cX10_read 17 = .ok (.if_icmp .ge 166, 3) := by decide +kernel
theorem dX10_read_20 : decode cX10_read 20 = .ok (.aload_n 0, 1) := by decide +kernel
theorem dX10_read_21 : decode cX10_read 21 = .ok (.getfield 111, 3) := by decide +kernel
theorem dX10_read_24 : decode cX10_read 24 = .ok (.iload 4, 2) := by decide +kernel
theorem dX10_read_26 : decode cX10_read 26 = .ok (.iaload, 1) := by decide +kernel
theorem dX10_read_27 : decode cX10_read 27 = .ok (.istore 5, 2) := by decide +kernel
theorem dX10_read_29 : decode cX10_read 29 = .ok (.iload_n 3, 1) := by decide +kernel
theorem dX10_read_30 : decode cX10_read 30 = .ok (.ifCond .le 81, 3) := by decide +kernel
theorem dX10_read_33 : decode cX10_read 33 = .ok (.aload_n 0, 1) := by decide +kernel
theorem dX10_read_34 : decode cX10_read 34 = .ok (.iload 5, 2) := by decide +kernel
theorem dX10_read_36 : decode cX10_read 36 = .ok (.bipush 97, 2) := by decide +kernel
theorem dX10_read_38 : decode cX10_read 38 = .ok (.bipush 97, 2) := by decide +kernel
theorem dX10_read_40 : decode cX10_read 40 = .ok (.aload_n 0, 1) := by decide +kernel
theorem dX10_read_41 : decode cX10_read 41 = .ok (.getfield 16, 3) := by decide +kernel
theorem dX10_read_44 : decode cX10_read 44 = .ok (.iadd, 1) := by decide +kernel
theorem dX10_read_45 : decode cX10_read 45 = .ok (.iconst 1, 1) := by decide +kernel
theorem dX10_read_46 : decode cX10_read 46 = .ok (.isub, 1) := by decide +kernel
theorem dX10_read_47 : decode cX10_read 47 = .ok (.invokevirtual 172, 3) := by decide +kernel
theorem dX10_read_50 : decode cX10_read 50 = .ok (.ifCond .ne 6, 3) := by decide +kernel
theorem dX10_read_53 : decode cX10_read 53 = .ok (.iload 4, 2) := by decide +kernel
theorem dX10_read_55 : decode cX10_read 55 = .ok (.ireturn, 1) := by decide +kernel
theorem dX10_read_56 : decode cX10_read 56 = .ok (.aload_n 0, 1) := by decide +kernel
theorem dX10_read_57 : decode cX10_read 57 = .ok (.getfield 126, 3) := by decide +kernel
theorem dX10_read_60 : decode cX10_read 60 = .ok (.bipush 8, 2) := by decide +kernel
theorem dX10_read_62 : decode cX10_read 62 = .ok (.iload_n 2, 1) := by decide +kernel
theorem dX10_read_63 : decode cX10_read 63 = .ok (.imul, 1) := by decide +kernel
theorem dX10_read_64 : decode cX10_read 64 = .ok (.aload_n 0, 1) := by decide +kernel
theorem dX10_read_65 : decode cX10_read 65 = .ok (.getfield 123, 3) := by decide +kernel
theorem dX10_read_68 : decode cX10_read 68 = .ok (.iload_n 2, 1) := by decide +kernel
theorem dX10_read_69 : decode cX10_read 69 = .ok (.iaload, 1) := by decide +kernel
theorem dX10_read_70 : decode cX10_read 70 = .ok (.iadd, 1) := by decide +kernel
theorem dX10_read_71 : decode cX10_read 71 = .ok (.iload_n 3, 1) := by decide +kernel
theorem dX10_read_72 : decode cX10_read 72 = .ok (.iastore, 1) := by decide +kernel
theorem dX10_read_73 : decode cX10_read 73 = .ok (.aload_n 0, 1) := by decide +kernel
theorem dX10_read_74 : decode cX10_read 74 = .ok (.getfield 129, 3) := by decide +kernel
theorem dX10_read_77 : decode cX10_read 77 = .ok (.bipush 8, 2) := by decide +kernel
theorem dX10_read_79 : decode cX10_read 79 = .ok (.iload_n 2, 1) := by decide +kernel
theorem dX10_read_80 : decode cX10_read 80 = .ok (.imul, 1) := by decide +kernel
theorem dX10_read_81 : decode cX10_read 81 = .ok (.aload_n 0, 1) := by decide +kernel
theorem dX10_read_82 : decode cX10_read 82 = .ok (.getfield 123, 3) := by decide +kernel
theorem dX10_read_85 : decode cX10_read 85 = .ok (.iload_n 2, 1) := by decide +kernel
theorem dX10_read_86 : decode cX10_read 86 = .ok (.iaload, 1) := by decide +kernel
theorem dX10_read_87 : decode cX10_read 87 = .ok (.iadd, 1) := by decide +kernel
theorem dX10_read_88 : decode cX10_read 88 = .ok (.iload 5, 2) := by decide +kernel
theorem dX10_read_90 : decode cX10_read 90 = .ok (.bipush 97, 2) := by decide +kernel
theorem dX10_read_92 : decode cX10_read 92 = .ok (.isub, 1) := by decide +kernel
theorem dX10_read_93 : decode cX10_read 93 = .ok (.iconst 1, 1) := by decide +kernel
theorem dX10_read_94 : decode cX10_read 94 = .ok (.iadd, 1) := by decide +kernel
theorem dX10_read_95 : decode cX10_read 95 = .ok (.iastore, 1) := by decide +kernel
theorem dX10_read_96 : decode cX10_read 96 = .ok (.aload_n 0, 1) := by decide +kernel
theorem dX10_read_97 : decode cX10_read 97 = .ok (.getfield 123, 3) := by decide +kernel
theorem dX10_read_100 : decode cX10_read 100 = .ok (.iload_n 2, 1) := by decide +kernel
theorem dX10_read_101 : decode cX10_read 101 = .ok (.dup2, 1) := by decide +kernel
theorem dX10_read_102 : decode cX10_read 102 = .ok (.iaload, 1) := by decide +kernel
theorem dX10_read_103 : decode cX10_read 103 = .ok (.iconst 1, 1) := by decide +kernel
theorem dX10_read_104 : decode cX10_read 104 = .ok (.iadd, 1) := by decide +kernel
theorem dX10_read_105 : decode cX10_read 105 = .ok (.iastore, 1) := by decide +kernel
theorem dX10_read_106 : decode cX10_read 106 = .ok (.iconst 0, 1) := by decide +kernel
theorem dX10_read_107 : decode cX10_read 107 = .ok (.istore_n 3, 1) := by decide +kernel
theorem dX10_read_108 : decode cX10_read 108 = .ok (.goto 69, 3) := by decide +kernel
theorem dX10_read_111 : decode cX10_read 111 = .ok (.iload 5, 2) := by decide +kernel
theorem dX10_read_113 : decode cX10_read 113 = .ok (.bipush 47, 2) := by decide +kernel
theorem dX10_read_115 : decode cX10_read 115 = .ok (.if_icmp .ne 29, 3) := by decide +kernel
theorem dX10_read_118 : decode cX10_read 118 = .ok (.iload_n 2, 1) := by decide +kernel
theorem dX10_read_119 : decode cX10_read 119 = .ok (.aload_n 0, 1) := by decide +kernel
theorem dX10_read_120 : decode cX10_read 120 = .ok (.invokevirtual 168, 3) := by decide +kernel
theorem dX10_read_123 : decode cX10_read 123 = .ok (.iconst 1, 1) := by decide +kernel
theorem dX10_read_124 : decode cX10_read 124 = .ok (.isub, 1) := by decide +kernel
theorem dX10_read_125 : decode cX10_read 125 = .ok (.if_icmp .ne 6, 3) := by decide +kernel
theorem dX10_read_128 : decode cX10_read 128 = .ok (.iload 4, 2) := by decide +kernel
theorem dX10_read_130 : decode cX10_read 130 = .ok (.ireturn, 1) := by decide +kernel
theorem dX10_read_131 : decode cX10_read 131 = .ok (.iinc 2 1, 3) := by decide +kernel
theorem dX10_read_134 : decode cX10_read 134 = .ok (.aload_n 0, 1) := by decide +kernel
theorem dX10_read_135 : decode cX10_read 135 = .ok (.getfield 123, 3) := by decide +kernel
theorem dX10_read_138 : decode cX10_read 138 = .ok (.iload_n 2, 1) := by decide +kernel
theorem dX10_read_139 : decode cX10_read 139 = .ok (.iconst 0, 1) := by decide +kernel
theorem dX10_read_140 : decode cX10_read 140 = .ok (.iastore, 1) := by decide +kernel
theorem dX10_read_141 : decode cX10_read 141 = .ok (.goto 36, 3) := by decide +kernel
theorem dX10_read_144 : decode cX10_read 144 = .ok (.aload_n 0, 1) := by decide +kernel
theorem dX10_read_145 : decode cX10_read 145 = .ok (.iload 5, 2) := by decide +kernel
theorem dX10_read_147 : decode cX10_read 147 = .ok (.bipush 49, 2) := by decide +kernel
theorem dX10_read_149 : decode cX10_read 149 = .ok (.bipush 56, 2) := by decide +kernel
theorem dX10_read_151 : decode cX10_read 151 = .ok (.invokevirtual 172, 3) := by decide +kernel
theorem dX10_read_154 : decode cX10_read 154 = .ok (.ifCond .eq 14, 3) := by decide +kernel
theorem dX10_read_157 : decode cX10_read 157 = .ok (.aload_n 0, 1) := by decide +kernel
theorem dX10_read_158 : decode cX10_read 158 = .ok (.getfield 123, 3) := by decide +kernel
theorem dX10_read_161 : decode cX10_read 161 = .ok (.iload_n 2, 1) := by decide +kernel
theorem dX10_read_162 : decode cX10_read 162 = .ok (.iaload, 1) := by decide +kernel
theorem dX10_read_163 : decode cX10_read 163 = .ok (.bipush 8, 2) := by decide +kernel
theorem dX10_read_165 : decode cX10_read 165 = .ok (.if_icmp .ne 6, 3) := by decide +kernel
theorem dX10_read_168 : decode cX10_read 168 = .ok (.iload 4, 2) := by decide +kernel
theorem dX10_read_170 : decode cX10_read 170 = .ok (.ireturn, 1) := by decide +kernel
theorem dX10_read_171 : decode cX10_read 171 = .ok (.iload 5, 2) := by decide +kernel
theorem dX10_read_173 : decode cX10_read 173 = .ok (.bipush 48, 2) := by decide +kernel
theorem dX10_read_175 : decode cX10_read 175 = .ok (.isub, 1) := by decide +kernel
theorem dX10_read_176 : decode cX10_read 176 = .ok (.istore_n 3, 1) := by decide +kernel
theorem dX10_read_177 : decode cX10_read 177 = .ok (.iinc 4 1, 3) := by decide +kernel
theorem dX10_read_180 : decode cX10_read 180 = .ok (.goto (-166), 3) := by decide +kernel
theorem dX10_read_183 : decode cX10_read 183 = .ok (.iload_n 3, 1) := by decide +kernel
theorem dX10_read_184 : decode cX10_read 184 = .ok (.ifCond .gt 13, 3) := by decide +kernel
theorem dX10_read_187 : decode cX10_read 187 = .ok (.iload_n 2, 1) := by decide +kernel
theorem dX10_read_188 : decode cX10_read 188 = .ok (.aload_n 0, 1) := by decide +kernel
theorem dX10_read_189 : decode cX10_read 189 = .ok (.invokevirtual 168, 3) := by decide +kernel
theorem dX10_read_192 : decode cX10_read 192 = .ok (.iconst 1, 1) := by decide +kernel
theorem dX10_read_193 : decode cX10_read 193 = .ok (.isub, 1) := by decide +kernel
theorem dX10_read_194 : decode cX10_read 194 = .ok (.if_icmp .ge 7, 3) := by decide +kernel
theorem dX10_read_197 : decode cX10_read 197 = .ok (.iload_n 1, 1) := by decide +kernel
theorem dX10_read_198 : decode cX10_read 198 = .ok (.goto 4, 3) := by decide +kernel
theorem dX10_read_201 : decode cX10_read 201 = .ok (.iconst (-1), 1) := by decide +kernel
theorem dX10_read_202 : decode cX10_read 202 = .ok (.ireturn, 1) := by decide +kernel
theorem dX10_parseClues_0 : decode cX10_parseClues 0 = .ok (.aload_n 0, 1) := by decide +kernel
theorem dX10_parseClues_1 : decode cX10_parseClues 1 = .ok (.aload_n 0, 1) := by decide +kernel
theorem dX10_parseClues_2 : decode cX10_parseClues 2 = .ok (.getfield 117, 3) := by decide +kernel
theorem dX10_parseClues_5 : decode cX10_parseClues 5 = .ok (.invokevirtual 269, 3) := by decide +kernel
theorem dX10_parseClues_8 : decode cX10_parseClues 8 = .ok (.istore_n 1, 1) := by decide +kernel
theorem dX10_parseClues_9 : decode cX10_parseClues 9 = .ok (.aload_n 0, 1) := by decide +kernel
theorem dX10_parseClues_10 : decode cX10_parseClues 10 = .ok (.iconst 0, 1) := by decide +kernel
theorem dX10_parseClues_11 : decode cX10_parseClues 11 = .ok (.putfield 117, 3) := by decide +kernel
theorem dX10_parseClues_14 : decode cX10_parseClues 14 = .ok (.iload_n 1, 1) := by decide +kernel
theorem dX10_parseClues_15 : decode cX10_parseClues 15 = .ok (.ifCond .lt 8, 3) := by decide +kernel
theorem dX10_parseClues_18 : decode cX10_parseClues 18 = .ok (.bipush (-100), 2) := by decide +kernel
theorem dX10_parseClues_20 : decode cX10_parseClues 20 = .ok (.iload_n 1, 1) := by decide +kernel
theorem dX10_parseClues_21 : decode cX10_parseClues 21 = .ok (.isub, 1) := by decide +kernel
theorem dX10_parseClues_22 : decode cX10_parseClues 22 = .ok (.ireturn, 1) := by decide +kernel
theorem dX10_parseClues_23 : decode cX10_parseClues 23 = .ok (.aload_n 0, 1) := by decide +kernel
theorem dX10_parseClues_24 : decode cX10_parseClues 24 = .ok (.invokevirtual 184, 3) := by decide +kernel
theorem dX10_parseClues_27 : decode cX10_parseClues 27 = .ok (.iconst 0, 1) := by decide +kernel
theorem dX10_parseClues_28 : decode cX10_parseClues 28 = .ok (.istore_n 2, 1) := by decide +kernel
theorem dX10_parseClues_29 : decode cX10_parseClues 29 = .ok (.iconst 0, 1) := by decide +kernel
theorem dX10_parseClues_30 : decode cX10_parseClues 30 = .ok (.istore_n 3, 1) := by decide +kernel
theorem dX10_parseClues_31 : decode cX10_parseClues 31 = .ok (.iload_n 3, 1) := by decide +kernel
theorem dX10_parseClues_32 : decode cX10_parseClues 32 = .ok (.aload_n 0, 1) := by decide +kernel
theorem dX10_parseClues_33 : decode cX10_parseClues 33 = .ok (.invokevirtual 168, 3) := by decide +kernel
theorem dX10_parseClues_36 : decode cX10_parseClues 36 = .ok (.if_icmp .ge 74, 3) := by decide +kernel
theorem dX10_parseClues_39 : decode cX10_parseClues 39 = .ok (.aload_n 0, 1) := by decide +kernel
theorem dX10_parseClues_40 : decode cX10_parseClues 40 = .ok (.getfield 26, 3) := by decide +kernel
theorem dX10_parseClues_43 : decode cX10_parseClues 43 = .ok (.iload_n 3, 1) := by decide +kernel
theorem dX10_parseClues_44 : decode cX10_parseClues 44 = .ok (.iconst 0, 1) := by decide +kernel
theorem dX10_parseClues_45 : decode cX10_parseClues 45 = .ok (.iastore, 1) := by decide +kernel
theorem dX10_parseClues_46 : decode cX10_parseClues 46 = .ok (.iconst 0, 1) := by decide +kernel
theorem dX10_parseClues_47 : decode cX10_parseClues 47 = .ok (.istore 4, 2) := by decide +kernel
theorem dX10_parseClues_49 : decode cX10_parseClues 49 = .ok (.iload 4, 2) := by decide +kernel
theorem dX10_parseClues_51 : decode cX10_parseClues 51 = .ok (.aload_n 0, 1) := by decide +kernel
theorem dX10_parseClues_52 : decode cX10_parseClues 52 = .ok (.getfield 123, 3) := by decide +kernel
theorem dX10_parseClues_55 : decode cX10_parseClues 55 = .ok (.iload_n 3, 1) := by decide +kernel
theorem dX10_parseClues_56 : decode cX10_parseClues 56 = .ok (.iaload, 1) := by decide +kernel
theorem dX10_parseClues_57 : decode cX10_parseClues 57 = .ok (.if_icmp .ge 38, 3) := by decide +kernel
theorem dX10_parseClues_60 : decode cX10_parseClues 60 = .ok (.aload_n 0, 1) := by decide +kernel
theorem dX10_parseClues_61 : decode cX10_parseClues 61 = .ok (.iload_n 3, 1) := by decide +kernel
theorem dX10_parseClues_62 : decode cX10_parseClues 62 = .ok (.aload_n 0, 1) := by decide +kernel
theorem dX10_parseClues_63 : decode cX10_parseClues 63 = .ok (.getfield 126, 3) := by decide +kernel
theorem dX10_parseClues_66 : decode cX10_parseClues 66 = .ok (.bipush 8, 2) := by decide +kernel
theorem dX10_parseClues_68 : decode cX10_parseClues 68 = .ok (.iload_n 3, 1) := by decide +kernel
theorem dX10_parseClues_69 : decode cX10_parseClues 69 = .ok (.imul, 1) := by decide +kernel
theorem dX10_parseClues_70 : decode cX10_parseClues 70 = .ok (.iload 4, 2) := by decide +kernel
theorem dX10_parseClues_72 : decode cX10_parseClues 72 = .ok (.iadd, 1) := by decide +kernel
theorem dX10_parseClues_73 : decode cX10_parseClues 73 = .ok (.iaload, 1) := by decide +kernel
theorem dX10_parseClues_74 : decode cX10_parseClues 74 = .ok (.aload_n 0, 1) := by decide +kernel
theorem dX10_parseClues_75 : decode cX10_parseClues 75 = .ok (.getfield 129, 3) := by decide +kernel
theorem dX10_parseClues_78 : decode cX10_parseClues 78 = .ok (.bipush 8, 2) := by decide +kernel
theorem dX10_parseClues_80 : decode cX10_parseClues 80 = .ok (.iload_n 3, 1) := by decide +kernel
theorem dX10_parseClues_81 : decode cX10_parseClues 81 = .ok (.imul, 1) := by decide +kernel
theorem dX10_parseClues_82 : decode cX10_parseClues 82 = .ok (.iload 4, 2) := by decide +kernel
theorem dX10_parseClues_84 : decode cX10_parseClues 84 = .ok (.iadd, 1) := by decide +kernel
theorem dX10_parseClues_85 : decode cX10_parseClues 85 = .ok (.iaload, 1) := by decide +kernel
theorem dX10_parseClues_86 : decode cX10_parseClues 86 = .ok (.invokevirtual 187, 3) := by decide +kernel
theorem dX10_parseClues_89 : decode cX10_parseClues 89 = .ok (.iinc 4 1, 3) := by decide +kernel
theorem dX10_parseClues_92 : decode cX10_parseClues 92 = .ok (.goto (-43), 3) := by decide +kernel
theorem dX10_parseClues_95 : decode cX10_parseClues 95 = .ok (.iload_n 2, 1) := by decide +kernel
theorem dX10_parseClues_96 : decode cX10_parseClues 96 = .ok (.aload_n 0, 1) := by decide +kernel
theorem dX10_parseClues_97 : decode cX10_parseClues 97 = .ok (.getfield 26, 3) := by decide +kernel
theorem dX10_parseClues_100 : decode cX10_parseClues 100 = .ok (.iload_n 3, 1) := by decide +kernel
theorem dX10_parseClues_101 : decode cX10_parseClues 101 = .ok (.iaload, 1) := by decide +kernel
theorem dX10_parseClues_102 : decode cX10_parseClues 102 = .ok (.iadd, 1) := by decide +kernel
theorem dX10_parseClues_103 : decode cX10_parseClues 103 = .ok (.istore_n 2, 1) := by decide +kernel
theorem dX10_parseClues_104 : decode cX10_parseClues 104 = .ok (.iinc 3 1, 3) := by decide +kernel
theorem dX10_parseClues_107 : decode cX10_parseClues 107 = .ok (.goto (-76), 3) := by decide +kernel
theorem dX10_parseClues_110 : decode cX10_parseClues 110 = .ok (.iload_n 2, 1) := by decide +kernel
theorem dX10_parseClues_111 : decode cX10_parseClues 111 = .ok (.ireturn, 1) := by decide +kernel
theorem dX10_say_0 : decode cX10_say 0 = .ok (.aload_n 0, 1) := by decide +kernel
theorem dX10_say_1 : decode cX10_say 1 = .ok (.getfield 114, 3) := by decide +kernel
theorem dX10_say_4 : decode cX10_say 4 = .ok (.aload_n 0, 1) := by decide +kernel
theorem dX10_say_5 : decode cX10_say 5 = .ok (.getfield 120, 3) := by decide +kernel
theorem dX10_say_8 : decode cX10_say 8 = .ok (.iload_n 1, 1) := by decide +kernel
theorem dX10_say_9 : decode cX10_say 9 = .ok (.iastore, 1) := by decide +kernel
theorem dX10_say_10 : decode cX10_say 10 = .ok (.aload_n 0, 1) := by decide +kernel
theorem dX10_say_11 : decode cX10_say 11 = .ok (.dup, 1) := by decide +kernel
theorem dX10_say_12 : decode cX10_say 12 = .ok (.getfield 120, 3) := by decide +kernel
theorem dX10_say_15 : decode cX10_say 15 = .ok (.iconst 1, 1) := by decide +kernel
theorem dX10_say_16 : decode cX10_say 16 = .ok (.iadd, 1) := by decide +kernel
theorem dX10_say_17 : decode cX10_say 17 = .ok (.putfield 120, 3) := by decide +kernel
theorem dX10_say_20 : decode cX10_say 20 = .ok (.return_, 1) := by decide +kernel
theorem dX10_formatClues_0 : decode cX10_formatClues 0 = .ok (.aload_n 0, 1) := by decide +kernel
theorem dX10_formatClues_1 : decode cX10_formatClues 1 = .ok (.iconst 0, 1) := by decide +kernel
theorem dX10_formatClues_2 : decode cX10_formatClues 2 = .ok (.putfield 120, 3) := by decide +kernel
theorem dX10_formatClues_5 : decode cX10_formatClues 5 = .ok (.iconst 0, 1) := by decide +kernel
theorem dX10_formatClues_6 : decode cX10_formatClues 6 = .ok (.istore_n 1, 1) := by decide +kernel
theorem dX10_formatClues_7 : decode cX10_formatClues 7 = .ok (.iload_n 1, 1) := by decide +kernel
theorem dX10_formatClues_8 : decode cX10_formatClues 8 = .ok (.aload_n 0, 1) := by decide +kernel
theorem dX10_formatClues_9 : decode cX10_formatClues 9 = .ok (.invokevirtual 168, 3) := by decide +kernel
theorem dX10_formatClues_12 : decode cX10_formatClues 12 = .ok (.if_icmp .ge 75, 3) := by decide +kernel
theorem dX10_formatClues_15 : decode cX10_formatClues 15 = .ok (.iload_n 1, 1) := by decide +kernel
theorem dX10_formatClues_16 : decode cX10_formatClues 16 = .ok (.ifCond .le 9, 3) := by decide +kernel
theorem dX10_formatClues_19 : decode cX10_formatClues 19 = .ok (.aload_n 0, 1) := by decide +kernel
theorem dX10_formatClues_20 : decode cX10_formatClues 20 = .ok (.bipush 47, 2) := by decide +kernel
theorem dX10_formatClues_22 : decode cX10_formatClues 22 = .ok (.invokevirtual 272, 3) := by decide +kernel
theorem dX10_formatClues_25 : decode cX10_formatClues 25 = .ok (.iconst 0, 1) := by decide +kernel
theorem dX10_formatClues_26 : decode cX10_formatClues 26 = .ok (.istore_n 2, 1) := by decide +kernel
theorem dX10_formatClues_27 : decode cX10_formatClues 27 = .ok (.iload_n 2, 1) := by decide +kernel
theorem dX10_formatClues_28 : decode cX10_formatClues 28 = .ok (.aload_n 0, 1) := by decide +kernel
theorem dX10_formatClues_29 : decode cX10_formatClues 29 = .ok (.getfield 26, 3) := by decide +kernel
theorem dX10_formatClues_32 : decode cX10_formatClues 32 = .ok (.iload_n 1, 1) := by decide +kernel
theorem dX10_formatClues_33 : decode cX10_formatClues 33 = .ok (.iaload, 1) := by decide +kernel
theorem dX10_formatClues_34 : decode cX10_formatClues 34 = .ok (.if_icmp .ge 47, 3) := by decide +kernel
theorem dX10_formatClues_37 : decode cX10_formatClues 37 = .ok (.aload_n 0, 1) := by decide +kernel
theorem dX10_formatClues_38 : decode cX10_formatClues 38 = .ok (.bipush 48, 2) := by decide +kernel
theorem dX10_formatClues_40 : decode cX10_formatClues 40 = .ok (.aload_n 0, 1) := by decide +kernel
theorem dX10_formatClues_41 : decode cX10_formatClues 41 = .ok (.getfield 29, 3) := by decide +kernel
theorem dX10_formatClues_44 : decode cX10_formatClues 44 = .ok (.bipush 8, 2) := by decide +kernel
theorem dX10_formatClues_46 : decode cX10_formatClues 46 = .ok (.iload_n 1, 1) := by decide +kernel
theorem dX10_formatClues_47 : decode cX10_formatClues 47 = .ok (.imul, 1) := by decide +kernel
theorem dX10_formatClues_48 : decode cX10_formatClues 48 = .ok (.iload_n 2, 1) := by decide +kernel
theorem dX10_formatClues_49 : decode cX10_formatClues 49 = .ok (.iadd, 1) := by decide +kernel
theorem dX10_formatClues_50 : decode cX10_formatClues 50 = .ok (.iaload, 1) := by decide +kernel
theorem dX10_formatClues_51 : decode cX10_formatClues 51 = .ok (.iadd, 1) := by decide +kernel
theorem dX10_formatClues_52 : decode cX10_formatClues 52 = .ok (.invokevirtual 272, 3) := by decide +kernel
theorem dX10_formatClues_55 : decode cX10_formatClues 55 = .ok (.aload_n 0, 1) := by decide +kernel
theorem dX10_formatClues_56 : decode cX10_formatClues 56 = .ok (.bipush 97, 2) := by decide +kernel
theorem dX10_formatClues_58 : decode cX10_formatClues 58 = .ok (.aload_n 0, 1) := by decide +kernel
theorem dX10_formatClues_59 : decode cX10_formatClues 59 = .ok (.getfield 32, 3) := by decide +kernel
theorem dX10_formatClues_62 : decode cX10_formatClues 62 = .ok (.bipush 8, 2) := by decide +kernel
theorem dX10_formatClues_64 : decode cX10_formatClues 64 = .ok (.iload_n 1, 1) := by decide +kernel
theorem dX10_formatClues_65 : decode cX10_formatClues 65 = .ok (.imul, 1) := by decide +kernel
theorem dX10_formatClues_66 : decode cX10_formatClues 66 = .ok (.iload_n 2, 1) := by decide +kernel
theorem dX10_formatClues_67 : decode cX10_formatClues 67 = .ok (.iadd, 1) := by decide +kernel
theorem dX10_formatClues_68 : decode cX10_formatClues 68 = .ok (.iaload, 1) := by decide +kernel
theorem dX10_formatClues_69 : decode cX10_formatClues 69 = .ok (.iadd, 1) := by decide +kernel
theorem dX10_formatClues_70 : decode cX10_formatClues 70 = .ok (.iconst 1, 1) := by decide +kernel
theorem dX10_formatClues_71 : decode cX10_formatClues 71 = .ok (.isub, 1) := by decide +kernel
theorem dX10_formatClues_72 : decode cX10_formatClues 72 = .ok (.invokevirtual 272, 3) := by decide +kernel
theorem dX10_formatClues_75 : decode cX10_formatClues 75 = .ok (.iinc 2 1, 3) := by decide +kernel
theorem dX10_formatClues_78 : decode cX10_formatClues 78 = .ok (.goto (-51), 3) := by decide +kernel
theorem dX10_formatClues_81 : decode cX10_formatClues 81 = .ok (.iinc 1 1, 3) := by decide +kernel
theorem dX10_formatClues_84 : decode cX10_formatClues 84 = .ok (.goto (-77), 3) := by decide +kernel
theorem dX10_formatClues_87 : decode cX10_formatClues 87 = .ok (.aload_n 0, 1) := by decide +kernel
theorem dX10_formatClues_88 : decode cX10_formatClues 88 = .ok (.getfield 120, 3) := by decide +kernel
theorem dX10_formatClues_91 : decode cX10_formatClues 91 = .ok (.ireturn, 1) := by decide +kernel
theorem dX10_formattedCharacter_0 : decode cX10_formattedCharacter 0 = .ok (.aload_n 0, 1) := by decide +kernel
theorem dX10_formattedCharacter_1 : decode cX10_formattedCharacter 1 = .ok (.iload_n 1, 1) := by decide +kernel
theorem dX10_formattedCharacter_2 : decode cX10_formattedCharacter 2 = .ok (.iconst 0, 1) := by decide +kernel
theorem dX10_formattedCharacter_3 : decode cX10_formattedCharacter 3 = .ok (.aload_n 0, 1) := by decide +kernel
theorem dX10_formattedCharacter_4 : decode cX10_formattedCharacter 4 = .ok (.getfield 120, 3) := by decide +kernel
theorem dX10_formattedCharacter_7 : decode cX10_formattedCharacter 7 = .ok (.iconst 1, 1) := by decide +kernel
theorem dX10_formattedCharacter_8 : decode cX10_formattedCharacter 8 = .ok (.isub, 1) := by decide +kernel
theorem dX10_formattedCharacter_9 : decode cX10_formattedCharacter 9 = .ok (.invokevirtual 172, 3) := by decide +kernel
theorem dX10_formattedCharacter_12 : decode cX10_formattedCharacter 12 = .ok (.ifCond .eq 12, 3) := by decide +kernel
theorem dX10_formattedCharacter_15 : decode cX10_formattedCharacter 15 = .ok (.aload_n 0, 1) := by decide +kernel
theorem dX10_formattedCharacter_16 : decode cX10_formattedCharacter 16 = .ok (.getfield 114, 3) := by decide +kernel
theorem dX10_formattedCharacter_19 : decode cX10_formattedCharacter 19 = .ok (.iload_n 1, 1) := by decide +kernel
theorem dX10_formattedCharacter_20 : decode cX10_formattedCharacter 20 = .ok (.iaload, 1) := by decide +kernel
theorem dX10_formattedCharacter_21 : decode cX10_formattedCharacter 21 = .ok (.goto 4, 3) := by decide +kernel
theorem dX10_formattedCharacter_24 : decode cX10_formattedCharacter 24 = .ok (.iconst (-1), 1) := by decide +kernel
theorem dX10_formattedCharacter_25 : decode cX10_formattedCharacter 25 = .ok (.ireturn, 1) := by decide +kernel
theorem dX10_save_0 : decode cX10_save 0 = .ok (.aload_n 0, 1) := by decide +kernel
theorem dX10_save_1 : decode cX10_save 1 = .ok (.iconst 1, 1) := by decide +kernel
theorem dX10_save_2 : decode cX10_save 2 = .ok (.putfield 132, 3) := by decide +kernel
theorem dX10_save_5 : decode cX10_save 5 = .ok (.aload_n 0, 1) := by decide +kernel
theorem dX10_save_6 : decode cX10_save 6 = .ok (.aload_n 0, 1) := by decide +kernel
theorem dX10_save_7 : decode cX10_save 7 = .ok (.getfield 7, 3) := by decide +kernel
theorem dX10_save_10 : decode cX10_save 10 = .ok (.putfield 135, 3) := by decide +kernel
theorem dX10_save_13 : decode cX10_save 13 = .ok (.aload_n 0, 1) := by decide +kernel
theorem dX10_save_14 : decode cX10_save 14 = .ok (.aload_n 0, 1) := by decide +kernel
theorem dX10_save_15 : decode cX10_save 15 = .ok (.getfield 13, 3) := by decide +kernel
theorem dX10_save_18 : decode cX10_save 18 = .ok (.putfield 138, 3) := by decide +kernel
theorem dX10_save_21 : decode cX10_save 21 = .ok (.aload_n 0, 1) := by decide +kernel
theorem dX10_save_22 : decode cX10_save 22 = .ok (.aload_n 0, 1) := by decide +kernel
theorem dX10_save_23 : decode cX10_save 23 = .ok (.getfield 16, 3) := by decide +kernel
theorem dX10_save_26 : decode cX10_save 26 = .ok (.putfield 141, 3) := by decide +kernel
theorem dX10_save_29 : decode cX10_save 29 = .ok (.iconst 0, 1) := by decide +kernel
theorem dX10_save_30 : decode cX10_save 30 = .ok (.istore_n 1, 1) := by decide +kernel
theorem dX10_save_31 : decode cX10_save 31 = .ok (.iload_n 1, 1) := by decide +kernel
theorem dX10_save_32 : decode cX10_save 32 = .ok (.bipush 64, 2) := by decide +kernel
theorem dX10_save_34 : decode cX10_save 34 = .ok (.if_icmp .ge 21, 3) := by decide +kernel
theorem dX10_save_37 : decode cX10_save 37 = .ok (.aload_n 0, 1) := by decide +kernel
theorem dX10_save_38 : decode cX10_save 38 = .ok (.getfield 144, 3) := by decide +kernel
theorem dX10_save_41 : decode cX10_save 41 = .ok (.iload_n 1, 1) := by decide +kernel
theorem dX10_save_42 : decode cX10_save 42 = .ok (.aload_n 0, 1) := by decide +kernel
theorem dX10_save_43 : decode cX10_save 43 = .ok (.getfield 22, 3) := by decide +kernel
theorem dX10_save_46 : decode cX10_save 46 = .ok (.iload_n 1, 1) := by decide +kernel
theorem dX10_save_47 : decode cX10_save 47 = .ok (.iaload, 1) := by decide +kernel
theorem dX10_save_48 : decode cX10_save 48 = .ok (.iastore, 1) := by decide +kernel
theorem dX10_save_49 : decode cX10_save 49 = .ok (.iinc 1 1, 3) := by decide +kernel
theorem dX10_save_52 : decode cX10_save 52 = .ok (.goto (-21), 3) := by decide +kernel
theorem dX10_save_55 : decode cX10_save 55 = .ok (.iconst 0, 1) := by decide +kernel
theorem dX10_save_56 : decode cX10_save 56 = .ok (.istore_n 1, 1) := by decide +kernel
theorem dX10_save_57 : decode cX10_save 57 = .ok (.iload_n 1, 1) := by decide +kernel
theorem dX10_save_58 : decode cX10_save 58 = .ok (.bipush 16, 2) := by decide +kernel
theorem dX10_save_60 : decode cX10_save 60 = .ok (.if_icmp .ge 21, 3) := by decide +kernel
theorem dX10_save_63 : decode cX10_save 63 = .ok (.aload_n 0, 1) := by decide +kernel
theorem dX10_save_64 : decode cX10_save 64 = .ok (.getfield 147, 3) := by decide +kernel
theorem dX10_save_67 : decode cX10_save 67 = .ok (.iload_n 1, 1) := by decide +kernel
theorem dX10_save_68 : decode cX10_save 68 = .ok (.aload_n 0, 1) := by decide +kernel
theorem dX10_save_69 : decode cX10_save 69 = .ok (.getfield 26, 3) := by decide +kernel
theorem dX10_save_72 : decode cX10_save 72 = .ok (.iload_n 1, 1) := by decide +kernel
theorem dX10_save_73 : decode cX10_save 73 = .ok (.iaload, 1) := by decide +kernel
theorem dX10_save_74 : decode cX10_save 74 = .ok (.iastore, 1) := by decide +kernel
theorem dX10_save_75 : decode cX10_save 75 = .ok (.iinc 1 1, 3) := by decide +kernel
theorem dX10_save_78 : decode cX10_save 78 = .ok (.goto (-21), 3) := by decide +kernel
theorem dX10_save_81 : decode cX10_save 81 = .ok (.iconst 0, 1) := by decide +kernel
theorem dX10_save_82 : decode cX10_save 82 = .ok (.istore_n 1, 1) := by decide +kernel
theorem dX10_save_83 : decode cX10_save 83 = .ok (.iload_n 1, 1) := by decide +kernel
theorem dX10_save_84 : decode cX10_save 84 = .ok (.sipush 128, 3) := by decide +kernel
theorem dX10_save_87 : decode cX10_save 87 = .ok (.if_icmp .ge 33, 3) := by decide +kernel
theorem dX10_save_90 : decode cX10_save 90 = .ok (.aload_n 0, 1) := by decide +kernel
theorem dX10_save_91 : decode cX10_save 91 = .ok (.getfield 150, 3) := by decide +kernel
theorem dX10_save_94 : decode cX10_save 94 = .ok (.iload_n 1, 1) := by decide +kernel
theorem dX10_save_95 : decode cX10_save 95 = .ok (.aload_n 0, 1) := by decide +kernel
theorem dX10_save_96 : decode cX10_save 96 = .ok (.getfield 29, 3) := by decide +kernel
theorem dX10_save_99 : decode cX10_save 99 = .ok (.iload_n 1, 1) := by decide +kernel
theorem dX10_save_100 : decode cX10_save 100 = .ok (.iaload, 1) := by decide +kernel
theorem dX10_save_101 : decode cX10_save 101 = .ok (.iastore, 1) := by decide +kernel
theorem dX10_save_102 : decode cX10_save 102 = .ok (.aload_n 0, 1) := by decide +kernel
theorem dX10_save_103 : decode cX10_save 103 = .ok (.getfield 153, 3) := by decide +kernel
theorem dX10_save_106 : decode cX10_save 106 = .ok (.iload_n 1, 1) := by decide +kernel
theorem dX10_save_107 : decode cX10_save 107 = .ok (.aload_n 0, 1) := by decide +kernel
theorem dX10_save_108 : decode cX10_save 108 = .ok (.getfield 32, 3) := by decide +kernel
theorem dX10_save_111 : decode cX10_save 111 = .ok (.iload_n 1, 1) := by decide +kernel
theorem dX10_save_112 : decode cX10_save 112 = .ok (.iaload, 1) := by decide +kernel
theorem dX10_save_113 : decode cX10_save 113 = .ok (.iastore, 1) := by decide +kernel
theorem dX10_save_114 : decode cX10_save 114 = .ok (.iinc 1 1, 3) := by decide +kernel
theorem dX10_save_117 : decode cX10_save 117 = .ok (.goto (-34), 3) := by decide +kernel
theorem dX10_save_120 : decode cX10_save 120 = .ok (.aload_n 0, 1) := by decide +kernel
theorem dX10_save_121 : decode cX10_save 121 = .ok (.iconst 0, 1) := by decide +kernel
theorem dX10_save_122 : decode cX10_save 122 = .ok (.invokevirtual 211, 3) := by decide +kernel
theorem dX10_save_125 : decode cX10_save 125 = .ok (.ireturn, 1) := by decide +kernel
theorem dX10_restore_0 : decode cX10_restore 0 = .ok (.aload_n 0, 1) := by decide +kernel
theorem dX10_restore_1 : decode cX10_restore 1 = .ok (.getfield 132, 3) := by decide +kernel
theorem dX10_restore_4 : decode cX10_restore 4 = .ok (.ifCond .ne 6, 3) := by decide +kernel
theorem dX10_restore_7 : decode cX10_restore 7 = .ok (.bipush (-8), 2) := by decide +kernel
theorem dX10_restore_9 : decode cX10_restore 9 = .ok (.ireturn, 1) := by decide +kernel
theorem dX10_restore_10 : decode cX10_restore 10 = .ok (.aload_n 0, 1) := by decide +kernel
theorem dX10_restore_11 : decode cX10_restore 11 = .ok (.aload_n 0, 1) := by decide +kernel
theorem dX10_restore_12 : decode cX10_restore 12 = .ok (.getfield 135, 3) := by decide +kernel
theorem dX10_restore_15 : decode cX10_restore 15 = .ok (.putfield 7, 3) := by decide +kernel
theorem dX10_restore_18 : decode cX10_restore 18 = .ok (.aload_n 0, 1) := by decide +kernel
theorem dX10_restore_19 : decode cX10_restore 19 = .ok (.aload_n 0, 1) := by decide +kernel
theorem dX10_restore_20 : decode cX10_restore 20 = .ok (.getfield 138, 3) := by decide +kernel
theorem dX10_restore_23 : decode cX10_restore 23 = .ok (.putfield 13, 3) := by decide +kernel
theorem dX10_restore_26 : decode cX10_restore 26 = .ok (.aload_n 0, 1) := by decide +kernel
theorem dX10_restore_27 : decode cX10_restore 27 = .ok (.aload_n 0, 1) := by decide +kernel
theorem dX10_restore_28 : decode cX10_restore 28 = .ok (.getfield 141, 3) := by decide +kernel
theorem dX10_restore_31 : decode cX10_restore 31 = .ok (.putfield 16, 3) := by decide +kernel
theorem dX10_restore_34 : decode cX10_restore 34 = .ok (.iconst 0, 1) := by decide +kernel
theorem dX10_restore_35 : decode cX10_restore 35 = .ok (.istore_n 1, 1) := by decide +kernel
theorem dX10_restore_36 : decode cX10_restore 36 = .ok (.iload_n 1, 1) := by decide +kernel
theorem dX10_restore_37 : decode cX10_restore 37 = .ok (.bipush 64, 2) := by decide +kernel
theorem dX10_restore_39 : decode cX10_restore 39 = .ok (.if_icmp .ge 21, 3) := by decide +kernel
theorem dX10_restore_42 : decode cX10_restore 42 = .ok (.aload_n 0, 1) := by decide +kernel
theorem dX10_restore_43 : decode cX10_restore 43 = .ok (.getfield 22, 3) := by decide +kernel
theorem dX10_restore_46 : decode cX10_restore 46 = .ok (.iload_n 1, 1) := by decide +kernel
theorem dX10_restore_47 : decode cX10_restore 47 = .ok (.aload_n 0, 1) := by decide +kernel
theorem dX10_restore_48 : decode cX10_restore 48 = .ok (.getfield 144, 3) := by decide +kernel
theorem dX10_restore_51 : decode cX10_restore 51 = .ok (.iload_n 1, 1) := by decide +kernel
theorem dX10_restore_52 : decode cX10_restore 52 = .ok (.iaload, 1) := by decide +kernel
theorem dX10_restore_53 : decode cX10_restore 53 = .ok (.iastore, 1) := by decide +kernel
theorem dX10_restore_54 : decode cX10_restore 54 = .ok (.iinc 1 1, 3) := by decide +kernel
theorem dX10_restore_57 : decode cX10_restore 57 = .ok (.goto (-21), 3) := by decide +kernel
theorem dX10_restore_60 : decode cX10_restore 60 = .ok (.iconst 0, 1) := by decide +kernel
theorem dX10_restore_61 : decode cX10_restore 61 = .ok (.istore_n 1, 1) := by decide +kernel
theorem dX10_restore_62 : decode cX10_restore 62 = .ok (.iload_n 1, 1) := by decide +kernel
theorem dX10_restore_63 : decode cX10_restore 63 = .ok (.bipush 16, 2) := by decide +kernel
theorem dX10_restore_65 : decode cX10_restore 65 = .ok (.if_icmp .ge 21, 3) := by decide +kernel
theorem dX10_restore_68 : decode cX10_restore 68 = .ok (.aload_n 0, 1) := by decide +kernel
theorem dX10_restore_69 : decode cX10_restore 69 = .ok (.getfield 26, 3) := by decide +kernel
theorem dX10_restore_72 : decode cX10_restore 72 = .ok (.iload_n 1, 1) := by decide +kernel
theorem dX10_restore_73 : decode cX10_restore 73 = .ok (.aload_n 0, 1) := by decide +kernel
theorem dX10_restore_74 : decode cX10_restore 74 = .ok (.getfield 147, 3) := by decide +kernel
theorem dX10_restore_77 : decode cX10_restore 77 = .ok (.iload_n 1, 1) := by decide +kernel
theorem dX10_restore_78 : decode cX10_restore 78 = .ok (.iaload, 1) := by decide +kernel
theorem dX10_restore_79 : decode cX10_restore 79 = .ok (.iastore, 1) := by decide +kernel
theorem dX10_restore_80 : decode cX10_restore 80 = .ok (.iinc 1 1, 3) := by decide +kernel
theorem dX10_restore_83 : decode cX10_restore 83 = .ok (.goto (-21), 3) := by decide +kernel
theorem dX10_restore_86 : decode cX10_restore 86 = .ok (.iconst 0, 1) := by decide +kernel
theorem dX10_restore_87 : decode cX10_restore 87 = .ok (.istore_n 1, 1) := by decide +kernel
theorem dX10_restore_88 : decode cX10_restore 88 = .ok (.iload_n 1, 1) := by decide +kernel
theorem dX10_restore_89 : decode cX10_restore 89 = .ok (.sipush 128, 3) := by decide +kernel
theorem dX10_restore_92 : decode cX10_restore 92 = .ok (.if_icmp .ge 33, 3) := by decide +kernel
theorem dX10_restore_95 : decode cX10_restore 95 = .ok (.aload_n 0, 1) := by decide +kernel
theorem dX10_restore_96 : decode cX10_restore 96 = .ok (.getfield 29, 3) := by decide +kernel
theorem dX10_restore_99 : decode cX10_restore 99 = .ok (.iload_n 1, 1) := by decide +kernel
theorem dX10_restore_100 : decode cX10_restore 100 = .ok (.aload_n 0, 1) := by decide +kernel
theorem dX10_restore_101 : decode cX10_restore 101 = .ok (.getfield 150, 3) := by decide +kernel
theorem dX10_restore_104 : decode cX10_restore 104 = .ok (.iload_n 1, 1) := by decide +kernel
theorem dX10_restore_105 : decode cX10_restore 105 = .ok (.iaload, 1) := by decide +kernel
theorem dX10_restore_106 : decode cX10_restore 106 = .ok (.iastore, 1) := by decide +kernel
theorem dX10_restore_107 : decode cX10_restore 107 = .ok (.aload_n 0, 1) := by decide +kernel
theorem dX10_restore_108 : decode cX10_restore 108 = .ok (.getfield 32, 3) := by decide +kernel
theorem dX10_restore_111 : decode cX10_restore 111 = .ok (.iload_n 1, 1) := by decide +kernel
theorem dX10_restore_112 : decode cX10_restore 112 = .ok (.aload_n 0, 1) := by decide +kernel
theorem dX10_restore_113 : decode cX10_restore 113 = .ok (.getfield 153, 3) := by decide +kernel
theorem dX10_restore_116 : decode cX10_restore 116 = .ok (.iload_n 1, 1) := by decide +kernel
theorem dX10_restore_117 : decode cX10_restore 117 = .ok (.iaload, 1) := by decide +kernel
theorem dX10_restore_118 : decode cX10_restore 118 = .ok (.iastore, 1) := by decide +kernel
theorem dX10_restore_119 : decode cX10_restore 119 = .ok (.iinc 1 1, 3) := by decide +kernel
theorem dX10_restore_122 : decode cX10_restore 122 = .ok (.goto (-34), 3) := by decide +kernel
theorem dX10_restore_125 : decode cX10_restore 125 = .ok (.aload_n 0, 1) := by decide +kernel
theorem dX10_restore_126 : decode cX10_restore 126 = .ok (.iconst 0, 1) := by decide +kernel
theorem dX10_restore_127 : decode cX10_restore 127 = .ok (.putfield 35, 3) := by decide +kernel
theorem dX10_restore_130 : decode cX10_restore 130 = .ok (.aload_n 0, 1) := by decide +kernel
theorem dX10_restore_131 : decode cX10_restore 131 = .ok (.iconst (-1), 1) := by decide +kernel
theorem dX10_restore_132 : decode cX10_restore 132 = .ok (.putfield 50, 3) := by decide +kernel
theorem dX10_restore_135 : decode cX10_restore 135 = .ok (.aload_n 0, 1) := by decide +kernel
theorem dX10_restore_136 : decode cX10_restore 136 = .ok (.iconst 0, 1) := by decide +kernel
theorem dX10_restore_137 : decode cX10_restore 137 = .ok (.invokevirtual 211, 3) := by decide +kernel
theorem dX10_restore_140 : decode cX10_restore 140 = .ok (.ireturn, 1) := by decide +kernel
theorem dX10_isTable_0 : decode cX10_isTable 0 = .ok (.aload_n 0, 1) := by decide +kernel
theorem dX10_isTable_1 : decode cX10_isTable 1 = .ok (.iload_n 1, 1) := by decide +kernel
theorem dX10_isTable_2 : decode cX10_isTable 2 = .ok (.iconst 0, 1) := by decide +kernel
theorem dX10_isTable_3 : decode cX10_isTable 3 = .ok (.iconst 2, 1) := by decide +kernel
theorem dX10_isTable_4 : decode cX10_isTable 4 = .ok (.invokevirtual 172, 3) := by decide +kernel
theorem dX10_isTable_7 : decode cX10_isTable 7 = .ok (.ireturn, 1) := by decide +kernel
theorem dX10_createTable_0 : decode cX10_createTable 0 = .ok (.aload_n 0, 1) := by decide +kernel
theorem dX10_createTable_1 : decode cX10_createTable 1 = .ok (.iload_n 1, 1) := by decide +kernel
theorem dX10_createTable_2 : decode cX10_createTable 2 = .ok (.invokevirtual 275, 3) := by decide +kernel
theorem dX10_createTable_5 : decode cX10_createTable 5 = .ok (.ifCond .eq 19, 3) := by decide +kernel
theorem dX10_createTable_8 : decode cX10_createTable 8 = .ok (.aload_n 0, 1) := by decide +kernel
theorem dX10_createTable_9 : decode cX10_createTable 9 = .ok (.iload_n 2, 1) := by decide +kernel
theorem dX10_createTable_10 : decode cX10_createTable 10 = .ok (.iconst 0, 1) := by decide +kernel
theorem dX10_createTable_11 : decode cX10_createTable 11 = .ok (.iconst 2, 1) := by decide +kernel
theorem dX10_createTable_12 : decode cX10_createTable 12 = .ok (.invokevirtual 172, 3) := by decide +kernel
theorem dX10_createTable_15 : decode cX10_createTable 15 = .ok (.ifCond .eq 9, 3) := by decide +kernel
theorem dX10_createTable_18 : decode cX10_createTable 18 = .ok (.iload_n 3, 1) := by decide +kernel
theorem dX10_createTable_19 : decode cX10_createTable 19 = .ok (.bipush 64, 2) := by decide +kernel
theorem dX10_createTable_21 : decode cX10_createTable 21 = .ok (.if_icmp .le 6, 3) := by decide +kernel
theorem dX10_createTable_24 : decode cX10_createTable 24 = .ok (.bipush (-2), 2) := by decide +kernel
theorem dX10_createTable_26 : decode cX10_createTable 26 = .ok (.ireturn, 1) := by decide +kernel
theorem dX10_createTable_27 : decode cX10_createTable 27 = .ok (.iload_n 3, 1) := by decide +kernel
theorem dX10_createTable_28 : decode cX10_createTable 28 = .ok (.ifCond .ge 6, 3) := by decide +kernel
theorem dX10_createTable_31 : decode cX10_createTable 31 = .ok (.bipush (-14), 2) := by decide +kernel
theorem dX10_createTable_33 : decode cX10_createTable 33 = .ok (.ireturn, 1) := by decide +kernel
theorem dX10_createTable_34 : decode cX10_createTable 34 = .ok (.aload_n 0, 1) := by decide +kernel
theorem dX10_createTable_35 : decode cX10_createTable 35 = .ok (.getfield 156, 3) := by decide +kernel
theorem dX10_createTable_38 : decode cX10_createTable 38 = .ok (.iload_n 1, 1) := by decide +kernel
theorem dX10_createTable_39 : decode cX10_createTable 39 = .ok (.iload_n 2, 1) := by decide +kernel
theorem dX10_createTable_40 : decode cX10_createTable 40 = .ok (.iastore, 1) := by decide +kernel
theorem dX10_createTable_41 : decode cX10_createTable 41 = .ok (.aload_n 0, 1) := by decide +kernel
theorem dX10_createTable_42 : decode cX10_createTable 42 = .ok (.getfield 159, 3) := by decide +kernel
theorem dX10_createTable_45 : decode cX10_createTable 45 = .ok (.iload_n 1, 1) := by decide +kernel
theorem dX10_createTable_46 : decode cX10_createTable 46 = .ok (.iload_n 3, 1) := by decide +kernel
theorem dX10_createTable_47 : decode cX10_createTable 47 = .ok (.iastore, 1) := by decide +kernel
theorem dX10_createTable_48 : decode cX10_createTable 48 = .ok (.iconst 0, 1) := by decide +kernel
theorem dX10_createTable_49 : decode cX10_createTable 49 = .ok (.istore 4, 2) := by decide +kernel
theorem dX10_createTable_51 : decode cX10_createTable 51 = .ok (.iload 4, 2) := by decide +kernel
theorem dX10_createTable_53 : decode cX10_createTable 53 = .ok (.bipush 64, 2) := by decide +kernel
theorem dX10_createTable_55 : decode cX10_createTable 55 = .ok (.if_icmp .ge 22, 3) := by decide +kernel
theorem dX10_createTable_58 : decode cX10_createTable 58 = .ok (.aload_n 0, 1) := by decide +kernel
theorem dX10_createTable_59 : decode cX10_createTable 59 = .ok (.getfield 162, 3) := by decide +kernel
theorem dX10_createTable_62 : decode cX10_createTable 62 = .ok (.bipush 64, 2) := by decide +kernel
theorem dX10_createTable_64 : decode cX10_createTable 64 = .ok (.iload_n 1, 1) := by decide +kernel
theorem dX10_createTable_65 : decode cX10_createTable 65 = .ok (.imul, 1) := by decide +kernel
theorem dX10_createTable_66 : decode cX10_createTable 66 = .ok (.iload 4, 2) := by decide +kernel
theorem dX10_createTable_68 : decode cX10_createTable 68 = .ok (.iadd, 1) := by decide +kernel
theorem dX10_createTable_69 : decode cX10_createTable 69 = .ok (.iconst 0, 1) := by decide +kernel
theorem dX10_createTable_70 : decode cX10_createTable 70 = .ok (.iastore, 1) := by decide +kernel
theorem dX10_createTable_71 : decode cX10_createTable 71 = .ok (.iinc 4 1, 3) := by decide +kernel
theorem dX10_createTable_74 : decode cX10_createTable 74 = .ok (.goto (-23), 3) := by decide +kernel
theorem dX10_createTable_77 : decode cX10_createTable 77 = .ok (.iconst 1, 1) := by decide +kernel
theorem dX10_createTable_78 : decode cX10_createTable 78 = .ok (.ireturn, 1) := by decide +kernel
theorem dX10_lay_0 : decode cX10_lay 0 = .ok (.aload_n 0, 1) := by decide +kernel
theorem dX10_lay_1 : decode cX10_lay 1 = .ok (.getfield 162, 3) := by decide +kernel
theorem dX10_lay_4 : decode cX10_lay 4 = .ok (.bipush 64, 2) := by decide +kernel
theorem dX10_lay_6 : decode cX10_lay 6 = .ok (.iload_n 1, 1) := by decide +kernel
theorem dX10_lay_7 : decode cX10_lay 7 = .ok (.imul, 1) := by decide +kernel
theorem dX10_lay_8 : decode cX10_lay 8 = .ok (.iload_n 2, 1) := by decide +kernel
theorem dX10_lay_9 : decode cX10_lay 9 = .ok (.iadd, 1) := by decide +kernel
theorem dX10_lay_10 : decode cX10_lay 10 = .ok (.aload_n 0, 1) := by decide +kernel
theorem dX10_lay_11 : decode cX10_lay 11 = .ok (.getfield 156, 3) := by decide +kernel
theorem dX10_lay_14 : decode cX10_lay 14 = .ok (.iload_n 1, 1) := by decide +kernel
theorem dX10_lay_15 : decode cX10_lay 15 = .ok (.iaload, 1) := by decide +kernel
theorem dX10_lay_16 : decode cX10_lay 16 = .ok (.ifCond .ne 8, 3) := by decide +kernel
theorem dX10_lay_19 : decode cX10_lay 19 = .ok (.iload_n 3, 1) := by decide +kernel
theorem dX10_lay_20 : decode cX10_lay 20 = .ok (.i2b, 1) := by decide +kernel
theorem dX10_lay_21 : decode cX10_lay 21 = .ok (.goto 26, 3) := by decide +kernel
theorem dX10_lay_24 : decode cX10_lay 24 = .ok (.aload_n 0, 1) := by decide +kernel
theorem dX10_lay_25 : decode cX10_lay 25 = .ok (.getfield 156, 3) := by decide +kernel
theorem dX10_lay_28 : decode cX10_lay 28 = .ok (.iload_n 1, 1) := by decide +kernel
theorem dX10_lay_29 : decode cX10_lay 29 = .ok (.iaload, 1) := by decide +kernel
theorem dX10_lay_30 : decode cX10_lay 30 = .ok (.iconst 1, 1) := by decide +kernel
theorem dX10_lay_31 : decode cX10_lay 31 = .ok (.if_icmp .ne 7, 3) := by decide +kernel
theorem dX10_lay_34 : decode cX10_lay 34 = .ok (.iload_n 3, 1) := by decide +kernel
theorem dX10_lay_35 : decode cX10_lay 35 = .ok (.goto 12, 3) := by decide +kernel
theorem dX10_lay_38 : decode cX10_lay 38 = .ok (.iload_n 3, 1) := by decide +kernel
theorem dX10_lay_39 : decode cX10_lay 39 = .ok (.ifCond .eq 7, 3) := by decide +kernel
theorem dX10_lay_42 : decode cX10_lay 42 = .ok (.iconst 1, 1) := by decide +kernel
theorem dX10_lay_43 : decode cX10_lay 43 = .ok (.goto 4, 3) := by decide +kernel
theorem dX10_lay_46 : decode cX10_lay 46 = .ok (.iconst 0, 1) := by decide +kernel
theorem dX10_lay_47 : decode cX10_lay 47 = .ok (.iastore, 1) := by decide +kernel
theorem dX10_lay_48 : decode cX10_lay 48 = .ok (.return_, 1) := by decide +kernel
theorem dX10_writeTable_0 : decode cX10_writeTable 0 = .ok (.aload_n 0, 1) := by decide +kernel
theorem dX10_writeTable_1 : decode cX10_writeTable 1 = .ok (.iload_n 1, 1) := by decide +kernel
theorem dX10_writeTable_2 : decode cX10_writeTable 2 = .ok (.invokevirtual 275, 3) := by decide +kernel
theorem dX10_writeTable_5 : decode cX10_writeTable 5 = .ok (.ifCond .ne 6, 3) := by decide +kernel
theorem dX10_writeTable_8 : decode cX10_writeTable 8 = .ok (.bipush (-2), 2) := by decide +kernel
theorem dX10_writeTable_10 : decode cX10_writeTable 10 = .ok (.ireturn, 1) := by decide +kernel
theorem dX10_writeTable_11 : decode cX10_writeTable 11 = .ok (.aload_n 0, 1) := by decide +kernel
theorem dX10_writeTable_12 : decode cX10_writeTable 12 = .ok (.getfield 156, 3) := by decide +kernel
theorem dX10_writeTable_15 : decode cX10_writeTable 15 = .ok (.iload_n 1, 1) := by decide +kernel
theorem dX10_writeTable_16 : decode cX10_writeTable 16 = .ok (.iaload, 1) := by decide +kernel
theorem dX10_writeTable_17 : decode cX10_writeTable 17 = .ok (.ifCond .ge 6, 3) := by decide +kernel
theorem dX10_writeTable_20 : decode cX10_writeTable 20 = .ok (.bipush (-11), 2) := by decide +kernel
theorem dX10_writeTable_22 : decode cX10_writeTable 22 = .ok (.ireturn, 1) := by decide +kernel
theorem dX10_writeTable_23 : decode cX10_writeTable 23 = .ok (.aload_n 0, 1) := by decide +kernel
theorem dX10_writeTable_24 : decode cX10_writeTable 24 = .ok (.iload_n 2, 1) := by decide +kernel
theorem dX10_writeTable_25 : decode cX10_writeTable 25 = .ok (.iconst 0, 1) := by decide +kernel
theorem dX10_writeTable_26 : decode cX10_writeTable 26 = .ok (.aload_n 0, 1) := by decide +kernel
theorem dX10_writeTable_27 : decode cX10_writeTable 27 = .ok (.getfield 159, 3) := by decide +kernel
theorem dX10_writeTable_30 : decode cX10_writeTable 30 = .ok (.iload_n 1, 1) := by decide +kernel
theorem dX10_writeTable_31 : decode cX10_writeTable 31 = .ok (.iaload, 1) := by decide +kernel
theorem dX10_writeTable_32 : decode cX10_writeTable 32 = .ok (.iconst 1, 1) := by decide +kernel
theorem dX10_writeTable_33 : decode cX10_writeTable 33 = .ok (.isub, 1) := by decide +kernel
theorem dX10_writeTable_34 : decode cX10_writeTable 34 = .ok (.invokevirtual 172, 3) := by decide +kernel
theorem dX10_writeTable_37 : decode cX10_writeTable 37 = .ok (.ifCond .ne 6, 3) := by decide +kernel
theorem dX10_writeTable_40 : decode cX10_writeTable 40 = .ok (.bipush (-13), 2) := by decide +kernel
theorem dX10_writeTable_42 : decode cX10_writeTable 42 = .ok (.ireturn, 1) := by decide +kernel
theorem dX10_writeTable_43 : decode cX10_writeTable 43 = .ok (.aload_n 0, 1) := by decide +kernel
theorem dX10_writeTable_44 : decode cX10_writeTable 44 = .ok (.iload_n 1, 1) := by decide +kernel
theorem dX10_writeTable_45 : decode cX10_writeTable 45 = .ok (.iload_n 2, 1) := by decide +kernel
theorem dX10_writeTable_46 : decode cX10_writeTable 46 = .ok (.iload_n 3, 1) := by decide +kernel
theorem dX10_writeTable_47 : decode cX10_writeTable 47 = .ok (.invokevirtual 278, 3) := by decide +kernel
theorem dX10_writeTable_50 : decode cX10_writeTable 50 = .ok (.iconst 1, 1) := by decide +kernel
theorem dX10_writeTable_51 : decode cX10_writeTable 51 = .ok (.ireturn, 1) := by decide +kernel
theorem dX10_readTable_0 : decode cX10_readTable 0 = .ok (.aload_n 0, 1) := by decide +kernel
theorem dX10_readTable_1 : decode cX10_readTable 1 = .ok (.iload_n 1, 1) := by decide +kernel
theorem dX10_readTable_2 : decode cX10_readTable 2 = .ok (.invokevirtual 275, 3) := by decide +kernel
theorem dX10_readTable_5 : decode cX10_readTable 5 = .ok (.ifCond .ne 6, 3) := by decide +kernel
theorem dX10_readTable_8 : decode cX10_readTable 8 = .ok (.bipush (-2), 2) := by decide +kernel
theorem dX10_readTable_10 : decode cX10_readTable 10 = .ok (.ireturn, 1) := by decide +kernel
theorem dX10_readTable_11 : decode cX10_readTable 11 = .ok (.aload_n 0, 1) := by decide +kernel
theorem dX10_readTable_12 : decode cX10_readTable 12 = .ok (.getfield 156, 3) := by decide +kernel
theorem dX10_readTable_15 : decode cX10_readTable 15 = .ok (.iload_n 1, 1) := by decide +kernel
theorem dX10_readTable_16 : decode cX10_readTable 16 = .ok (.iaload, 1) := by decide +kernel
theorem dX10_readTable_17 : decode cX10_readTable 17 = .ok (.ifCond .ge 6, 3) := by decide +kernel
theorem dX10_readTable_20 : decode cX10_readTable 20 = .ok (.bipush (-11), 2) := by decide +kernel
theorem dX10_readTable_22 : decode cX10_readTable 22 = .ok (.ireturn, 1) := by decide +kernel
theorem dX10_readTable_23 : decode cX10_readTable 23 = .ok (.aload_n 0, 1) := by decide +kernel
theorem dX10_readTable_24 : decode cX10_readTable 24 = .ok (.iload_n 2, 1) := by decide +kernel
theorem dX10_readTable_25 : decode cX10_readTable 25 = .ok (.iconst 0, 1) := by decide +kernel
theorem dX10_readTable_26 : decode cX10_readTable 26 = .ok (.aload_n 0, 1) := by decide +kernel
theorem dX10_readTable_27 : decode cX10_readTable 27 = .ok (.getfield 159, 3) := by decide +kernel
theorem dX10_readTable_30 : decode cX10_readTable 30 = .ok (.iload_n 1, 1) := by decide +kernel
theorem dX10_readTable_31 : decode cX10_readTable 31 = .ok (.iaload, 1) := by decide +kernel
theorem dX10_readTable_32 : decode cX10_readTable 32 = .ok (.iconst 1, 1) := by decide +kernel
theorem dX10_readTable_33 : decode cX10_readTable 33 = .ok (.isub, 1) := by decide +kernel
theorem dX10_readTable_34 : decode cX10_readTable 34 = .ok (.invokevirtual 172, 3) := by decide +kernel
theorem dX10_readTable_37 : decode cX10_readTable 37 = .ok (.ifCond .eq 17, 3) := by decide +kernel
theorem dX10_readTable_40 : decode cX10_readTable 40 = .ok (.aload_n 0, 1) := by decide +kernel
theorem dX10_readTable_41 : decode cX10_readTable 41 = .ok (.getfield 162, 3) := by decide +kernel
theorem dX10_readTable_44 : decode cX10_readTable 44 = .ok (.bipush 64, 2) := by decide +kernel
theorem dX10_readTable_46 : decode cX10_readTable 46 = .ok (.iload_n 1, 1) := by decide +kernel
theorem dX10_readTable_47 : decode cX10_readTable 47 = .ok (.imul, 1) := by decide +kernel
theorem dX10_readTable_48 : decode cX10_readTable 48 = .ok (.iload_n 2, 1) := by decide +kernel
theorem dX10_readTable_49 : decode cX10_readTable 49 = .ok (.iadd, 1) := by decide +kernel
theorem dX10_readTable_50 : decode cX10_readTable 50 = .ok (.iaload, 1) := by decide +kernel
theorem dX10_readTable_51 : decode cX10_readTable 51 = .ok (.goto 5, 3) := by decide +kernel
theorem dX10_readTable_54 : decode cX10_readTable 54 = .ok (.bipush (-13), 2) := by decide +kernel
theorem dX10_readTable_56 : decode cX10_readTable 56 = .ok (.ireturn, 1) := by decide +kernel
theorem dX10_cellAt_0 : decode cX10_cellAt 0 = .ok (.iload_n 1, 1) := by decide +kernel
theorem dX10_cellAt_1 : decode cX10_cellAt 1 = .ok (.aload_n 0, 1) := by decide +kernel
theorem dX10_cellAt_2 : decode cX10_cellAt 2 = .ok (.getfield 13, 3) := by decide +kernel
theorem dX10_cellAt_5 : decode cX10_cellAt 5 = .ok (.idiv, 1) := by decide +kernel
theorem dX10_cellAt_6 : decode cX10_cellAt 6 = .ok (.bipush 8, 2) := by decide +kernel
theorem dX10_cellAt_8 : decode cX10_cellAt 8 = .ok (.imul, 1) := by decide +kernel
theorem dX10_cellAt_9 : decode cX10_cellAt 9 = .ok (.iload_n 1, 1) := by decide +kernel
theorem dX10_cellAt_10 : decode cX10_cellAt 10 = .ok (.aload_n 0, 1) := by decide +kernel
theorem dX10_cellAt_11 : decode cX10_cellAt 11 = .ok (.getfield 13, 3) := by decide +kernel
theorem dX10_cellAt_14 : decode cX10_cellAt 14 = .ok (.irem, 1) := by decide +kernel
theorem dX10_cellAt_15 : decode cX10_cellAt 15 = .ok (.iadd, 1) := by decide +kernel
theorem dX10_cellAt_16 : decode cX10_cellAt 16 = .ok (.ireturn, 1) := by decide +kernel
theorem dX10_exportCandidates_0 : decode cX10_exportCandidates 0 = .ok (.aload_n 0, 1) := by decide +kernel
theorem dX10_exportCandidates_1 : decode cX10_exportCandidates 1 = .ok (.iload_n 1, 1) := by decide +kernel
theorem dX10_exportCandidates_2 : decode cX10_exportCandidates 2 = .ok (.invokevirtual 275, 3) := by decide +kernel
theorem dX10_exportCandidates_5 : decode cX10_exportCandidates 5 = .ok (.ifCond .ne 6, 3) := by decide +kernel
theorem dX10_exportCandidates_8 : decode cX10_exportCandidates 8 = .ok (.bipush (-2), 2) := by decide +kernel
theorem dX10_exportCandidates_10 : decode cX10_exportCandidates 10 = .ok (.ireturn, 1) := by decide +kernel
theorem dX10_exportCandidates_11 : decode cX10_exportCandidates 11 = .ok (.aload_n 0, 1) := by decide +kernel
theorem dX10_exportCandidates_12 : decode cX10_exportCandidates 12 = .ok (.getfield 156, 3) := by decide +kernel
theorem dX10_exportCandidates_15 : decode cX10_exportCandidates 15 = .ok (.iload_n 1, 1) := by decide +kernel
theorem dX10_exportCandidates_16 : decode cX10_exportCandidates 16 = .ok (.iaload, 1) := by decide +kernel
theorem dX10_exportCandidates_17 : decode cX10_exportCandidates 17 = .ok (.ifCond .ge 6, 3) := by decide +kernel
theorem dX10_exportCandidates_20 : decode cX10_exportCandidates 20 = .ok (.bipush (-11), 2) := by decide +kernel
theorem dX10_exportCandidates_22 : decode cX10_exportCandidates 22 = .ok (.ireturn, 1) := by decide +kernel
theorem dX10_exportCandidates_23 : decode cX10_exportCandidates 23 = .ok (.aload_n 0, 1) := by decide +kernel
theorem dX10_exportCandidates_24 : decode cX10_exportCandidates 24 = .ok (.getfield 156, 3) := by decide +kernel
theorem dX10_exportCandidates_27 : decode cX10_exportCandidates 27 = .ok (.iload_n 1, 1) := by decide +kernel
theorem dX10_exportCandidates_28 : decode cX10_exportCandidates 28 = .ok (.iaload, 1) := by decide +kernel
theorem dX10_exportCandidates_29 : decode cX10_exportCandidates 29 = .ok (.iconst 2, 1) := by decide +kernel
theorem dX10_exportCandidates_30 : decode cX10_exportCandidates 30 = .ok (.if_icmp .ne 6, 3) := by decide +kernel
theorem dX10_exportCandidates_33 : decode cX10_exportCandidates 33 = .ok (.bipush (-12), 2) := by decide +kernel
theorem dX10_exportCandidates_35 : decode cX10_exportCandidates 35 = .ok (.ireturn, 1) := by decide +kernel
theorem dX10_exportCandidates_36 : decode cX10_exportCandidates 36 = .ok (.aload_n 0, 1) := by decide +kernel
theorem dX10_exportCandidates_37 : decode cX10_exportCandidates 37 = .ok (.getfield 7, 3) := by decide +kernel
theorem dX10_exportCandidates_40 : decode cX10_exportCandidates 40 = .ok (.aload_n 0, 1) := by decide +kernel
theorem dX10_exportCandidates_41 : decode cX10_exportCandidates 41 = .ok (.getfield 13, 3) := by decide +kernel
theorem dX10_exportCandidates_44 : decode cX10_exportCandidates 44 = .ok (.imul, 1) := by decide +kernel
theorem dX10_exportCandidates_45 : decode cX10_exportCandidates 45 = .ok (.istore_n 2, 1) := by decide +kernel
theorem dX10_exportCandidates_46 : decode cX10_exportCandidates 46 = .ok (.iconst 0, 1) := by decide +kernel
theorem dX10_exportCandidates_47 : decode cX10_exportCandidates 47 = .ok (.istore_n 3, 1) := by decide +kernel
theorem dX10_exportCandidates_48 : decode cX10_exportCandidates 48 = .ok (.iload_n 3, 1) := by decide +kernel
theorem dX10_exportCandidates_49 : decode cX10_exportCandidates 49 = .ok (.iload_n 2, 1) := by decide +kernel
theorem dX10_exportCandidates_50 : decode cX10_exportCandidates 50 = .ok (.if_icmp .ge 35, 3) := by decide +kernel
theorem dX10_exportCandidates_53 : decode cX10_exportCandidates 53 = .ok (.iload_n 3, 1) := by decide +kernel
theorem dX10_exportCandidates_54 : decode cX10_exportCandidates 54 = .ok (.aload_n 0, 1) := by decide +kernel
theorem dX10_exportCandidates_55 : decode cX10_exportCandidates 55 = .ok (.getfield 159, 3) := by decide +kernel
theorem dX10_exportCandidates_58 : decode cX10_exportCandidates 58 = .ok (.iload_n 1, 1) := by decide +kernel
theorem dX10_exportCandidates_59 : decode cX10_exportCandidates 59 = .ok (.iaload, 1) := by decide +kernel
theorem dX10_exportCandidates_60 : decode cX10_exportCandidates 60 = .ok (.if_icmp .ge 25, 3) := by decide +kernel
theorem dX10_exportCandidates_63 : decode cX10_exportCandidates 63 = .ok (.aload_n 0, 1) := by decide +kernel
theorem dX10_exportCandidates_64 : decode cX10_exportCandidates 64 = .ok (.iload_n 1, 1) := by decide +kernel
theorem dX10_exportCandidates_65 : decode cX10_exportCandidates 65 = .ok (.iload_n 3, 1) := by decide +kernel
theorem dX10_exportCandidates_66 : decode cX10_exportCandidates 66 = .ok (.aload_n 0, 1) := by decide +kernel
theorem dX10_exportCandidates_67 : decode cX10_exportCandidates 67 = .ok (.getfield 22, 3) := by decide +kernel
theorem dX10_exportCandidates_70 : decode cX10_exportCandidates 70 = .ok (.aload_n 0, 1) := by decide +kernel
theorem dX10_exportCandidates_71 : decode cX10_exportCandidates 71 = .ok (.iload_n 3, 1) := by decide +kernel
theorem dX10_exportCandidates_72 : decode cX10_exportCandidates 72 = .ok (.invokevirtual 281, 3) := by decide +kernel
theorem dX10_exportCandidates_75 : decode cX10_exportCandidates 75 = .ok (.iaload, 1) := by decide +kernel
theorem dX10_exportCandidates_76 : decode cX10_exportCandidates 76 = .ok (.invokevirtual 278, 3) := by decide +kernel
theorem dX10_exportCandidates_79 : decode cX10_exportCandidates 79 = .ok (.iinc 3 1, 3) := by decide +kernel
theorem dX10_exportCandidates_82 : decode cX10_exportCandidates 82 = .ok (.goto (-34), 3) := by decide +kernel
theorem dX10_exportCandidates_85 : decode cX10_exportCandidates 85 = .ok (.aload_n 0, 1) := by decide +kernel
theorem dX10_exportCandidates_86 : decode cX10_exportCandidates 86 = .ok (.getfield 159, 3) := by decide +kernel
theorem dX10_exportCandidates_89 : decode cX10_exportCandidates 89 = .ok (.iload_n 1, 1) := by decide +kernel
theorem dX10_exportCandidates_90 : decode cX10_exportCandidates 90 = .ok (.iaload, 1) := by decide +kernel
theorem dX10_exportCandidates_91 : decode cX10_exportCandidates 91 = .ok (.iload_n 2, 1) := by decide +kernel
theorem dX10_exportCandidates_92 : decode cX10_exportCandidates 92 = .ok (.if_icmp .ge 8, 3) := by decide +kernel
theorem dX10_exportCandidates_95 : decode cX10_exportCandidates 95 = .ok (.bipush (-13), 2) := by decide +kernel
theorem dX10_exportCandidates_97 : decode cX10_exportCandidates 97 = .ok (.goto 4, 3) := by decide +kernel
theorem dX10_exportCandidates_100 : decode cX10_exportCandidates 100 = .ok (.iload_n 2, 1) := by decide +kernel
theorem dX10_exportCandidates_101 : decode cX10_exportCandidates 101 = .ok (.ireturn, 1) := by decide +kernel
theorem dX10_compareTable_0 : decode cX10_compareTable 0 = .ok (.aload_n 0, 1) := by decide +kernel
theorem dX10_compareTable_1 : decode cX10_compareTable 1 = .ok (.iload_n 1, 1) := by decide +kernel
theorem dX10_compareTable_2 : decode cX10_compareTable 2 = .ok (.invokevirtual 275, 3) := by decide +kernel
theorem dX10_compareTable_5 : decode cX10_compareTable 5 = .ok (.ifCond .ne 6, 3) := by decide +kernel
theorem dX10_compareTable_8 : decode cX10_compareTable 8 = .ok (.bipush (-2), 2) := by decide +kernel
theorem dX10_compareTable_10 : decode cX10_compareTable 10 = .ok (.ireturn, 1) := by decide +kernel
theorem dX10_compareTable_11 : decode cX10_compareTable 11 = .ok (.aload_n 0, 1) := by decide +kernel
theorem dX10_compareTable_12 : decode cX10_compareTable 12 = .ok (.getfield 156, 3) := by decide +kernel
theorem dX10_compareTable_15 : decode cX10_compareTable 15 = .ok (.iload_n 1, 1) := by decide +kernel
theorem dX10_compareTable_16 : decode cX10_compareTable 16 = .ok (.iaload, 1) := by decide +kernel
theorem dX10_compareTable_17 : decode cX10_compareTable 17 = .ok (.ifCond .ge 6, 3) := by decide +kernel
theorem dX10_compareTable_20 : decode cX10_compareTable 20 = .ok (.bipush (-11), 2) := by decide +kernel
theorem dX10_compareTable_22 : decode cX10_compareTable 22 = .ok (.ireturn, 1) := by decide +kernel
theorem dX10_compareTable_23 : decode cX10_compareTable 23 = .ok (.aload_n 0, 1) := by decide +kernel
theorem dX10_compareTable_24 : decode cX10_compareTable 24 = .ok (.getfield 156, 3) := by decide +kernel
theorem dX10_compareTable_27 : decode cX10_compareTable 27 = .ok (.iload_n 1, 1) := by decide +kernel
theorem dX10_compareTable_28 : decode cX10_compareTable 28 = .ok (.iaload, 1) := by decide +kernel
theorem dX10_compareTable_29 : decode cX10_compareTable 29 = .ok (.iconst 2, 1) := by decide +kernel
theorem dX10_compareTable_30 : decode cX10_compareTable 30 = .ok (.if_icmp .eq 6, 3) := by decide +kernel
theorem dX10_compareTable_33 : decode cX10_compareTable 33 = .ok (.bipush (-12), 2) := by decide +kernel
theorem dX10_compareTable_35 : decode cX10_compareTable 35 = .ok (.ireturn, 1) := by decide +kernel
theorem dX10_compareTable_36 : decode cX10_compareTable 36 = .ok (.iconst 0, 1) := by decide +kernel
theorem dX10_compareTable_37 : decode cX10_compareTable 37 = .ok (.istore_n 2, 1) := by decide +kernel
theorem dX10_compareTable_38 : decode cX10_compareTable 38 = .ok (.iload_n 2, 1) := by decide +kernel
theorem dX10_compareTable_39 : decode cX10_compareTable 39 = .ok (.aload_n 0, 1) := by decide +kernel
theorem dX10_compareTable_40 : decode cX10_compareTable 40 = .ok (.getfield 7, 3) := by decide +kernel
theorem dX10_compareTable_43 : decode cX10_compareTable 43 = .ok (.aload_n 0, 1) := by decide +kernel
theorem dX10_compareTable_44 : decode cX10_compareTable 44 = .ok (.getfield 13, 3) := by decide +kernel
theorem dX10_compareTable_47 : decode cX10_compareTable 47 = .ok (.imul, 1) := by decide +kernel
theorem dX10_compareTable_48 : decode cX10_compareTable 48 = .ok (.if_icmp .ge 50, 3) := by decide +kernel
theorem dX10_compareTable_51 : decode cX10_compareTable 51 = .ok (.iload_n 2, 1) := by decide +kernel
theorem dX10_compareTable_52 : decode cX10_compareTable 52 = .ok (.aload_n 0, 1) := by decide +kernel
theorem dX10_compareTable_53 : decode cX10_compareTable 53 = .ok (.getfield 159, 3) := by decide +kernel
theorem dX10_compareTable_56 : decode cX10_compareTable 56 = .ok (.iload_n 1, 1) := by decide +kernel
theorem dX10_compareTable_57 : decode cX10_compareTable 57 = .ok (.iaload, 1) := by decide +kernel
theorem dX10_compareTable_58 : decode cX10_compareTable 58 = .ok (.if_icmp .lt 6, 3) := by decide +kernel
theorem dX10_compareTable_61 : decode cX10_compareTable 61 = .ok (.bipush (-13), 2) := by decide +kernel
theorem dX10_compareTable_63 : decode cX10_compareTable 63 = .ok (.ireturn, 1) := by decide +kernel
theorem dX10_compareTable_64 : decode cX10_compareTable 64 = .ok (.aload_n 0, 1) := by decide +kernel
theorem dX10_compareTable_65 : decode cX10_compareTable 65 = .ok (.getfield 162, 3) := by decide +kernel
theorem dX10_compareTable_68 : decode cX10_compareTable 68 = .ok (.bipush 64, 2) := by decide +kernel
theorem dX10_compareTable_70 : decode cX10_compareTable 70 = .ok (.iload_n 1, 1) := by decide +kernel
theorem dX10_compareTable_71 : decode cX10_compareTable 71 = .ok (.imul, 1) := by decide +kernel
theorem dX10_compareTable_72 : decode cX10_compareTable 72 = .ok (.iload_n 2, 1) := by decide +kernel
theorem dX10_compareTable_73 : decode cX10_compareTable 73 = .ok (.iadd, 1) := by decide +kernel
theorem dX10_compareTable_74 : decode cX10_compareTable 74 = .ok (.iaload, 1) := by decide +kernel
theorem dX10_compareTable_75 : decode cX10_compareTable 75 = .ok (.aload_n 0, 1) := by decide +kernel
theorem dX10_compareTable_76 : decode cX10_compareTable 76 = .ok (.getfield 22, 3) := by decide +kernel
theorem dX10_compareTable_79 : decode cX10_compareTable 79 = .ok (.aload_n 0, 1) := by decide +kernel
theorem dX10_compareTable_80 : decode cX10_compareTable 80 = .ok (.iload_n 2, 1) := by decide +kernel
theorem dX10_compareTable_81 : decode cX10_compareTable 81 = .ok (.invokevirtual 281, 3) := by decide +kernel
theorem dX10_compareTable_84 : decode cX10_compareTable 84 = .ok (.iaload, 1) := by decide +kernel
theorem dX10_compareTable_85 : decode cX10_compareTable 85 = .ok (.iconst 1, 1) := by decide +kernel
theorem dX10_compareTable_86 : decode cX10_compareTable 86 = .ok (.iand, 1) := by decide +kernel
theorem dX10_compareTable_87 : decode cX10_compareTable 87 = .ok (.if_icmp .ne 5, 3) := by decide +kernel
theorem dX10_compareTable_90 : decode cX10_compareTable 90 = .ok (.iload_n 2, 1) := by decide +kernel
theorem dX10_compareTable_91 : decode cX10_compareTable 91 = .ok (.ireturn, 1) := by decide +kernel
theorem dX10_compareTable_92 : decode cX10_compareTable 92 = .ok (.iinc 2 1, 3) := by decide +kernel
theorem dX10_compareTable_95 : decode cX10_compareTable 95 = .ok (.goto (-57), 3) := by decide +kernel
theorem dX10_compareTable_98 : decode cX10_compareTable 98 = .ok (.bipush (-8), 2) := by decide +kernel
theorem dX10_compareTable_100 : decode cX10_compareTable 100 = .ok (.ireturn, 1) := by decide +kernel
end
section
theorem dL_law_0 : decode cL_law 0 = .ok (.new 7, 3) := by decide +kernel
theorem dL_law_3 : decode cL_law 3 = .ok (.dup, 1) := by decide +kernel
theorem dL_law_4 : decode cL_law 4 = .ok (.invokespecial 9, 3) := by decide +kernel
theorem dL_law_7 : decode cL_law 7 = .ok (.astore_n 1, 1) := by decide +kernel
theorem dL_law_8 : decode cL_law 8 = .ok (.new 10, 3) := by decide +kernel
theorem dL_law_11 : decode cL_law 11 = .ok (.dup, 1) := by decide +kernel
theorem dL_law_12 : decode cL_law 12 = .ok (.invokespecial 12, 3) := by decide +kernel
theorem dL_law_15 : decode cL_law 15 = .ok (.astore_n 2, 1) := by decide +kernel
theorem dL_law_16 : decode cL_law 16 = .ok (.iconst 0, 1) := by decide +kernel
theorem dL_law_17 : decode cL_law 17 = .ok (.istore_n 3, 1) := by decide +kernel
theorem dL_law_18 : decode cL_law 18 = .ok (.iload_n 3, 1) := by decide +kernel
theorem dL_law_19 : decode cL_law 19 = .ok (.aload_n 0, 1) := by decide +kernel
theorem dL_law_20 : decode cL_law 20 = .ok (.arraylength, 1) := by decide +kernel
theorem dL_law_21 : decode cL_law 21 = .ok (.iconst 4, 1) := by decide +kernel
theorem dL_law_22 : decode cL_law 22 = .ok (.isub, 1) := by decide +kernel
theorem dL_law_23 : decode cL_law 23 = .ok (.if_icmp .gt 1340, 3) := by decide +kernel
theorem dL_law_26 : decode cL_law 26 = .ok (.aload_n 0, 1) := by decide +kernel
theorem dL_law_27 : decode cL_law 27 = .ok (.iload_n 3, 1) := by decide +kernel
theorem dL_law_28 : decode cL_law 28 = .ok (.iaload, 1) := by decide +kernel
theorem dL_law_29 : decode cL_law 29 = .ok (.bipush 63, 2) := by decide +kernel
theorem dL_law_31 : decode cL_law 31 = .ok (.iand, 1) := by decide +kernel
theorem dL_law_32 : decode cL_law 32 = .ok (.tableswitch 1325 0 46 #[204, 247, 260, 273, 286, 329, 352, 375, 408, 441, 464, 497, 530, 573, 616, 629, 652, 675, 718, 741, 754, 767, 810, 823, 836, 849, 872, 895, 938, 961, 974, 987, 1000, 1023, 1036, 1059, 1072, 1085, 1108, 1121, 1134, 1147, 1190, 1233, 1266, 1289, 1312], 204) := by decide +kernel
theorem dL_law_236 : decode cL_law 236 = .ok (.aload_n 1, 1) := by decide +kernel
theorem dL_law_237 : decode cL_law 237 = .ok (.aload_n 0, 1) := by decide +kernel
theorem dL_law_238 : decode cL_law 238 = .ok (.iload_n 3, 1) := by decide +kernel
theorem dL_law_239 : decode cL_law 239 = .ok (.iconst 1, 1) := by decide +kernel
theorem dL_law_240 : decode cL_law 240 = .ok (.iadd, 1) := by decide +kernel
theorem dL_law_241 : decode cL_law 241 = .ok (.iaload, 1) := by decide +kernel
theorem dL_law_242 : decode cL_law 242 = .ok (.aload_n 0, 1) := by decide +kernel
theorem dL_law_243 : decode cL_law 243 = .ok (.iload_n 3, 1) := by decide +kernel
theorem dL_law_244 : decode cL_law 244 = .ok (.iconst 2, 1) := by decide +kernel
theorem dL_law_245 : decode cL_law 245 = .ok (.iadd, 1) := by decide +kernel
theorem dL_law_246 : decode cL_law 246 = .ok (.iaload, 1) := by decide +kernel
theorem dL_law_247 : decode cL_law 247 = .ok (.aload_n 0, 1) := by decide +kernel
theorem dL_law_248 : decode cL_law 248 = .ok (.iload_n 3, 1) := by decide +kernel
theorem dL_law_249 : decode cL_law 249 = .ok (.iconst 3, 1) := by decide +kernel
theorem dL_law_250 : decode cL_law 250 = .ok (.iadd, 1) := by decide +kernel
theorem dL_law_251 : decode cL_law 251 = .ok (.iaload, 1) := by decide +kernel
theorem dL_law_252 : decode cL_law 252 = .ok (.invokevirtual 13, 3) := by decide +kernel
theorem dL_law_255 : decode cL_law 255 = .ok (.aload_n 2, 1) := by decide +kernel
theorem dL_law_256 : decode cL_law 256 = .ok (.aload_n 0, 1) := by decide +kernel
theorem dL_law_257 : decode cL_law 257 = .ok (.iload_n 3, 1) := by decide +kernel
theorem dL_law_258 : decode cL_law 258 = .ok (.iconst 1, 1) := by decide +kernel
theorem dL_law_259 : decode cL_law 259 = .ok (.iadd, 1) := by decide +kernel
theorem dL_law_260 : decode cL_law 260 = .ok (.iaload, 1) := by decide +kernel
theorem dL_law_261 : decode cL_law 261 = .ok (.aload_n 0, 1) := by decide +kernel
theorem dL_law_262 : decode cL_law 262 = .ok (.iload_n 3, 1) := by decide +kernel
theorem dL_law_263 : decode cL_law 263 = .ok (.iconst 2, 1) := by decide +kernel
theorem dL_law_264 : decode cL_law 264 = .ok (.iadd, 1) := by decide +kernel
theorem dL_law_265 : decode cL_law 265 = .ok (.iaload, 1) := by decide +kernel
theorem dL_law_266 : decode cL_law 266 = .ok (.aload_n 0, 1) := by decide +kernel
theorem dL_law_267 : decode cL_law 267 = .ok (.iload_n 3, 1) := by decide +kernel
theorem dL_law_268 : decode cL_law 268 = .ok (.iconst 3, 1) := by decide +kernel
theorem dL_law_269 : decode cL_law 269 = .ok (.iadd, 1) := by decide +kernel
theorem dL_law_270 : decode cL_law 270 = .ok (.iaload, 1) := by decide +kernel
theorem dL_law_271 : decode cL_law 271 = .ok (.invokevirtual 17, 3) := by decide +kernel
theorem dL_law_274 : decode cL_law 274 = .ok (.if_icmp .eq 1083, 3) := by decide +kernel
theorem dL_law_277 : decode cL_law 277 = .ok (.iconst 0, 1) := by decide +kernel
theorem dL_law_278 : decode cL_law 278 = .ok (.ireturn, 1) := by decide +kernel
theorem dL_law_279 : decode cL_law 279 = .ok (.aload_n 1, 1) := by decide +kernel
theorem dL_law_280 : decode cL_law 280 = .ok (.invokevirtual 18, 3) := by decide +kernel
theorem dL_law_283 : decode cL_law 283 = .ok (.aload_n 2, 1) := by decide +kernel
theorem dL_law_284 : decode cL_law 284 = .ok (.invokevirtual 22, 3) := by decide +kernel
theorem dL_law_287 : decode cL_law 287 = .ok (.if_icmp .eq 1070, 3) := by decide +kernel
theorem dL_law_290 : decode cL_law 290 = .ok (.iconst 0, 1) := by decide +kernel
theorem dL_law_291 : decode cL_law 291 = .ok (.ireturn, 1) := by decide +kernel
theorem dL_law_292 : decode cL_law 292 = .ok (.aload_n 1, 1) := by decide +kernel
theorem dL_law_293 : decode cL_law 293 = .ok (.invokevirtual 23, 3) := by decide +kernel
theorem dL_law_296 : decode cL_law 296 = .ok (.aload_n 2, 1) := by decide +kernel
theorem dL_law_297 : decode cL_law 297 = .ok (.invokevirtual 26, 3) := by decide +kernel
theorem dL_law_300 : decode cL_law 300 = .ok (.if_icmp .eq 1057, 3) := by decide +kernel
theorem dL_law_303 : decode cL_law 303 = .ok (.iconst 0, 1) := by decide +kernel
theorem dL_law_304 : decode cL_law 304 = .ok (.ireturn, 1) := by decide +kernel
theorem dL_law_305 : decode cL_law 305 = .ok (.aload_n 1, 1) := by decide +kernel
theorem dL_law_306 : decode cL_law 306 = .ok (.invokevirtual 27, 3) := by decide +kernel
theorem dL_law_309 : decode cL_law 309 = .ok (.aload_n 2, 1) := by decide +kernel
theorem dL_law_310 : decode cL_law 310 = .ok (.invokevirtual 30, 3) := by decide +kernel
theorem dL_law_313 : decode cL_law 313 = .ok (.if_icmp .eq 1044, 3) := by decide +kernel
theorem dL_law_316 : decode cL_law 316 = .ok (.iconst 0, 1) := by decide +kernel
theorem dL_law_317 : decode cL_law 317 = .ok (.ireturn, 1) := by decide +kernel
theorem dL_law_318 : decode cL_law 318 = .ok (.aload_n 1, 1) := by decide +kernel
theorem dL_law_319 : decode cL_law 319 = .ok (.aload_n 0, 1) := by decide +kernel
theorem dL_law_320 : decode cL_law 320 = .ok (.iload_n 3, 1) := by decide +kernel
theorem dL_law_321 : decode cL_law 321 = .ok (.iconst 1, 1) := by decide +kernel
theorem dL_law_322 : decode cL_law 322 = .ok (.iadd, 1) := by decide +kernel
theorem dL_law_323 : decode cL_law 323 = .ok (.iaload, 1) := by decide +kernel
theorem dL_law_324 : decode cL_law 324 = .ok (.aload_n 0, 1) := by decide +kernel
theorem dL_law_325 : decode cL_law 325 = .ok (.iload_n 3, 1) := by decide +kernel
theorem dL_law_326 : decode cL_law 326 = .ok (.iconst 2, 1) := by decide +kernel
theorem dL_law_327 : decode cL_law 327 = .ok (.iadd, 1) := by decide +kernel
theorem dL_law_328 : decode cL_law 328 = .ok (.iaload, 1) := by decide +kernel
theorem dL_law_329 : decode cL_law 329 = .ok (.aload_n 0, 1) := by decide +kernel
theorem dL_law_330 : decode cL_law 330 = .ok (.iload_n 3, 1) := by decide +kernel
theorem dL_law_331 : decode cL_law 331 = .ok (.iconst 3, 1) := by decide +kernel
theorem dL_law_332 : decode cL_law 332 = .ok (.iadd, 1) := by decide +kernel
theorem dL_law_333 : decode cL_law 333 = .ok (.iaload, 1) := by decide +kernel
theorem dL_law_334 : decode cL_law 334 = .ok (.invokevirtual 31, 3) := by decide +kernel
theorem dL_law_337 : decode cL_law 337 = .ok (.aload_n 2, 1) := by decide +kernel
theorem dL_law_338 : decode cL_law 338 = .ok (.aload_n 0, 1) := by decide +kernel
theorem dL_law_339 : decode cL_law 339 = .ok (.iload_n 3, 1) := by decide +kernel
theorem dL_law_340 : decode cL_law 340 = .ok (.iconst 1, 1) := by decide +kernel
theorem dL_law_341 : decode cL_law 341 = .ok (.iadd, 1) := by decide +kernel
theorem dL_law_342 : decode cL_law 342 = .ok (.iaload, 1) := by decide +kernel
theorem dL_law_343 : decode cL_law 343 = .ok (.aload_n 0, 1) := by decide +kernel
theorem dL_law_344 : decode cL_law 344 = .ok (.iload_n 3, 1) := by decide +kernel
theorem dL_law_345 : decode cL_law 345 = .ok (.iconst 2, 1) := by decide +kernel
theorem dL_law_346 : decode cL_law 346 = .ok (.iadd, 1) := by decide +kernel
theorem dL_law_347 : decode cL_law 347 = .ok (.iaload, 1) := by decide +kernel
theorem dL_law_348 : decode cL_law 348 = .ok (.aload_n 0, 1) := by decide +kernel
theorem dL_law_349 : decode cL_law 349 = .ok (.iload_n 3, 1) := by decide +kernel
theorem dL_law_350 : decode cL_law 350 = .ok (.iconst 3, 1) := by decide +kernel
theorem dL_law_351 : decode cL_law 351 = .ok (.iadd, 1) := by decide +kernel
theorem dL_law_352 : decode cL_law 352 = .ok (.iaload, 1) := by decide +kernel
theorem dL_law_353 : decode cL_law 353 = .ok (.invokevirtual 34, 3) := by decide +kernel
theorem dL_law_356 : decode cL_law 356 = .ok (.if_icmp .eq 1001, 3) := by decide +kernel
theorem dL_law_359 : decode cL_law 359 = .ok (.iconst 0, 1) := by decide +kernel
theorem dL_law_360 : decode cL_law 360 = .ok (.ireturn, 1) := by decide +kernel
theorem dL_law_361 : decode cL_law 361 = .ok (.aload_n 1, 1) := by decide +kernel
theorem dL_law_362 : decode cL_law 362 = .ok (.aload_n 0, 1) := by decide +kernel
theorem dL_law_363 : decode cL_law 363 = .ok (.iload_n 3, 1) := by decide +kernel
theorem dL_law_364 : decode cL_law 364 = .ok (.iconst 1, 1) := by decide +kernel
theorem dL_law_365 : decode cL_law 365 = .ok (.iadd, 1) := by decide +kernel
theorem dL_law_366 : decode cL_law 366 = .ok (.iaload, 1) := by decide +kernel
theorem dL_law_367 : decode cL_law 367 = .ok (.invokevirtual 35, 3) := by decide +kernel
theorem dL_law_370 : decode cL_law 370 = .ok (.aload_n 2, 1) := by decide +kernel
theorem dL_law_371 : decode cL_law 371 = .ok (.aload_n 0, 1) := by decide +kernel
theorem dL_law_372 : decode cL_law 372 = .ok (.iload_n 3, 1) := by decide +kernel
theorem dL_law_373 : decode cL_law 373 = .ok (.iconst 1, 1) := by decide +kernel
theorem dL_law_374 : decode cL_law 374 = .ok (.iadd, 1) := by decide +kernel
theorem dL_law_375 : decode cL_law 375 = .ok (.iaload, 1) := by decide +kernel
theorem dL_law_376 : decode cL_law 376 = .ok (.invokevirtual 39, 3) := by decide +kernel
theorem dL_law_379 : decode cL_law 379 = .ok (.if_icmp .eq 978, 3) := by decide +kernel
theorem dL_law_382 : decode cL_law 382 = .ok (.iconst 0, 1) := by decide +kernel
theorem dL_law_383 : decode cL_law 383 = .ok (.ireturn, 1) := by decide +kernel
theorem dL_law_384 : decode cL_law 384 = .ok (.aload_n 1, 1) := by decide +kernel
theorem dL_law_385 : decode cL_law 385 = .ok (.aload_n 0, 1) := by decide +kernel
theorem dL_law_386 : decode cL_law 386 = .ok (.iload_n 3, 1) := by decide +kernel
theorem dL_law_387 : decode cL_law 387 = .ok (.iconst 1, 1) := by decide +kernel
theorem dL_law_388 : decode cL_law 388 = .ok (.iadd, 1) := by decide +kernel
theorem dL_law_389 : decode cL_law 389 = .ok (.iaload, 1) := by decide +kernel
theorem dL_law_390 : decode cL_law 390 = .ok (.invokevirtual 40, 3) := by decide +kernel
theorem dL_law_393 : decode cL_law 393 = .ok (.aload_n 2, 1) := by decide +kernel
theorem dL_law_394 : decode cL_law 394 = .ok (.aload_n 0, 1) := by decide +kernel
theorem dL_law_395 : decode cL_law 395 = .ok (.iload_n 3, 1) := by decide +kernel
theorem dL_law_396 : decode cL_law 396 = .ok (.iconst 1, 1) := by decide +kernel
theorem dL_law_397 : decode cL_law 397 = .ok (.iadd, 1) := by decide +kernel
theorem dL_law_398 : decode cL_law 398 = .ok (.iaload, 1) := by decide +kernel
theorem dL_law_399 : decode cL_law 399 = .ok (.invokevirtual 43, 3) := by decide +kernel
theorem dL_law_402 : decode cL_law 402 = .ok (.if_icmp .eq 955, 3) := by decide +kernel
theorem dL_law_405 : decode cL_law 405 = .ok (.iconst 0, 1) := by decide +kernel
theorem dL_law_406 : decode cL_law 406 = .ok (.ireturn, 1) := by decide +kernel
theorem dL_law_407 : decode cL_law 407 = .ok (.aload_n 1, 1) := by decide +kernel
theorem dL_law_408 : decode cL_law 408 = .ok (.aload_n 0, 1) := by decide +kernel
theorem dL_law_409 : decode cL_law 409 = .ok (.iload_n 3, 1) := by decide +kernel
theorem dL_law_410 : decode cL_law 410 = .ok (.iconst 1, 1) := by decide +kernel
theorem dL_law_411 : decode cL_law 411 = .ok (.iadd, 1) := by decide +kernel
theorem dL_law_412 : decode cL_law 412 = .ok (.iaload, 1) := by decide +kernel
theorem dL_law_413 : decode cL_law 413 = .ok (.aload_n 0, 1) := by decide +kernel
theorem dL_law_414 : decode cL_law 414 = .ok (.iload_n 3, 1) := by decide +kernel
theorem dL_law_415 : decode cL_law 415 = .ok (.iconst 2, 1) := by decide +kernel
theorem dL_law_416 : decode cL_law 416 = .ok (.iadd, 1) := by decide +kernel
theorem dL_law_417 : decode cL_law 417 = .ok (.iaload, 1) := by decide +kernel
theorem dL_law_418 : decode cL_law 418 = .ok (.invokevirtual 44, 3) := by decide +kernel
theorem dL_law_421 : decode cL_law 421 = .ok (.aload_n 2, 1) := by decide +kernel
theorem dL_law_422 : decode cL_law 422 = .ok (.aload_n 0, 1) := by decide +kernel
theorem dL_law_423 : decode cL_law 423 = .ok (.iload_n 3, 1) := by decide +kernel
theorem dL_law_424 : decode cL_law 424 = .ok (.iconst 1, 1) := by decide +kernel
theorem dL_law_425 : decode cL_law 425 = .ok (.iadd, 1) := by decide +kernel
theorem dL_law_426 : decode cL_law 426 = .ok (.iaload, 1) := by decide +kernel
theorem dL_law_427 : decode cL_law 427 = .ok (.aload_n 0, 1) := by decide +kernel
theorem dL_law_428 : decode cL_law 428 = .ok (.iload_n 3, 1) := by decide +kernel
theorem dL_law_429 : decode cL_law 429 = .ok (.iconst 2, 1) := by decide +kernel
theorem dL_law_430 : decode cL_law 430 = .ok (.iadd, 1) := by decide +kernel
theorem dL_law_431 : decode cL_law 431 = .ok (.iaload, 1) := by decide +kernel
theorem dL_law_432 : decode cL_law 432 = .ok (.invokevirtual 48, 3) := by decide +kernel
theorem dL_law_435 : decode cL_law 435 = .ok (.if_icmp .eq 922, 3) := by decide +kernel
theorem dL_law_438 : decode cL_law 438 = .ok (.iconst 0, 1) := by decide +kernel
theorem dL_law_439 : decode cL_law 439 = .ok (.ireturn, 1) := by decide +kernel
theorem dL_law_440 : decode cL_law 440 = .ok (.aload_n 1, 1) := by decide +kernel
theorem dL_law_441 : decode cL_law 441 = .ok (.aload_n 0, 1) := by decide +kernel
theorem dL_law_442 : decode cL_law 442 = .ok (.iload_n 3, 1) := by decide +kernel
theorem dL_law_443 : decode cL_law 443 = .ok (.iconst 1, 1) := by decide +kernel
theorem dL_law_444 : decode cL_law 444 = .ok (.iadd, 1) := by decide +kernel
theorem dL_law_445 : decode cL_law 445 = .ok (.iaload, 1) := by decide +kernel
theorem dL_law_446 : decode cL_law 446 = .ok (.aload_n 0, 1) := by decide +kernel
theorem dL_law_447 : decode cL_law 447 = .ok (.iload_n 3, 1) := by decide +kernel
theorem dL_law_448 : decode cL_law 448 = .ok (.iconst 2, 1) := by decide +kernel
theorem dL_law_449 : decode cL_law 449 = .ok (.iadd, 1) := by decide +kernel
theorem dL_law_450 : decode cL_law 450 = .ok (.iaload, 1) := by decide +kernel
theorem dL_law_451 : decode cL_law 451 = .ok (.invokevirtual 49, 3) := by decide +kernel
theorem dL_law_454 : decode cL_law 454 = .ok (.aload_n 2, 1) := by decide +kernel
theorem dL_law_455 : decode cL_law 455 = .ok (.aload_n 0, 1) := by decide +kernel
theorem dL_law_456 : decode cL_law 456 = .ok (.iload_n 3, 1) := by decide +kernel
theorem dL_law_457 : decode cL_law 457 = .ok (.iconst 1, 1) := by decide +kernel
theorem dL_law_458 : decode cL_law 458 = .ok (.iadd, 1) := by decide +kernel
theorem dL_law_459 : decode cL_law 459 = .ok (.iaload, 1) := by decide +kernel
theorem dL_law_460 : decode cL_law 460 = .ok (.aload_n 0, 1) := by decide +kernel
theorem dL_law_461 : decode cL_law 461 = .ok (.iload_n 3, 1) := by decide +kernel
theorem dL_law_462 : decode cL_law 462 = .ok (.iconst 2, 1) := by decide +kernel
theorem dL_law_463 : decode cL_law 463 = .ok (.iadd, 1) := by decide +kernel
theorem dL_law_464 : decode cL_law 464 = .ok (.iaload, 1) := by decide +kernel
theorem dL_law_465 : decode cL_law 465 = .ok (.invokevirtual 52, 3) := by decide +kernel
theorem dL_law_468 : decode cL_law 468 = .ok (.if_icmp .eq 889, 3) := by decide +kernel
theorem dL_law_471 : decode cL_law 471 = .ok (.iconst 0, 1) := by decide +kernel
theorem dL_law_472 : decode cL_law 472 = .ok (.ireturn, 1) := by decide +kernel
theorem dL_law_473 : decode cL_law 473 = .ok (.aload_n 1, 1) := by decide +kernel
theorem dL_law_474 : decode cL_law 474 = .ok (.aload_n 0, 1) := by decide +kernel
theorem dL_law_475 : decode cL_law 475 = .ok (.iload_n 3, 1) := by decide +kernel
theorem dL_law_476 : decode cL_law 476 = .ok (.iconst 1, 1) := by decide +kernel
theorem dL_law_477 : decode cL_law 477 = .ok (.iadd, 1) := by decide +kernel
theorem dL_law_478 : decode cL_law 478 = .ok (.iaload, 1) := by decide +kernel
theorem dL_law_479 : decode cL_law 479 = .ok (.invokevirtual 53, 3) := by decide +kernel
theorem dL_law_482 : decode cL_law 482 = .ok (.aload_n 2, 1) := by decide +kernel
theorem dL_law_483 : decode cL_law 483 = .ok (.aload_n 0, 1) := by decide +kernel
theorem dL_law_484 : decode cL_law 484 = .ok (.iload_n 3, 1) := by decide +kernel
theorem dL_law_485 : decode cL_law 485 = .ok (.iconst 1, 1) := by decide +kernel
theorem dL_law_486 : decode cL_law 486 = .ok (.iadd, 1) := by decide +kernel
theorem dL_law_487 : decode cL_law 487 = .ok (.iaload, 1) := by decide +kernel
theorem dL_law_488 : decode cL_law 488 = .ok (.invokevirtual 56, 3) := by decide +kernel
theorem dL_law_491 : decode cL_law 491 = .ok (.if_icmp .eq 866, 3) := by decide +kernel
theorem dL_law_494 : decode cL_law 494 = .ok (.iconst 0, 1) := by decide +kernel
theorem dL_law_495 : decode cL_law 495 = .ok (.ireturn, 1) := by decide +kernel
theorem dL_law_496 : decode cL_law 496 = .ok (.aload_n 1, 1) := by decide +kernel
theorem dL_law_497 : decode cL_law 497 = .ok (.aload_n 0, 1) := by decide +kernel
theorem dL_law_498 : decode cL_law 498 = .ok (.iload_n 3, 1) := by decide +kernel
theorem dL_law_499 : decode cL_law 499 = .ok (.iconst 1, 1) := by decide +kernel
theorem dL_law_500 : decode cL_law 500 = .ok (.iadd, 1) := by decide +kernel
theorem dL_law_501 : decode cL_law 501 = .ok (.iaload, 1) := by decide +kernel
theorem dL_law_502 : decode cL_law 502 = .ok (.aload_n 0, 1) := by decide +kernel
theorem dL_law_503 : decode cL_law 503 = .ok (.iload_n 3, 1) := by decide +kernel
theorem dL_law_504 : decode cL_law 504 = .ok (.iconst 2, 1) := by decide +kernel
theorem dL_law_505 : decode cL_law 505 = .ok (.iadd, 1) := by decide +kernel
theorem dL_law_506 : decode cL_law 506 = .ok (.iaload, 1) := by decide +kernel
theorem dL_law_507 : decode cL_law 507 = .ok (.invokevirtual 57, 3) := by decide +kernel
theorem dL_law_510 : decode cL_law 510 = .ok (.aload_n 2, 1) := by decide +kernel
theorem dL_law_511 : decode cL_law 511 = .ok (.aload_n 0, 1) := by decide +kernel
theorem dL_law_512 : decode cL_law 512 = .ok (.iload_n 3, 1) := by decide +kernel
theorem dL_law_513 : decode cL_law 513 = .ok (.iconst 1, 1) := by decide +kernel
theorem dL_law_514 : decode cL_law 514 = .ok (.iadd, 1) := by decide +kernel
theorem dL_law_515 : decode cL_law 515 = .ok (.iaload, 1) := by decide +kernel
theorem dL_law_516 : decode cL_law 516 = .ok (.aload_n 0, 1) := by decide +kernel
theorem dL_law_517 : decode cL_law 517 = .ok (.iload_n 3, 1) := by decide +kernel
theorem dL_law_518 : decode cL_law 518 = .ok (.iconst 2, 1) := by decide +kernel
theorem dL_law_519 : decode cL_law 519 = .ok (.iadd, 1) := by decide +kernel
theorem dL_law_520 : decode cL_law 520 = .ok (.iaload, 1) := by decide +kernel
theorem dL_law_521 : decode cL_law 521 = .ok (.invokevirtual 60, 3) := by decide +kernel
theorem dL_law_524 : decode cL_law 524 = .ok (.if_icmp .eq 833, 3) := by decide +kernel
theorem dL_law_527 : decode cL_law 527 = .ok (.iconst 0, 1) := by decide +kernel
theorem dL_law_528 : decode cL_law 528 = .ok (.ireturn, 1) := by decide +kernel
theorem dL_law_529 : decode cL_law 529 = .ok (.aload_n 1, 1) := by decide +kernel
theorem dL_law_530 : decode cL_law 530 = .ok (.aload_n 0, 1) := by decide +kernel
theorem dL_law_531 : decode cL_law 531 = .ok (.iload_n 3, 1) := by decide +kernel
theorem dL_law_532 : decode cL_law 532 = .ok (.iconst 1, 1) := by decide +kernel
theorem dL_law_533 : decode cL_law 533 = .ok (.iadd, 1) := by decide +kernel
theorem dL_law_534 : decode cL_law 534 = .ok (.iaload, 1) := by decide +kernel
theorem dL_law_535 : decode cL_law 535 = .ok (.aload_n 0, 1) := by decide +kernel
theorem dL_law_536 : decode cL_law 536 = .ok (.iload_n 3, 1) := by decide +kernel
theorem dL_law_537 : decode cL_law 537 = .ok (.iconst 2, 1) := by decide +kernel
theorem dL_law_538 : decode cL_law 538 = .ok (.iadd, 1) := by decide +kernel
theorem dL_law_539 : decode cL_law 539 = .ok (.iaload, 1) := by decide +kernel
theorem dL_law_540 : decode cL_law 540 = .ok (.invokevirtual 61, 3) := by decide +kernel
theorem dL_law_543 : decode cL_law 543 = .ok (.aload_n 2, 1) := by decide +kernel
theorem dL_law_544 : decode cL_law 544 = .ok (.aload_n 0, 1) := by decide +kernel
theorem dL_law_545 : decode cL_law 545 = .ok (.iload_n 3, 1) := by decide +kernel
theorem dL_law_546 : decode cL_law 546 = .ok (.iconst 1, 1) := by decide +kernel
theorem dL_law_547 : decode cL_law 547 = .ok (.iadd, 1) := by decide +kernel
theorem dL_law_548 : decode cL_law 548 = .ok (.iaload, 1) := by decide +kernel
theorem dL_law_549 : decode cL_law 549 = .ok (.aload_n 0, 1) := by decide +kernel
theorem dL_law_550 : decode cL_law 550 = .ok (.iload_n 3, 1) := by decide +kernel
theorem dL_law_551 : decode cL_law 551 = .ok (.iconst 2, 1) := by decide +kernel
theorem dL_law_552 : decode cL_law 552 = .ok (.iadd, 1) := by decide +kernel
theorem dL_law_553 : decode cL_law 553 = .ok (.iaload, 1) := by decide +kernel
theorem dL_law_554 : decode cL_law 554 = .ok (.invokevirtual 64, 3) := by decide +kernel
theorem dL_law_557 : decode cL_law 557 = .ok (.if_icmp .eq 800, 3) := by decide +kernel
theorem dL_law_560 : decode cL_law 560 = .ok (.iconst 0, 1) := by decide +kernel
theorem dL_law_561 : decode cL_law 561 = .ok (.ireturn, 1) := by decide +kernel
theorem dL_law_562 : decode cL_law 562 = .ok (.aload_n 1, 1) := by decide +kernel
theorem dL_law_563 : decode cL_law 563 = .ok (.aload_n 0, 1) := by decide +kernel
theorem dL_law_564 : decode cL_law 564 = .ok (.iload_n 3, 1) := by decide +kernel
theorem dL_law_565 : decode cL_law 565 = .ok (.iconst 1, 1) := by decide +kernel
theorem dL_law_566 : decode cL_law 566 = .ok (.iadd, 1) := by decide +kernel
theorem dL_law_567 : decode cL_law 567 = .ok (.iaload, 1) := by decide +kernel
theorem dL_law_568 : decode cL_law 568 = .ok (.aload_n 0, 1) := by decide +kernel
theorem dL_law_569 : decode cL_law 569 = .ok (.iload_n 3, 1) := by decide +kernel
theorem dL_law_570 : decode cL_law 570 = .ok (.iconst 2, 1) := by decide +kernel
theorem dL_law_571 : decode cL_law 571 = .ok (.iadd, 1) := by decide +kernel
theorem dL_law_572 : decode cL_law 572 = .ok (.iaload, 1) := by decide +kernel
theorem dL_law_573 : decode cL_law 573 = .ok (.aload_n 0, 1) := by decide +kernel
theorem dL_law_574 : decode cL_law 574 = .ok (.iload_n 3, 1) := by decide +kernel
theorem dL_law_575 : decode cL_law 575 = .ok (.iconst 3, 1) := by decide +kernel
theorem dL_law_576 : decode cL_law 576 = .ok (.iadd, 1) := by decide +kernel
theorem dL_law_577 : decode cL_law 577 = .ok (.iaload, 1) := by decide +kernel
theorem dL_law_578 : decode cL_law 578 = .ok (.invokevirtual 65, 3) := by decide +kernel
theorem dL_law_581 : decode cL_law 581 = .ok (.aload_n 2, 1) := by decide +kernel
theorem dL_law_582 : decode cL_law 582 = .ok (.aload_n 0, 1) := by decide +kernel
theorem dL_law_583 : decode cL_law 583 = .ok (.iload_n 3, 1) := by decide +kernel
theorem dL_law_584 : decode cL_law 584 = .ok (.iconst 1, 1) := by decide +kernel
theorem dL_law_585 : decode cL_law 585 = .ok (.iadd, 1) := by decide +kernel
theorem dL_law_586 : decode cL_law 586 = .ok (.iaload, 1) := by decide +kernel
theorem dL_law_587 : decode cL_law 587 = .ok (.aload_n 0, 1) := by decide +kernel
theorem dL_law_588 : decode cL_law 588 = .ok (.iload_n 3, 1) := by decide +kernel
theorem dL_law_589 : decode cL_law 589 = .ok (.iconst 2, 1) := by decide +kernel
theorem dL_law_590 : decode cL_law 590 = .ok (.iadd, 1) := by decide +kernel
theorem dL_law_591 : decode cL_law 591 = .ok (.iaload, 1) := by decide +kernel
theorem dL_law_592 : decode cL_law 592 = .ok (.aload_n 0, 1) := by decide +kernel
theorem dL_law_593 : decode cL_law 593 = .ok (.iload_n 3, 1) := by decide +kernel
theorem dL_law_594 : decode cL_law 594 = .ok (.iconst 3, 1) := by decide +kernel
theorem dL_law_595 : decode cL_law 595 = .ok (.iadd, 1) := by decide +kernel
theorem dL_law_596 : decode cL_law 596 = .ok (.iaload, 1) := by decide +kernel
theorem dL_law_597 : decode cL_law 597 = .ok (.invokevirtual 68, 3) := by decide +kernel
theorem dL_law_600 : decode cL_law 600 = .ok (.if_icmp .eq 757, 3) := by decide +kernel
theorem dL_law_603 : decode cL_law 603 = .ok (.iconst 0, 1) := by decide +kernel
theorem dL_law_604 : decode cL_law 604 = .ok (.ireturn, 1) := by decide +kernel
theorem dL_law_605 : decode cL_law 605 = .ok (.aload_n 1, 1) := by decide +kernel
theorem dL_law_606 : decode cL_law 606 = .ok (.aload_n 0, 1) := by decide +kernel
theorem dL_law_607 : decode cL_law 607 = .ok (.iload_n 3, 1) := by decide +kernel
theorem dL_law_608 : decode cL_law 608 = .ok (.iconst 1, 1) := by decide +kernel
theorem dL_law_609 : decode cL_law 609 = .ok (.iadd, 1) := by decide +kernel
theorem dL_law_610 : decode cL_law 610 = .ok (.iaload, 1) := by decide +kernel
theorem dL_law_611 : decode cL_law 611 = .ok (.aload_n 0, 1) := by decide +kernel
theorem dL_law_612 : decode cL_law 612 = .ok (.iload_n 3, 1) := by decide +kernel
theorem dL_law_613 : decode cL_law 613 = .ok (.iconst 2, 1) := by decide +kernel
theorem dL_law_614 : decode cL_law 614 = .ok (.iadd, 1) := by decide +kernel
theorem dL_law_615 : decode cL_law 615 = .ok (.iaload, 1) := by decide +kernel
theorem dL_law_616 : decode cL_law 616 = .ok (.aload_n 0, 1) := by decide +kernel
theorem dL_law_617 : decode cL_law 617 = .ok (.iload_n 3, 1) := by decide +kernel
theorem dL_law_618 : decode cL_law 618 = .ok (.iconst 3, 1) := by decide +kernel
theorem dL_law_619 : decode cL_law 619 = .ok (.iadd, 1) := by decide +kernel
theorem dL_law_620 : decode cL_law 620 = .ok (.iaload, 1) := by decide +kernel
theorem dL_law_621 : decode cL_law 621 = .ok (.invokevirtual 69, 3) := by decide +kernel
theorem dL_law_624 : decode cL_law 624 = .ok (.aload_n 2, 1) := by decide +kernel
theorem dL_law_625 : decode cL_law 625 = .ok (.aload_n 0, 1) := by decide +kernel
theorem dL_law_626 : decode cL_law 626 = .ok (.iload_n 3, 1) := by decide +kernel
theorem dL_law_627 : decode cL_law 627 = .ok (.iconst 1, 1) := by decide +kernel
theorem dL_law_628 : decode cL_law 628 = .ok (.iadd, 1) := by decide +kernel
theorem dL_law_629 : decode cL_law 629 = .ok (.iaload, 1) := by decide +kernel
theorem dL_law_630 : decode cL_law 630 = .ok (.aload_n 0, 1) := by decide +kernel
theorem dL_law_631 : decode cL_law 631 = .ok (.iload_n 3, 1) := by decide +kernel
theorem dL_law_632 : decode cL_law 632 = .ok (.iconst 2, 1) := by decide +kernel
theorem dL_law_633 : decode cL_law 633 = .ok (.iadd, 1) := by decide +kernel
theorem dL_law_634 : decode cL_law 634 = .ok (.iaload, 1) := by decide +kernel
theorem dL_law_635 : decode cL_law 635 = .ok (.aload_n 0, 1) := by decide +kernel
theorem dL_law_636 : decode cL_law 636 = .ok (.iload_n 3, 1) := by decide +kernel
theorem dL_law_637 : decode cL_law 637 = .ok (.iconst 3, 1) := by decide +kernel
theorem dL_law_638 : decode cL_law 638 = .ok (.iadd, 1) := by decide +kernel
theorem dL_law_639 : decode cL_law 639 = .ok (.iaload, 1) := by decide +kernel
theorem dL_law_640 : decode cL_law 640 = .ok (.invokevirtual 72, 3) := by decide +kernel
theorem dL_law_643 : decode cL_law 643 = .ok (.if_icmp .eq 714, 3) := by decide +kernel
theorem dL_law_646 : decode cL_law 646 = .ok (.iconst 0, 1) := by decide +kernel
theorem dL_law_647 : decode cL_law 647 = .ok (.ireturn, 1) := by decide +kernel
theorem dL_law_648 : decode cL_law 648 = .ok (.aload_n 1, 1) := by decide +kernel
theorem dL_law_649 : decode cL_law 649 = .ok (.invokevirtual 73, 3) := by decide +kernel
theorem dL_law_652 : decode cL_law 652 = .ok (.aload_n 2, 1) := by decide +kernel
theorem dL_law_653 : decode cL_law 653 = .ok (.invokevirtual 76, 3) := by decide +kernel
theorem dL_law_656 : decode cL_law 656 = .ok (.if_icmp .eq 701, 3) := by decide +kernel
theorem dL_law_659 : decode cL_law 659 = .ok (.iconst 0, 1) := by decide +kernel
theorem dL_law_660 : decode cL_law 660 = .ok (.ireturn, 1) := by decide +kernel
theorem dL_law_661 : decode cL_law 661 = .ok (.aload_n 1, 1) := by decide +kernel
theorem dL_law_662 : decode cL_law 662 = .ok (.aload_n 0, 1) := by decide +kernel
theorem dL_law_663 : decode cL_law 663 = .ok (.iload_n 3, 1) := by decide +kernel
theorem dL_law_664 : decode cL_law 664 = .ok (.iconst 1, 1) := by decide +kernel
theorem dL_law_665 : decode cL_law 665 = .ok (.iadd, 1) := by decide +kernel
theorem dL_law_666 : decode cL_law 666 = .ok (.iaload, 1) := by decide +kernel
theorem dL_law_667 : decode cL_law 667 = .ok (.invokevirtual 77, 3) := by decide +kernel
theorem dL_law_670 : decode cL_law 670 = .ok (.aload_n 2, 1) := by decide +kernel
theorem dL_law_671 : decode cL_law 671 = .ok (.aload_n 0, 1) := by decide +kernel
theorem dL_law_672 : decode cL_law 672 = .ok (.iload_n 3, 1) := by decide +kernel
theorem dL_law_673 : decode cL_law 673 = .ok (.iconst 1, 1) := by decide +kernel
theorem dL_law_674 : decode cL_law 674 = .ok (.iadd, 1) := by decide +kernel
theorem dL_law_675 : decode cL_law 675 = .ok (.iaload, 1) := by decide +kernel
theorem dL_law_676 : decode cL_law 676 = .ok (.invokevirtual 80, 3) := by decide +kernel
theorem dL_law_679 : decode cL_law 679 = .ok (.if_icmp .eq 678, 3) := by decide +kernel
theorem dL_law_682 : decode cL_law 682 = .ok (.iconst 0, 1) := by decide +kernel
theorem dL_law_683 : decode cL_law 683 = .ok (.ireturn, 1) := by decide +kernel
theorem dL_law_684 : decode cL_law 684 = .ok (.aload_n 1, 1) := by decide +kernel
theorem dL_law_685 : decode cL_law 685 = .ok (.aload_n 0, 1) := by decide +kernel
theorem dL_law_686 : decode cL_law 686 = .ok (.iload_n 3, 1) := by decide +kernel
theorem dL_law_687 : decode cL_law 687 = .ok (.iconst 1, 1) := by decide +kernel
theorem dL_law_688 : decode cL_law 688 = .ok (.iadd, 1) := by decide +kernel
theorem dL_law_689 : decode cL_law 689 = .ok (.iaload, 1) := by decide +kernel
theorem dL_law_690 : decode cL_law 690 = .ok (.invokevirtual 81, 3) := by decide +kernel
theorem dL_law_693 : decode cL_law 693 = .ok (.aload_n 2, 1) := by decide +kernel
theorem dL_law_694 : decode cL_law 694 = .ok (.aload_n 0, 1) := by decide +kernel
theorem dL_law_695 : decode cL_law 695 = .ok (.iload_n 3, 1) := by decide +kernel
theorem dL_law_696 : decode cL_law 696 = .ok (.iconst 1, 1) := by decide +kernel
theorem dL_law_697 : decode cL_law 697 = .ok (.iadd, 1) := by decide +kernel
theorem dL_law_698 : decode cL_law 698 = .ok (.iaload, 1) := by decide +kernel
theorem dL_law_699 : decode cL_law 699 = .ok (.invokevirtual 84, 3) := by decide +kernel
theorem dL_law_702 : decode cL_law 702 = .ok (.if_icmp .eq 655, 3) := by decide +kernel
theorem dL_law_705 : decode cL_law 705 = .ok (.iconst 0, 1) := by decide +kernel
theorem dL_law_706 : decode cL_law 706 = .ok (.ireturn, 1) := by decide +kernel
theorem dL_law_707 : decode cL_law 707 = .ok (.aload_n 1, 1) := by decide +kernel
theorem dL_law_708 : decode cL_law 708 = .ok (.aload_n 0, 1) := by decide +kernel
theorem dL_law_709 : decode cL_law 709 = .ok (.iload_n 3, 1) := by decide +kernel
theorem dL_law_710 : decode cL_law 710 = .ok (.iconst 1, 1) := by decide +kernel
theorem dL_law_711 : decode cL_law 711 = .ok (.iadd, 1) := by decide +kernel
theorem dL_law_712 : decode cL_law 712 = .ok (.iaload, 1) := by decide +kernel
theorem dL_law_713 : decode cL_law 713 = .ok (.aload_n 0, 1) := by decide +kernel
theorem dL_law_714 : decode cL_law 714 = .ok (.iload_n 3, 1) := by decide +kernel
theorem dL_law_715 : decode cL_law 715 = .ok (.iconst 2, 1) := by decide +kernel
theorem dL_law_716 : decode cL_law 716 = .ok (.iadd, 1) := by decide +kernel
theorem dL_law_717 : decode cL_law 717 = .ok (.iaload, 1) := by decide +kernel
theorem dL_law_718 : decode cL_law 718 = .ok (.aload_n 0, 1) := by decide +kernel
theorem dL_law_719 : decode cL_law 719 = .ok (.iload_n 3, 1) := by decide +kernel
theorem dL_law_720 : decode cL_law 720 = .ok (.iconst 3, 1) := by decide +kernel
theorem dL_law_721 : decode cL_law 721 = .ok (.iadd, 1) := by decide +kernel
theorem dL_law_722 : decode cL_law 722 = .ok (.iaload, 1) := by decide +kernel
theorem dL_law_723 : decode cL_law 723 = .ok (.invokevirtual 85, 3) := by decide +kernel
theorem dL_law_726 : decode cL_law 726 = .ok (.aload_n 2, 1) := by decide +kernel
theorem dL_law_727 : decode cL_law 727 = .ok (.aload_n 0, 1) := by decide +kernel
theorem dL_law_728 : decode cL_law 728 = .ok (.iload_n 3, 1) := by decide +kernel
theorem dL_law_729 : decode cL_law 729 = .ok (.iconst 1, 1) := by decide +kernel
theorem dL_law_730 : decode cL_law 730 = .ok (.iadd, 1) := by decide +kernel
theorem dL_law_731 : decode cL_law 731 = .ok (.iaload, 1) := by decide +kernel
theorem dL_law_732 : decode cL_law 732 = .ok (.aload_n 0, 1) := by decide +kernel
theorem dL_law_733 : decode cL_law 733 = .ok (.iload_n 3, 1) := by decide +kernel
theorem dL_law_734 : decode cL_law 734 = .ok (.iconst 2, 1) := by decide +kernel
theorem dL_law_735 : decode cL_law 735 = .ok (.iadd, 1) := by decide +kernel
theorem dL_law_736 : decode cL_law 736 = .ok (.iaload, 1) := by decide +kernel
theorem dL_law_737 : decode cL_law 737 = .ok (.aload_n 0, 1) := by decide +kernel
theorem dL_law_738 : decode cL_law 738 = .ok (.iload_n 3, 1) := by decide +kernel
theorem dL_law_739 : decode cL_law 739 = .ok (.iconst 3, 1) := by decide +kernel
theorem dL_law_740 : decode cL_law 740 = .ok (.iadd, 1) := by decide +kernel
theorem dL_law_741 : decode cL_law 741 = .ok (.iaload, 1) := by decide +kernel
theorem dL_law_742 : decode cL_law 742 = .ok (.invokevirtual 88, 3) := by decide +kernel
theorem dL_law_745 : decode cL_law 745 = .ok (.if_icmp .eq 612, 3) := by decide +kernel
theorem dL_law_748 : decode cL_law 748 = .ok (.iconst 0, 1) := by decide +kernel
theorem dL_law_749 : decode cL_law 749 = .ok (.ireturn, 1) := by decide +kernel
theorem dL_law_750 : decode cL_law 750 = .ok (.aload_n 1, 1) := by decide +kernel
theorem dL_law_751 : decode cL_law 751 = .ok (.aload_n 0, 1) := by decide +kernel
theorem dL_law_752 : decode cL_law 752 = .ok (.iload_n 3, 1) := by decide +kernel
theorem dL_law_753 : decode cL_law 753 = .ok (.iconst 1, 1) := by decide +kernel
theorem dL_law_754 : decode cL_law 754 = .ok (.iadd, 1) := by decide +kernel
theorem dL_law_755 : decode cL_law 755 = .ok (.iaload, 1) := by decide +kernel
theorem dL_law_756 : decode cL_law 756 = .ok (.invokevirtual 89, 3) := by decide +kernel
theorem dL_law_759 : decode cL_law 759 = .ok (.aload_n 2, 1) := by decide +kernel
theorem dL_law_760 : decode cL_law 760 = .ok (.aload_n 0, 1) := by decide +kernel
theorem dL_law_761 : decode cL_law 761 = .ok (.iload_n 3, 1) := by decide +kernel
theorem dL_law_762 : decode cL_law 762 = .ok (.iconst 1, 1) := by decide +kernel
theorem dL_law_763 : decode cL_law 763 = .ok (.iadd, 1) := by decide +kernel
theorem dL_law_764 : decode cL_law 764 = .ok (.iaload, 1) := by decide +kernel
theorem dL_law_765 : decode cL_law 765 = .ok (.invokevirtual 92, 3) := by decide +kernel
theorem dL_law_768 : decode cL_law 768 = .ok (.if_icmp .eq 589, 3) := by decide +kernel
theorem dL_law_771 : decode cL_law 771 = .ok (.iconst 0, 1) := by decide +kernel
theorem dL_law_772 : decode cL_law 772 = .ok (.ireturn, 1) := by decide +kernel
theorem dL_law_773 : decode cL_law 773 = .ok (.aload_n 1, 1) := by decide +kernel
theorem dL_law_774 : decode cL_law 774 = .ok (.invokevirtual 93, 3) := by decide +kernel
theorem dL_law_777 : decode cL_law 777 = .ok (.aload_n 2, 1) := by decide +kernel
theorem dL_law_778 : decode cL_law 778 = .ok (.invokevirtual 96, 3) := by decide +kernel
theorem dL_law_781 : decode cL_law 781 = .ok (.if_icmp .eq 576, 3) := by decide +kernel
theorem dL_law_784 : decode cL_law 784 = .ok (.iconst 0, 1) := by decide +kernel
theorem dL_law_785 : decode cL_law 785 = .ok (.ireturn, 1) := by decide +kernel
theorem dL_law_786 : decode cL_law 786 = .ok (.aload_n 1, 1) := by decide +kernel
theorem dL_law_787 : decode cL_law 787 = .ok (.invokevirtual 97, 3) := by decide +kernel
theorem dL_law_790 : decode cL_law 790 = .ok (.aload_n 2, 1) := by decide +kernel
theorem dL_law_791 : decode cL_law 791 = .ok (.invokevirtual 100, 3) := by decide +kernel
theorem dL_law_794 : decode cL_law 794 = .ok (.if_icmp .eq 563, 3) := by decide +kernel
theorem dL_law_797 : decode cL_law 797 = .ok (.iconst 0, 1) := by decide +kernel
theorem dL_law_798 : decode cL_law 798 = .ok (.ireturn, 1) := by decide +kernel
theorem dL_law_799 : decode cL_law 799 = .ok (.aload_n 1, 1) := by decide +kernel
theorem dL_law_800 : decode cL_law 800 = .ok (.aload_n 0, 1) := by decide +kernel
theorem dL_law_801 : decode cL_law 801 = .ok (.iload_n 3, 1) := by decide +kernel
theorem dL_law_802 : decode cL_law 802 = .ok (.iconst 1, 1) := by decide +kernel
theorem dL_law_803 : decode cL_law 803 = .ok (.iadd, 1) := by decide +kernel
theorem dL_law_804 : decode cL_law 804 = .ok (.iaload, 1) := by decide +kernel
theorem dL_law_805 : decode cL_law 805 = .ok (.aload_n 0, 1) := by decide +kernel
theorem dL_law_806 : decode cL_law 806 = .ok (.iload_n 3, 1) := by decide +kernel
theorem dL_law_807 : decode cL_law 807 = .ok (.iconst 2, 1) := by decide +kernel
theorem dL_law_808 : decode cL_law 808 = .ok (.iadd, 1) := by decide +kernel
theorem dL_law_809 : decode cL_law 809 = .ok (.iaload, 1) := by decide +kernel
theorem dL_law_810 : decode cL_law 810 = .ok (.aload_n 0, 1) := by decide +kernel
theorem dL_law_811 : decode cL_law 811 = .ok (.iload_n 3, 1) := by decide +kernel
theorem dL_law_812 : decode cL_law 812 = .ok (.iconst 3, 1) := by decide +kernel
theorem dL_law_813 : decode cL_law 813 = .ok (.iadd, 1) := by decide +kernel
theorem dL_law_814 : decode cL_law 814 = .ok (.iaload, 1) := by decide +kernel
theorem dL_law_815 : decode cL_law 815 = .ok (.invokevirtual 101, 3) := by decide +kernel
theorem dL_law_818 : decode cL_law 818 = .ok (.aload_n 2, 1) := by decide +kernel
theorem dL_law_819 : decode cL_law 819 = .ok (.aload_n 0, 1) := by decide +kernel
theorem dL_law_820 : decode cL_law 820 = .ok (.iload_n 3, 1) := by decide +kernel
theorem dL_law_821 : decode cL_law 821 = .ok (.iconst 1, 1) := by decide +kernel
theorem dL_law_822 : decode cL_law 822 = .ok (.iadd, 1) := by decide +kernel
theorem dL_law_823 : decode cL_law 823 = .ok (.iaload, 1) := by decide +kernel
theorem dL_law_824 : decode cL_law 824 = .ok (.aload_n 0, 1) := by decide +kernel
theorem dL_law_825 : decode cL_law 825 = .ok (.iload_n 3, 1) := by decide +kernel
theorem dL_law_826 : decode cL_law 826 = .ok (.iconst 2, 1) := by decide +kernel
theorem dL_law_827 : decode cL_law 827 = .ok (.iadd, 1) := by decide +kernel
theorem dL_law_828 : decode cL_law 828 = .ok (.iaload, 1) := by decide +kernel
theorem dL_law_829 : decode cL_law 829 = .ok (.aload_n 0, 1) := by decide +kernel
theorem dL_law_830 : decode cL_law 830 = .ok (.iload_n 3, 1) := by decide +kernel
theorem dL_law_831 : decode cL_law 831 = .ok (.iconst 3, 1) := by decide +kernel
theorem dL_law_832 : decode cL_law 832 = .ok (.iadd, 1) := by decide +kernel
theorem dL_law_833 : decode cL_law 833 = .ok (.iaload, 1) := by decide +kernel
theorem dL_law_834 : decode cL_law 834 = .ok (.invokevirtual 104, 3) := by decide +kernel
theorem dL_law_837 : decode cL_law 837 = .ok (.if_icmp .eq 520, 3) := by decide +kernel
theorem dL_law_840 : decode cL_law 840 = .ok (.iconst 0, 1) := by decide +kernel
theorem dL_law_841 : decode cL_law 841 = .ok (.ireturn, 1) := by decide +kernel
theorem dL_law_842 : decode cL_law 842 = .ok (.aload_n 1, 1) := by decide +kernel
theorem dL_law_843 : decode cL_law 843 = .ok (.invokevirtual 105, 3) := by decide +kernel
theorem dL_law_846 : decode cL_law 846 = .ok (.aload_n 2, 1) := by decide +kernel
theorem dL_law_847 : decode cL_law 847 = .ok (.invokevirtual 108, 3) := by decide +kernel
theorem dL_law_850 : decode cL_law 850 = .ok (.if_icmp .eq 507, 3) := by decide +kernel
theorem dL_law_853 : decode cL_law 853 = .ok (.iconst 0, 1) := by decide +kernel
theorem dL_law_854 : decode cL_law 854 = .ok (.ireturn, 1) := by decide +kernel
theorem dL_law_855 : decode cL_law 855 = .ok (.aload_n 1, 1) := by decide +kernel
theorem dL_law_856 : decode cL_law 856 = .ok (.invokevirtual 109, 3) := by decide +kernel
theorem dL_law_859 : decode cL_law 859 = .ok (.aload_n 2, 1) := by decide +kernel
theorem dL_law_860 : decode cL_law 860 = .ok (.invokevirtual 112, 3) := by decide +kernel
theorem dL_law_863 : decode cL_law 863 = .ok (.if_icmp .eq 494, 3) := by decide +kernel
theorem dL_law_866 : decode cL_law 866 = .ok (.iconst 0, 1) := by decide +kernel
theorem dL_law_867 : decode cL_law 867 = .ok (.ireturn, 1) := by decide +kernel
theorem dL_law_868 : decode cL_law 868 = .ok (.aload_n 1, 1) := by decide +kernel
theorem dL_law_869 : decode cL_law 869 = .ok (.invokevirtual 113, 3) := by decide +kernel
theorem dL_law_872 : decode cL_law 872 = .ok (.aload_n 2, 1) := by decide +kernel
theorem dL_law_873 : decode cL_law 873 = .ok (.invokevirtual 116, 3) := by decide +kernel
theorem dL_law_876 : decode cL_law 876 = .ok (.if_icmp .eq 481, 3) := by decide +kernel
theorem dL_law_879 : decode cL_law 879 = .ok (.iconst 0, 1) := by decide +kernel
theorem dL_law_880 : decode cL_law 880 = .ok (.ireturn, 1) := by decide +kernel
theorem dL_law_881 : decode cL_law 881 = .ok (.aload_n 1, 1) := by decide +kernel
theorem dL_law_882 : decode cL_law 882 = .ok (.aload_n 0, 1) := by decide +kernel
theorem dL_law_883 : decode cL_law 883 = .ok (.iload_n 3, 1) := by decide +kernel
theorem dL_law_884 : decode cL_law 884 = .ok (.iconst 1, 1) := by decide +kernel
theorem dL_law_885 : decode cL_law 885 = .ok (.iadd, 1) := by decide +kernel
theorem dL_law_886 : decode cL_law 886 = .ok (.iaload, 1) := by decide +kernel
theorem dL_law_887 : decode cL_law 887 = .ok (.invokevirtual 117, 3) := by decide +kernel
theorem dL_law_890 : decode cL_law 890 = .ok (.aload_n 2, 1) := by decide +kernel
theorem dL_law_891 : decode cL_law 891 = .ok (.aload_n 0, 1) := by decide +kernel
theorem dL_law_892 : decode cL_law 892 = .ok (.iload_n 3, 1) := by decide +kernel
theorem dL_law_893 : decode cL_law 893 = .ok (.iconst 1, 1) := by decide +kernel
theorem dL_law_894 : decode cL_law 894 = .ok (.iadd, 1) := by decide +kernel
theorem dL_law_895 : decode cL_law 895 = .ok (.iaload, 1) := by decide +kernel
theorem dL_law_896 : decode cL_law 896 = .ok (.invokevirtual 120, 3) := by decide +kernel
theorem dL_law_899 : decode cL_law 899 = .ok (.if_icmp .eq 458, 3) := by decide +kernel
theorem dL_law_902 : decode cL_law 902 = .ok (.iconst 0, 1) := by decide +kernel
theorem dL_law_903 : decode cL_law 903 = .ok (.ireturn, 1) := by decide +kernel
theorem dL_law_904 : decode cL_law 904 = .ok (.aload_n 1, 1) := by decide +kernel
theorem dL_law_905 : decode cL_law 905 = .ok (.aload_n 0, 1) := by decide +kernel
theorem dL_law_906 : decode cL_law 906 = .ok (.iload_n 3, 1) := by decide +kernel
theorem dL_law_907 : decode cL_law 907 = .ok (.iconst 1, 1) := by decide +kernel
theorem dL_law_908 : decode cL_law 908 = .ok (.iadd, 1) := by decide +kernel
theorem dL_law_909 : decode cL_law 909 = .ok (.iaload, 1) := by decide +kernel
theorem dL_law_910 : decode cL_law 910 = .ok (.invokevirtual 121, 3) := by decide +kernel
theorem dL_law_913 : decode cL_law 913 = .ok (.aload_n 2, 1) := by decide +kernel
theorem dL_law_914 : decode cL_law 914 = .ok (.aload_n 0, 1) := by decide +kernel
theorem dL_law_915 : decode cL_law 915 = .ok (.iload_n 3, 1) := by decide +kernel
theorem dL_law_916 : decode cL_law 916 = .ok (.iconst 1, 1) := by decide +kernel
theorem dL_law_917 : decode cL_law 917 = .ok (.iadd, 1) := by decide +kernel
theorem dL_law_918 : decode cL_law 918 = .ok (.iaload, 1) := by decide +kernel
theorem dL_law_919 : decode cL_law 919 = .ok (.invokevirtual 124, 3) := by decide +kernel
theorem dL_law_922 : decode cL_law 922 = .ok (.if_icmp .eq 435, 3) := by decide +kernel
theorem dL_law_925 : decode cL_law 925 = .ok (.iconst 0, 1) := by decide +kernel
theorem dL_law_926 : decode cL_law 926 = .ok (.ireturn, 1) := by decide +kernel
theorem dL_law_927 : decode cL_law 927 = .ok (.aload_n 1, 1) := by decide +kernel
theorem dL_law_928 : decode cL_law 928 = .ok (.aload_n 0, 1) := by decide +kernel
theorem dL_law_929 : decode cL_law 929 = .ok (.iload_n 3, 1) := by decide +kernel
theorem dL_law_930 : decode cL_law 930 = .ok (.iconst 1, 1) := by decide +kernel
theorem dL_law_931 : decode cL_law 931 = .ok (.iadd, 1) := by decide +kernel
theorem dL_law_932 : decode cL_law 932 = .ok (.iaload, 1) := by decide +kernel
theorem dL_law_933 : decode cL_law 933 = .ok (.aload_n 0, 1) := by decide +kernel
theorem dL_law_934 : decode cL_law 934 = .ok (.iload_n 3, 1) := by decide +kernel
theorem dL_law_935 : decode cL_law 935 = .ok (.iconst 2, 1) := by decide +kernel
theorem dL_law_936 : decode cL_law 936 = .ok (.iadd, 1) := by decide +kernel
theorem dL_law_937 : decode cL_law 937 = .ok (.iaload, 1) := by decide +kernel
theorem dL_law_938 : decode cL_law 938 = .ok (.aload_n 0, 1) := by decide +kernel
theorem dL_law_939 : decode cL_law 939 = .ok (.iload_n 3, 1) := by decide +kernel
theorem dL_law_940 : decode cL_law 940 = .ok (.iconst 3, 1) := by decide +kernel
theorem dL_law_941 : decode cL_law 941 = .ok (.iadd, 1) := by decide +kernel
theorem dL_law_942 : decode cL_law 942 = .ok (.iaload, 1) := by decide +kernel
theorem dL_law_943 : decode cL_law 943 = .ok (.invokevirtual 125, 3) := by decide +kernel
theorem dL_law_946 : decode cL_law 946 = .ok (.aload_n 2, 1) := by decide +kernel
theorem dL_law_947 : decode cL_law 947 = .ok (.aload_n 0, 1) := by decide +kernel
theorem dL_law_948 : decode cL_law 948 = .ok (.iload_n 3, 1) := by decide +kernel
theorem dL_law_949 : decode cL_law 949 = .ok (.iconst 1, 1) := by decide +kernel
theorem dL_law_950 : decode cL_law 950 = .ok (.iadd, 1) := by decide +kernel
theorem dL_law_951 : decode cL_law 951 = .ok (.iaload, 1) := by decide +kernel
theorem dL_law_952 : decode cL_law 952 = .ok (.aload_n 0, 1) := by decide +kernel
theorem dL_law_953 : decode cL_law 953 = .ok (.iload_n 3, 1) := by decide +kernel
theorem dL_law_954 : decode cL_law 954 = .ok (.iconst 2, 1) := by decide +kernel
theorem dL_law_955 : decode cL_law 955 = .ok (.iadd, 1) := by decide +kernel
theorem dL_law_956 : decode cL_law 956 = .ok (.iaload, 1) := by decide +kernel
theorem dL_law_957 : decode cL_law 957 = .ok (.aload_n 0, 1) := by decide +kernel
theorem dL_law_958 : decode cL_law 958 = .ok (.iload_n 3, 1) := by decide +kernel
theorem dL_law_959 : decode cL_law 959 = .ok (.iconst 3, 1) := by decide +kernel
theorem dL_law_960 : decode cL_law 960 = .ok (.iadd, 1) := by decide +kernel
theorem dL_law_961 : decode cL_law 961 = .ok (.iaload, 1) := by decide +kernel
theorem dL_law_962 : decode cL_law 962 = .ok (.invokevirtual 128, 3) := by decide +kernel
theorem dL_law_965 : decode cL_law 965 = .ok (.if_icmp .eq 392, 3) := by decide +kernel
theorem dL_law_968 : decode cL_law 968 = .ok (.iconst 0, 1) := by decide +kernel
theorem dL_law_969 : decode cL_law 969 = .ok (.ireturn, 1) := by decide +kernel
theorem dL_law_970 : decode cL_law 970 = .ok (.aload_n 1, 1) := by decide +kernel
theorem dL_law_971 : decode cL_law 971 = .ok (.aload_n 0, 1) := by decide +kernel
theorem dL_law_972 : decode cL_law 972 = .ok (.iload_n 3, 1) := by decide +kernel
theorem dL_law_973 : decode cL_law 973 = .ok (.iconst 1, 1) := by decide +kernel
theorem dL_law_974 : decode cL_law 974 = .ok (.iadd, 1) := by decide +kernel
theorem dL_law_975 : decode cL_law 975 = .ok (.iaload, 1) := by decide +kernel
theorem dL_law_976 : decode cL_law 976 = .ok (.invokevirtual 129, 3) := by decide +kernel
theorem dL_law_979 : decode cL_law 979 = .ok (.aload_n 2, 1) := by decide +kernel
theorem dL_law_980 : decode cL_law 980 = .ok (.aload_n 0, 1) := by decide +kernel
theorem dL_law_981 : decode cL_law 981 = .ok (.iload_n 3, 1) := by decide +kernel
theorem dL_law_982 : decode cL_law 982 = .ok (.iconst 1, 1) := by decide +kernel
theorem dL_law_983 : decode cL_law 983 = .ok (.iadd, 1) := by decide +kernel
theorem dL_law_984 : decode cL_law 984 = .ok (.iaload, 1) := by decide +kernel
theorem dL_law_985 : decode cL_law 985 = .ok (.invokevirtual 132, 3) := by decide +kernel
theorem dL_law_988 : decode cL_law 988 = .ok (.if_icmp .eq 369, 3) := by decide +kernel
theorem dL_law_991 : decode cL_law 991 = .ok (.iconst 0, 1) := by decide +kernel
theorem dL_law_992 : decode cL_law 992 = .ok (.ireturn, 1) := by decide +kernel
theorem dL_law_993 : decode cL_law 993 = .ok (.aload_n 1, 1) := by decide +kernel
theorem dL_law_994 : decode cL_law 994 = .ok (.invokevirtual 133, 3) := by decide +kernel
theorem dL_law_997 : decode cL_law 997 = .ok (.aload_n 2, 1) := by decide +kernel
theorem dL_law_998 : decode cL_law 998 = .ok (.invokevirtual 136, 3) := by decide +kernel
theorem dL_law_1001 : decode cL_law 1001 = .ok (.if_icmp .eq 356, 3) := by decide +kernel
theorem dL_law_1004 : decode cL_law 1004 = .ok (.iconst 0, 1) := by decide +kernel
theorem dL_law_1005 : decode cL_law 1005 = .ok (.ireturn, 1) := by decide +kernel
theorem dL_law_1006 : decode cL_law 1006 = .ok (.aload_n 1, 1) := by decide +kernel
theorem dL_law_1007 : decode cL_law 1007 = .ok (.invokevirtual 137, 3) := by decide +kernel
theorem dL_law_1010 : decode cL_law 1010 = .ok (.aload_n 2, 1) := by decide +kernel
theorem dL_law_1011 : decode cL_law 1011 = .ok (.invokevirtual 140, 3) := by decide +kernel
theorem dL_law_1014 : decode cL_law 1014 = .ok (.if_icmp .eq 343, 3) := by decide +kernel
theorem dL_law_1017 : decode cL_law 1017 = .ok (.iconst 0, 1) := by decide +kernel
theorem dL_law_1018 : decode cL_law 1018 = .ok (.ireturn, 1) := by decide +kernel
theorem dL_law_1019 : decode cL_law 1019 = .ok (.aload_n 1, 1) := by decide +kernel
theorem dL_law_1020 : decode cL_law 1020 = .ok (.invokevirtual 141, 3) := by decide +kernel
theorem dL_law_1023 : decode cL_law 1023 = .ok (.aload_n 2, 1) := by decide +kernel
theorem dL_law_1024 : decode cL_law 1024 = .ok (.invokevirtual 144, 3) := by decide +kernel
theorem dL_law_1027 : decode cL_law 1027 = .ok (.if_icmp .eq 330, 3) := by decide +kernel
theorem dL_law_1030 : decode cL_law 1030 = .ok (.iconst 0, 1) := by decide +kernel
theorem dL_law_1031 : decode cL_law 1031 = .ok (.ireturn, 1) := by decide +kernel
theorem dL_law_1032 : decode cL_law 1032 = .ok (.aload_n 1, 1) := by decide +kernel
theorem dL_law_1033 : decode cL_law 1033 = .ok (.aload_n 0, 1) := by decide +kernel
theorem dL_law_1034 : decode cL_law 1034 = .ok (.iload_n 3, 1) := by decide +kernel
theorem dL_law_1035 : decode cL_law 1035 = .ok (.iconst 1, 1) := by decide +kernel
theorem dL_law_1036 : decode cL_law 1036 = .ok (.iadd, 1) := by decide +kernel
theorem dL_law_1037 : decode cL_law 1037 = .ok (.iaload, 1) := by decide +kernel
theorem dL_law_1038 : decode cL_law 1038 = .ok (.invokevirtual 145, 3) := by decide +kernel
theorem dL_law_1041 : decode cL_law 1041 = .ok (.aload_n 2, 1) := by decide +kernel
theorem dL_law_1042 : decode cL_law 1042 = .ok (.aload_n 0, 1) := by decide +kernel
theorem dL_law_1043 : decode cL_law 1043 = .ok (.iload_n 3, 1) := by decide +kernel
theorem dL_law_1044 : decode cL_law 1044 = .ok (.iconst 1, 1) := by decide +kernel
theorem dL_law_1045 : decode cL_law 1045 = .ok (.iadd, 1) := by decide +kernel
theorem dL_law_1046 : decode cL_law 1046 = .ok (.iaload, 1) := by decide +kernel
theorem dL_law_1047 : decode cL_law 1047 = .ok (.invokevirtual 148, 3) := by decide +kernel
theorem dL_law_1050 : decode cL_law 1050 = .ok (.if_icmp .eq 307, 3) := by decide +kernel
theorem dL_law_1053 : decode cL_law 1053 = .ok (.iconst 0, 1) := by decide +kernel
theorem dL_law_1054 : decode cL_law 1054 = .ok (.ireturn, 1) := by decide +kernel
theorem dL_law_1055 : decode cL_law 1055 = .ok (.aload_n 1, 1) := by decide +kernel
theorem dL_law_1056 : decode cL_law 1056 = .ok (.invokevirtual 149, 3) := by decide +kernel
theorem dL_law_1059 : decode cL_law 1059 = .ok (.aload_n 2, 1) := by decide +kernel
theorem dL_law_1060 : decode cL_law 1060 = .ok (.invokevirtual 152, 3) := by decide +kernel
theorem dL_law_1063 : decode cL_law 1063 = .ok (.if_icmp .eq 294, 3) := by decide +kernel
theorem dL_law_1066 : decode cL_law 1066 = .ok (.iconst 0, 1) := by decide +kernel
theorem dL_law_1067 : decode cL_law 1067 = .ok (.ireturn, 1) := by decide +kernel
theorem dL_law_1068 : decode cL_law 1068 = .ok (.aload_n 1, 1) := by decide +kernel
theorem dL_law_1069 : decode cL_law 1069 = .ok (.aload_n 0, 1) := by decide +kernel
theorem dL_law_1070 : decode cL_law 1070 = .ok (.iload_n 3, 1) := by decide +kernel
theorem dL_law_1071 : decode cL_law 1071 = .ok (.iconst 1, 1) := by decide +kernel
theorem dL_law_1072 : decode cL_law 1072 = .ok (.iadd, 1) := by decide +kernel
theorem dL_law_1073 : decode cL_law 1073 = .ok (.iaload, 1) := by decide +kernel
theorem dL_law_1074 : decode cL_law 1074 = .ok (.invokevirtual 153, 3) := by decide +kernel
theorem dL_law_1077 : decode cL_law 1077 = .ok (.aload_n 2, 1) := by decide +kernel
theorem dL_law_1078 : decode cL_law 1078 = .ok (.aload_n 0, 1) := by decide +kernel
theorem dL_law_1079 : decode cL_law 1079 = .ok (.iload_n 3, 1) := by decide +kernel
theorem dL_law_1080 : decode cL_law 1080 = .ok (.iconst 1, 1) := by decide +kernel
theorem dL_law_1081 : decode cL_law 1081 = .ok (.iadd, 1) := by decide +kernel
theorem dL_law_1082 : decode cL_law 1082 = .ok (.iaload, 1) := by decide +kernel
theorem dL_law_1083 : decode cL_law 1083 = .ok (.invokevirtual 156, 3) := by decide +kernel
theorem dL_law_1086 : decode cL_law 1086 = .ok (.if_icmp .eq 271, 3) := by decide +kernel
theorem dL_law_1089 : decode cL_law 1089 = .ok (.iconst 0, 1) := by decide +kernel
theorem dL_law_1090 : decode cL_law 1090 = .ok (.ireturn, 1) := by decide +kernel
theorem dL_law_1091 : decode cL_law 1091 = .ok (.aload_n 1, 1) := by decide +kernel
theorem dL_law_1092 : decode cL_law 1092 = .ok (.invokevirtual 157, 3) := by decide +kernel
theorem dL_law_1095 : decode cL_law 1095 = .ok (.aload_n 2, 1) := by decide +kernel
theorem dL_law_1096 : decode cL_law 1096 = .ok (.invokevirtual 160, 3) := by decide +kernel
theorem dL_law_1099 : decode cL_law 1099 = .ok (.if_icmp .eq 258, 3) := by decide +kernel
theorem dL_law_1102 : decode cL_law 1102 = .ok (.iconst 0, 1) := by decide +kernel
theorem dL_law_1103 : decode cL_law 1103 = .ok (.ireturn, 1) := by decide +kernel
theorem dL_law_1104 : decode cL_law 1104 = .ok (.aload_n 1, 1) := by decide +kernel
theorem dL_law_1105 : decode cL_law 1105 = .ok (.invokevirtual 161, 3) := by decide +kernel
theorem dL_law_1108 : decode cL_law 1108 = .ok (.aload_n 2, 1) := by decide +kernel
theorem dL_law_1109 : decode cL_law 1109 = .ok (.invokevirtual 164, 3) := by decide +kernel
theorem dL_law_1112 : decode cL_law 1112 = .ok (.if_icmp .eq 245, 3) := by decide +kernel
theorem dL_law_1115 : decode cL_law 1115 = .ok (.iconst 0, 1) := by decide +kernel
theorem dL_law_1116 : decode cL_law 1116 = .ok (.ireturn, 1) := by decide +kernel
theorem dL_law_1117 : decode cL_law 1117 = .ok (.aload_n 1, 1) := by decide +kernel
theorem dL_law_1118 : decode cL_law 1118 = .ok (.aload_n 0, 1) := by decide +kernel
theorem dL_law_1119 : decode cL_law 1119 = .ok (.iload_n 3, 1) := by decide +kernel
theorem dL_law_1120 : decode cL_law 1120 = .ok (.iconst 1, 1) := by decide +kernel
theorem dL_law_1121 : decode cL_law 1121 = .ok (.iadd, 1) := by decide +kernel
theorem dL_law_1122 : decode cL_law 1122 = .ok (.iaload, 1) := by decide +kernel
theorem dL_law_1123 : decode cL_law 1123 = .ok (.invokevirtual 165, 3) := by decide +kernel
theorem dL_law_1126 : decode cL_law 1126 = .ok (.aload_n 2, 1) := by decide +kernel
theorem dL_law_1127 : decode cL_law 1127 = .ok (.aload_n 0, 1) := by decide +kernel
theorem dL_law_1128 : decode cL_law 1128 = .ok (.iload_n 3, 1) := by decide +kernel
theorem dL_law_1129 : decode cL_law 1129 = .ok (.iconst 1, 1) := by decide +kernel
theorem dL_law_1130 : decode cL_law 1130 = .ok (.iadd, 1) := by decide +kernel
theorem dL_law_1131 : decode cL_law 1131 = .ok (.iaload, 1) := by decide +kernel
theorem dL_law_1132 : decode cL_law 1132 = .ok (.invokevirtual 168, 3) := by decide +kernel
theorem dL_law_1135 : decode cL_law 1135 = .ok (.if_icmp .eq 222, 3) := by decide +kernel
theorem dL_law_1138 : decode cL_law 1138 = .ok (.iconst 0, 1) := by decide +kernel
theorem dL_law_1139 : decode cL_law 1139 = .ok (.ireturn, 1) := by decide +kernel
theorem dL_law_1140 : decode cL_law 1140 = .ok (.aload_n 1, 1) := by decide +kernel
theorem dL_law_1141 : decode cL_law 1141 = .ok (.invokevirtual 169, 3) := by decide +kernel
theorem dL_law_1144 : decode cL_law 1144 = .ok (.aload_n 2, 1) := by decide +kernel
theorem dL_law_1145 : decode cL_law 1145 = .ok (.invokevirtual 172, 3) := by decide +kernel
theorem dL_law_1148 : decode cL_law 1148 = .ok (.if_icmp .eq 209, 3) := by decide +kernel
theorem dL_law_1151 : decode cL_law 1151 = .ok (.iconst 0, 1) := by decide +kernel
theorem dL_law_1152 : decode cL_law 1152 = .ok (.ireturn, 1) := by decide +kernel
theorem dL_law_1153 : decode cL_law 1153 = .ok (.aload_n 1, 1) := by decide +kernel
theorem dL_law_1154 : decode cL_law 1154 = .ok (.invokevirtual 173, 3) := by decide +kernel
theorem dL_law_1157 : decode cL_law 1157 = .ok (.aload_n 2, 1) := by decide +kernel
theorem dL_law_1158 : decode cL_law 1158 = .ok (.invokevirtual 176, 3) := by decide +kernel
theorem dL_law_1161 : decode cL_law 1161 = .ok (.if_icmp .eq 196, 3) := by decide +kernel
theorem dL_law_1164 : decode cL_law 1164 = .ok (.iconst 0, 1) := by decide +kernel
theorem dL_law_1165 : decode cL_law 1165 = .ok (.ireturn, 1) := by decide +kernel
theorem dL_law_1166 : decode cL_law 1166 = .ok (.aload_n 1, 1) := by decide +kernel
theorem dL_law_1167 : decode cL_law 1167 = .ok (.invokevirtual 177, 3) := by decide +kernel
theorem dL_law_1170 : decode cL_law 1170 = .ok (.aload_n 2, 1) := by decide +kernel
theorem dL_law_1171 : decode cL_law 1171 = .ok (.invokevirtual 180, 3) := by decide +kernel
theorem dL_law_1174 : decode cL_law 1174 = .ok (.if_icmp .eq 183, 3) := by decide +kernel
theorem dL_law_1177 : decode cL_law 1177 = .ok (.iconst 0, 1) := by decide +kernel
theorem dL_law_1178 : decode cL_law 1178 = .ok (.ireturn, 1) := by decide +kernel
theorem dL_law_1179 : decode cL_law 1179 = .ok (.aload_n 1, 1) := by decide +kernel
theorem dL_law_1180 : decode cL_law 1180 = .ok (.aload_n 0, 1) := by decide +kernel
theorem dL_law_1181 : decode cL_law 1181 = .ok (.iload_n 3, 1) := by decide +kernel
theorem dL_law_1182 : decode cL_law 1182 = .ok (.iconst 1, 1) := by decide +kernel
theorem dL_law_1183 : decode cL_law 1183 = .ok (.iadd, 1) := by decide +kernel
theorem dL_law_1184 : decode cL_law 1184 = .ok (.iaload, 1) := by decide +kernel
theorem dL_law_1185 : decode cL_law 1185 = .ok (.aload_n 0, 1) := by decide +kernel
theorem dL_law_1186 : decode cL_law 1186 = .ok (.iload_n 3, 1) := by decide +kernel
theorem dL_law_1187 : decode cL_law 1187 = .ok (.iconst 2, 1) := by decide +kernel
theorem dL_law_1188 : decode cL_law 1188 = .ok (.iadd, 1) := by decide +kernel
theorem dL_law_1189 : decode cL_law 1189 = .ok (.iaload, 1) := by decide +kernel
theorem dL_law_1190 : decode cL_law 1190 = .ok (.aload_n 0, 1) := by decide +kernel
theorem dL_law_1191 : decode cL_law 1191 = .ok (.iload_n 3, 1) := by decide +kernel
theorem dL_law_1192 : decode cL_law 1192 = .ok (.iconst 3, 1) := by decide +kernel
theorem dL_law_1193 : decode cL_law 1193 = .ok (.iadd, 1) := by decide +kernel
theorem dL_law_1194 : decode cL_law 1194 = .ok (.iaload, 1) := by decide +kernel
theorem dL_law_1195 : decode cL_law 1195 = .ok (.invokevirtual 181, 3) := by decide +kernel
theorem dL_law_1198 : decode cL_law 1198 = .ok (.aload_n 2, 1) := by decide +kernel
theorem dL_law_1199 : decode cL_law 1199 = .ok (.aload_n 0, 1) := by decide +kernel
theorem dL_law_1200 : decode cL_law 1200 = .ok (.iload_n 3, 1) := by decide +kernel
theorem dL_law_1201 : decode cL_law 1201 = .ok (.iconst 1, 1) := by decide +kernel
theorem dL_law_1202 : decode cL_law 1202 = .ok (.iadd, 1) := by decide +kernel
theorem dL_law_1203 : decode cL_law 1203 = .ok (.iaload, 1) := by decide +kernel
theorem dL_law_1204 : decode cL_law 1204 = .ok (.aload_n 0, 1) := by decide +kernel
theorem dL_law_1205 : decode cL_law 1205 = .ok (.iload_n 3, 1) := by decide +kernel
theorem dL_law_1206 : decode cL_law 1206 = .ok (.iconst 2, 1) := by decide +kernel
theorem dL_law_1207 : decode cL_law 1207 = .ok (.iadd, 1) := by decide +kernel
theorem dL_law_1208 : decode cL_law 1208 = .ok (.iaload, 1) := by decide +kernel
theorem dL_law_1209 : decode cL_law 1209 = .ok (.aload_n 0, 1) := by decide +kernel
theorem dL_law_1210 : decode cL_law 1210 = .ok (.iload_n 3, 1) := by decide +kernel
theorem dL_law_1211 : decode cL_law 1211 = .ok (.iconst 3, 1) := by decide +kernel
theorem dL_law_1212 : decode cL_law 1212 = .ok (.iadd, 1) := by decide +kernel
theorem dL_law_1213 : decode cL_law 1213 = .ok (.iaload, 1) := by decide +kernel
theorem dL_law_1214 : decode cL_law 1214 = .ok (.invokevirtual 184, 3) := by decide +kernel
theorem dL_law_1217 : decode cL_law 1217 = .ok (.if_icmp .eq 140, 3) := by decide +kernel
theorem dL_law_1220 : decode cL_law 1220 = .ok (.iconst 0, 1) := by decide +kernel
theorem dL_law_1221 : decode cL_law 1221 = .ok (.ireturn, 1) := by decide +kernel
theorem dL_law_1222 : decode cL_law 1222 = .ok (.aload_n 1, 1) := by decide +kernel
theorem dL_law_1223 : decode cL_law 1223 = .ok (.aload_n 0, 1) := by decide +kernel
theorem dL_law_1224 : decode cL_law 1224 = .ok (.iload_n 3, 1) := by decide +kernel
theorem dL_law_1225 : decode cL_law 1225 = .ok (.iconst 1, 1) := by decide +kernel
theorem dL_law_1226 : decode cL_law 1226 = .ok (.iadd, 1) := by decide +kernel
theorem dL_law_1227 : decode cL_law 1227 = .ok (.iaload, 1) := by decide +kernel
theorem dL_law_1228 : decode cL_law 1228 = .ok (.aload_n 0, 1) := by decide +kernel
theorem dL_law_1229 : decode cL_law 1229 = .ok (.iload_n 3, 1) := by decide +kernel
theorem dL_law_1230 : decode cL_law 1230 = .ok (.iconst 2, 1) := by decide +kernel
theorem dL_law_1231 : decode cL_law 1231 = .ok (.iadd, 1) := by decide +kernel
theorem dL_law_1232 : decode cL_law 1232 = .ok (.iaload, 1) := by decide +kernel
theorem dL_law_1233 : decode cL_law 1233 = .ok (.aload_n 0, 1) := by decide +kernel
theorem dL_law_1234 : decode cL_law 1234 = .ok (.iload_n 3, 1) := by decide +kernel
theorem dL_law_1235 : decode cL_law 1235 = .ok (.iconst 3, 1) := by decide +kernel
theorem dL_law_1236 : decode cL_law 1236 = .ok (.iadd, 1) := by decide +kernel
theorem dL_law_1237 : decode cL_law 1237 = .ok (.iaload, 1) := by decide +kernel
theorem dL_law_1238 : decode cL_law 1238 = .ok (.invokevirtual 185, 3) := by decide +kernel
theorem dL_law_1241 : decode cL_law 1241 = .ok (.aload_n 2, 1) := by decide +kernel
theorem dL_law_1242 : decode cL_law 1242 = .ok (.aload_n 0, 1) := by decide +kernel
theorem dL_law_1243 : decode cL_law 1243 = .ok (.iload_n 3, 1) := by decide +kernel
theorem dL_law_1244 : decode cL_law 1244 = .ok (.iconst 1, 1) := by decide +kernel
theorem dL_law_1245 : decode cL_law 1245 = .ok (.iadd, 1) := by decide +kernel
theorem dL_law_1246 : decode cL_law 1246 = .ok (.iaload, 1) := by decide +kernel
theorem dL_law_1247 : decode cL_law 1247 = .ok (.aload_n 0, 1) := by decide +kernel
theorem dL_law_1248 : decode cL_law 1248 = .ok (.iload_n 3, 1) := by decide +kernel
theorem dL_law_1249 : decode cL_law 1249 = .ok (.iconst 2, 1) := by decide +kernel
theorem dL_law_1250 : decode cL_law 1250 = .ok (.iadd, 1) := by decide +kernel
theorem dL_law_1251 : decode cL_law 1251 = .ok (.iaload, 1) := by decide +kernel
theorem dL_law_1252 : decode cL_law 1252 = .ok (.aload_n 0, 1) := by decide +kernel
theorem dL_law_1253 : decode cL_law 1253 = .ok (.iload_n 3, 1) := by decide +kernel
theorem dL_law_1254 : decode cL_law 1254 = .ok (.iconst 3, 1) := by decide +kernel
theorem dL_law_1255 : decode cL_law 1255 = .ok (.iadd, 1) := by decide +kernel
theorem dL_law_1256 : decode cL_law 1256 = .ok (.iaload, 1) := by decide +kernel
theorem dL_law_1257 : decode cL_law 1257 = .ok (.invokevirtual 188, 3) := by decide +kernel
theorem dL_law_1260 : decode cL_law 1260 = .ok (.if_icmp .eq 97, 3) := by decide +kernel
theorem dL_law_1263 : decode cL_law 1263 = .ok (.iconst 0, 1) := by decide +kernel
theorem dL_law_1264 : decode cL_law 1264 = .ok (.ireturn, 1) := by decide +kernel
theorem dL_law_1265 : decode cL_law 1265 = .ok (.aload_n 1, 1) := by decide +kernel
theorem dL_law_1266 : decode cL_law 1266 = .ok (.aload_n 0, 1) := by decide +kernel
theorem dL_law_1267 : decode cL_law 1267 = .ok (.iload_n 3, 1) := by decide +kernel
theorem dL_law_1268 : decode cL_law 1268 = .ok (.iconst 1, 1) := by decide +kernel
theorem dL_law_1269 : decode cL_law 1269 = .ok (.iadd, 1) := by decide +kernel
theorem dL_law_1270 : decode cL_law 1270 = .ok (.iaload, 1) := by decide +kernel
theorem dL_law_1271 : decode cL_law 1271 = .ok (.aload_n 0, 1) := by decide +kernel
theorem dL_law_1272 : decode cL_law 1272 = .ok (.iload_n 3, 1) := by decide +kernel
theorem dL_law_1273 : decode cL_law 1273 = .ok (.iconst 2, 1) := by decide +kernel
theorem dL_law_1274 : decode cL_law 1274 = .ok (.iadd, 1) := by decide +kernel
theorem dL_law_1275 : decode cL_law 1275 = .ok (.iaload, 1) := by decide +kernel
theorem dL_law_1276 : decode cL_law 1276 = .ok (.invokevirtual 189, 3) := by decide +kernel
theorem dL_law_1279 : decode cL_law 1279 = .ok (.aload_n 2, 1) := by decide +kernel
theorem dL_law_1280 : decode cL_law 1280 = .ok (.aload_n 0, 1) := by decide +kernel
theorem dL_law_1281 : decode cL_law 1281 = .ok (.iload_n 3, 1) := by decide +kernel
theorem dL_law_1282 : decode cL_law 1282 = .ok (.iconst 1, 1) := by decide +kernel
theorem dL_law_1283 : decode cL_law 1283 = .ok (.iadd, 1) := by decide +kernel
theorem dL_law_1284 : decode cL_law 1284 = .ok (.iaload, 1) := by decide +kernel
theorem dL_law_1285 : decode cL_law 1285 = .ok (.aload_n 0, 1) := by decide +kernel
theorem dL_law_1286 : decode cL_law 1286 = .ok (.iload_n 3, 1) := by decide +kernel
theorem dL_law_1287 : decode cL_law 1287 = .ok (.iconst 2, 1) := by decide +kernel
theorem dL_law_1288 : decode cL_law 1288 = .ok (.iadd, 1) := by decide +kernel
theorem dL_law_1289 : decode cL_law 1289 = .ok (.iaload, 1) := by decide +kernel
theorem dL_law_1290 : decode cL_law 1290 = .ok (.invokevirtual 192, 3) := by decide +kernel
theorem dL_law_1293 : decode cL_law 1293 = .ok (.if_icmp .eq 64, 3) := by decide +kernel
theorem dL_law_1296 : decode cL_law 1296 = .ok (.iconst 0, 1) := by decide +kernel
theorem dL_law_1297 : decode cL_law 1297 = .ok (.ireturn, 1) := by decide +kernel
theorem dL_law_1298 : decode cL_law 1298 = .ok (.aload_n 1, 1) := by decide +kernel
theorem dL_law_1299 : decode cL_law 1299 = .ok (.aload_n 0, 1) := by decide +kernel
theorem dL_law_1300 : decode cL_law 1300 = .ok (.iload_n 3, 1) := by decide +kernel
theorem dL_law_1301 : decode cL_law 1301 = .ok (.iconst 1, 1) := by decide +kernel
theorem dL_law_1302 : decode cL_law 1302 = .ok (.iadd, 1) := by decide +kernel
theorem dL_law_1303 : decode cL_law 1303 = .ok (.iaload, 1) := by decide +kernel
theorem dL_law_1304 : decode cL_law 1304 = .ok (.invokevirtual 193, 3) := by decide +kernel
theorem dL_law_1307 : decode cL_law 1307 = .ok (.aload_n 2, 1) := by decide +kernel
theorem dL_law_1308 : decode cL_law 1308 = .ok (.aload_n 0, 1) := by decide +kernel
theorem dL_law_1309 : decode cL_law 1309 = .ok (.iload_n 3, 1) := by decide +kernel
theorem dL_law_1310 : decode cL_law 1310 = .ok (.iconst 1, 1) := by decide +kernel
theorem dL_law_1311 : decode cL_law 1311 = .ok (.iadd, 1) := by decide +kernel
theorem dL_law_1312 : decode cL_law 1312 = .ok (.iaload, 1) := by decide +kernel
theorem dL_law_1313 : decode cL_law 1313 = .ok (.invokevirtual 196, 3) := by decide +kernel
theorem dL_law_1316 : decode cL_law 1316 = .ok (.if_icmp .eq 41, 3) := by decide +kernel
theorem dL_law_1319 : decode cL_law 1319 = .ok (.iconst 0, 1) := by decide +kernel
theorem dL_law_1320 : decode cL_law 1320 = .ok (.ireturn, 1) := by decide +kernel
theorem dL_law_1321 : decode cL_law 1321 = .ok (.aload_n 1, 1) := by decide +kernel
theorem dL_law_1322 : decode cL_law 1322 = .ok (.aload_n 0, 1) := by decide +kernel
theorem dL_law_1323 : decode cL_law 1323 = .ok (.iload_n 3, 1) := by decide +kernel
theorem dL_law_1324 : decode cL_law 1324 = .ok (.iconst 1, 1) := by decide +kernel
theorem dL_law_1325 : decode cL_law 1325 = .ok (.iadd, 1) := by decide +kernel
theorem dL_law_1326 : decode cL_law 1326 = .ok (.iaload, 1) := by decide +kernel
theorem dL_law_1327 : decode cL_law 1327 = .ok (.invokevirtual 197, 3) := by decide +kernel
theorem dL_law_1330 : decode cL_law 1330 = .ok (.aload_n 2, 1) := by decide +kernel
theorem dL_law_1331 : decode cL_law 1331 = .ok (.aload_n 0, 1) := by decide +kernel
theorem dL_law_1332 : decode cL_law 1332 = .ok (.iload_n 3, 1) := by decide +kernel
theorem dL_law_1333 : decode cL_law 1333 = .ok (.iconst 1, 1) := by decide +kernel
theorem dL_law_1334 : decode cL_law 1334 = .ok (.iadd, 1) := by decide +kernel
theorem dL_law_1335 : decode cL_law 1335 = .ok (.iaload, 1) := by decide +kernel
theorem dL_law_1336 : decode cL_law 1336 = .ok (.invokevirtual 200, 3) := by decide +kernel
theorem dL_law_1339 : decode cL_law 1339 = .ok (.if_icmp .eq 18, 3) := by decide +kernel
theorem dL_law_1342 : decode cL_law 1342 = .ok (.iconst 0, 1) := by decide +kernel
theorem dL_law_1343 : decode cL_law 1343 = .ok (.ireturn, 1) := by decide +kernel
theorem dL_law_1344 : decode cL_law 1344 = .ok (.aload_n 1, 1) := by decide +kernel
theorem dL_law_1345 : decode cL_law 1345 = .ok (.invokevirtual 201, 3) := by decide +kernel
theorem dL_law_1348 : decode cL_law 1348 = .ok (.aload_n 2, 1) := by decide +kernel
theorem dL_law_1349 : decode cL_law 1349 = .ok (.invokevirtual 204, 3) := by decide +kernel
theorem dL_law_1352 : decode cL_law 1352 = .ok (.if_icmp .eq 5, 3) := by decide +kernel
theorem dL_law_1355 : decode cL_law 1355 = .ok (.iconst 0, 1) := by decide +kernel
theorem dL_law_1356 : decode cL_law 1356 = .ok (.ireturn, 1) := by decide +kernel
theorem dL_law_1357 : decode cL_law 1357 = .ok (.iinc 3 4, 3) := by decide +kernel
theorem dL_law_1360 : decode cL_law 1360 = .ok (.goto (-1342), 3) := by decide +kernel
theorem dL_law_1363 : decode cL_law 1363 = .ok (.iconst 1, 1) := by decide +kernel
theorem dL_law_1364 : decode cL_law 1364 = .ok (.ireturn, 1) := by decide +kernel
end
section

/-! words: all good words of the tables at once -/
def TG : List Cond := lw_tbl.filter goodWord
theorem TG_tab {w : Cond} (i : Nat) (h : tables_1[i]? = some w) (g : goodWord w = true) : w ∈ TG := List.mem_filter.mpr ⟨List.mem_append_right _ (List.mem_of_getElem? h), g⟩
theorem TG_sel {q : MethodName × Nat} (i : Nat) (h : lw_privs[i]? = some q) : Cond.selects q.1.cls q.1 q.1 ∈ TG := List.mem_filter.mpr ⟨List.mem_append_left _ (List.mem_map.mpr ⟨q, List.mem_of_getElem? h, rfl⟩), rfl⟩
theorem TG_good {w : Cond} (h : w ∈ TG) : (w.onTables && w.keeps) = true ∨ ∃ ty, w = .arrayClass ty := good_of_word (List.mem_filter.mp h).2
theorem TG_all {ws : List Cond} (ps : List Nat) (hp : ws = ps.filterMap (fun i => tables_1[i]?)) (hg : ws.all goodWord = true) : ∀ w ∈ ws, w ∈ TG := by
  intro w hw
  have h1 := List.all_eq_true.mp hg w hw
  rw [hp] at hw
  obtain ⟨i, -, hi⟩ := List.mem_filterMap.mp hw
  exact TG_tab i hi h1
def isN : Cond → Bool
  | .fieldLinkNest .. => true
  | .methodLinkNest .. => true
  | _ => false
def NW (U : State) : Prop := ∀ w ∈ tables_1, isN w = true → va_Nw w U
theorem NW.same {u U : State} (h : u.vm = U.vm) (hn : NW u) : NW U := fun w hw hi => va_Nw.same (by cases w <;> first | rfl | (simp [isN] at hi)) h (hn w hw hi)
theorem NW.warm {s U : State} (hW : s.WarmedH U.vm) (hn : NW s) : NW U := by
  intro w hw hi
  have h := hn w hw hi
  cases w <;> first | (simp [isN] at hi; done) | exact va_Nw.warmF hW h | exact va_Nw.warmM hW h
theorem NW.tab {U : State} (hn : NW U) {w : Cond} (i : Nat) (h : tables_1[i]? = some w) (hi : isN w = true) : va_Nw w U := hn w (List.mem_of_getElem? h) hi
/-! the memory: by cell (its place from b0 on) and slot -/
abbrev Mem : Type := Nat → Nat → Int32
def upA (M : Mem) (k : Nat) (f : Nat → Int32) : Mem := fun a => if a = k then f else M a
def up (M : Mem) (k j : Nat) (v : Int32) : Mem := upA M k (upd (M k) j v)
theorem upA_s {M : Mem} {k : Nat} {f : Nat → Int32} : upA M k f k = f := if_pos rfl
theorem upA_n {M : Mem} {k a : Nat} {f : Nat → Int32} (h : a ≠ k) : upA M k f a = M a := if_neg h
theorem upd_s {f : Nat → Int32} {k : Nat} {x : Int32} : upd f k x k = x := if_pos rfl
theorem upd_n {f : Nat → Int32} {k j : Nat} {x : Int32} (h : j ≠ k) : upd f k x j = f j := if_neg h
theorem up_s {M : Mem} {k j : Nat} {v : Int32} : up M k j v k j = v := by unfold up; rw [upA_s, upd_s]
theorem up_a {M : Mem} {k j : Nat} {v : Int32} : up M k j v k = upd (M k) j v := by unfold up; rw [upA_s]
theorem up_n {M : Mem} {k j a : Nat} {v : Int32} (h : a ≠ k) : up M k j v a = M a := by unfold up; rw [upA_n h]
/-- what a cell is: an object (its class, its fields: an int, or null, or a place), an int array of a length, an array of places -/
abbrev LE : Type := (Nat × List (Option (Option Nat))) ⊕ (Nat ⊕ (Nat × List (Option Nat)))
abbrev Lay : Type := List LE
abbrev Gd : Type := va_G × ClassId × (Nat → ClassId)
def fv (b0 : Nat) (f : Nat → Int32) (j : Nat) (x : Option (Option Nat)) : Value := match x with
  | none => .int (f j)
  | some none => .null
  | some (some o) => .ref (b0 + o)
def qv (b0 : Nat) (l : List (Option Nat)) : Nat → Option Nat := fun j => (l.getD j none).map (fun o => b0 + o)
def cE (G : Gd) (b0 : Nat) (f : Nat → Int32) (e : LE) : va_E := match e with
  | .inl (ci, fs) => .inr (ci, fs.mapIdx (fun j x => fv b0 f j x))
  | .inr (.inl n) => .inl (G.2.1, n, .inl f)
  | .inr (.inr (t, r)) => .inl (G.2.2 t, r.length, .inr (.inr (.inr (.inr (qv b0 r)))))
def wl (G : Gd) (b0 : Nat) (lay : Lay) (M : Mem) : va_W := lay.mapIdx (fun k e => (b0 + k, cE G b0 (M k) e))
theorem wl_at {G : Gd} {b0 : Nat} {lay : Lay} {M : Mem} {k : Nat} {e : LE} (h : lay[k]? = some e) : (wl G b0 lay M)[k]? = some (b0 + k, cE G b0 (M k) e) := by
  simp [wl, List.getElem?_mapIdx, h]
theorem wl_D {G : Gd} {b0 : Nat} {lay : Lay} {M : Mem} : va_D (fun q => b0 ≤ q) (wl G b0 lay M) := by
  have key : ∀ (i : Nat) (p : Nat × va_E), (wl G b0 lay M)[i]? = some p → p.1 = b0 + i := by
    intro i p h
    simp only [wl, List.getElem?_mapIdx] at h
    cases hl : lay[i]? with
    | none => rw [hl] at h; cases h
    | some e => rw [hl] at h; cases h; rfl
  refine ⟨fun i j p q hp hq hpq => ?_, fun k q hq => ?_⟩
  · have h1 := key i p hp
    have h2 := key j q hq
    omega
  · have h1 := key k q hq
    show b0 ≤ q.1
    omega
theorem wl_setA {G : Gd} {b0 : Nat} {lay : Lay} {M : Mem} {k n : Nat} {f : Nat → Int32} (h : lay[k]? = some (.inr (.inl n))) : (wl G b0 lay M).set k (b0 + k, .inl (G.2.1, n, .inl f)) = wl G b0 lay (upA M k f) := by
  apply List.ext_getElem?
  intro i
  have hk : k < (wl G b0 lay M).length := by simp [wl]; exact (List.getElem?_eq_some_iff.mp h).1
  by_cases hi : i = k
  · subst hi
    rw [List.getElem?_set_self hk, wl_at h, upA_s]
    rfl
  · rw [List.getElem?_set_ne (Ne.symm hi)]
    simp only [wl, List.getElem?_mapIdx, upA_n hi]
theorem fv_set {b0 : Nat} {f : Nat → Int32} {fs : List (Option (Option Nat))} {j : Nat} {v : Int32} (hj : fs[j]? = some none) : (fs.mapIdx (fun j x => fv b0 f j x)).set j (.int v) = fs.mapIdx (fun i x => fv b0 (upd f j v) i x) := by
  apply List.ext_getElem?
  intro i
  have hl : j < (fs.mapIdx (fun j x => fv b0 f j x)).length := by simp; exact (List.getElem?_eq_some_iff.mp hj).1
  by_cases hi : i = j
  · subst hi
    rw [List.getElem?_set_self hl]
    simp [List.getElem?_mapIdx, hj, fv, upd]
  · rw [List.getElem?_set_ne (Ne.symm hi)]
    simp only [List.getElem?_mapIdx]
    congr 1
    funext x
    match x with
    | none => simp [fv, upd, hi]
    | some none => rfl
    | some (some o) => rfl
theorem wl_setI {G : Gd} {b0 : Nat} {lay : Lay} {M : Mem} {k ci j : Nat} {fs : List (Option (Option Nat))} {v : Int32} (h : lay[k]? = some (.inl (ci, fs))) (hj : fs[j]? = some none) : (wl G b0 lay M).set k (b0 + k, .inr (ci, (fs.mapIdx (fun j x => fv b0 (M k) j x)).set j (.int v))) = wl G b0 lay (up M k j v) := by
  apply List.ext_getElem?
  intro i
  have hk : k < (wl G b0 lay M).length := by simp [wl]; exact (List.getElem?_eq_some_iff.mp h).1
  by_cases hi : i = k
  · subst hi
    rw [List.getElem?_set_self hk, wl_at h, up_a, fv_set hj]
    rfl
  · rw [List.getElem?_set_ne (Ne.symm hi)]
    simp only [wl, List.getElem?_mapIdx, up_n hi]
def ctys (G : Gd) : List (ClassId × FieldType) := [(G.2.1, .int), (G.2.2 0, .object RX1), (G.2.2 1, .object RX7)]
def okK (G : Gd) (U : State) : Prop := va_K G.1 vwCl (ctys G) U
/-- what a method leaves: an int, or nothing -/
abbrev PT : Type := Int32 → Mem → Prop
def rv (ret : Option FieldType) (v : Int32) : Option Value := match ret with
  | none => none
  | some _ => some (.int v)
def WD (G : Gd) (b0 : Nat) (lay : Lay) (M : Mem) (H : Heap) : Prop := va_P G.1 vwCl (wl G b0 lay M) H
def World (G : Gd) (b0 : Nat) (lay : Lay) (M : Mem) (U : State) : Prop := U.heap.size = b0 + lay.length ∧ WD G b0 lay M U.heap ∧ okK G U ∧ NW U
theorem WD.le {G : Gd} {b0 : Nat} {lay : Lay} {M : Mem} {H : Heap} (h : WD G b0 lay M H) (hb : b0 ≤ H.size) : b0 + lay.length ≤ H.size := by
  rcases Nat.eq_zero_or_pos lay.length with h0 | h0
  · omega
  · have hk : lay.length - 1 < lay.length := by omega
    have h1 := (h _ _ (wl_at (List.getElem?_eq_getElem hk))).lt
    have h2 : b0 + (lay.length - 1) < H.size := h1
    omega
theorem W_size {p : Program} {l : Launch} {e : Env} {R : Room} {s : State} {m : MethodId} {args : Array Value} {below : List Frame} {meth : Method} {c : Code} {H : Heap} {locs : List Loc} {cells slots : Nat} {Q : State → Prop} {g : JFrame} (k : H.size ≤ s.heap.size + cells → W p l e R s m args below meth c H locs cells slots Q g) : W p l e R s m args below meth c H locs cells slots Q g := fun T hT X => k (by
  have h := X.same.2.2.1
  rw [← hT]
  exact h) T hT X
def QC (G : Gd) (b0 : Nat) (ret : Option FieldType) (lay' : Lay) (Post : PT) : Array Value → State → Outcome → State → Prop := fun _ st oc t => (∃ (v : Int32) (M' : Mem), oc = .returned (rv ret v) ∧ Post v M' ∧ World G b0 lay' M' t) ∧ va_F (fun q => b0 ≤ q) st t
/-- a method's contract -/
def Ct (l : Launch) (G : Gd) (b0 : Nat) (y : MethodName) (cc : ByteArray) (nL : Nat) (ret : Option FieldType) (rm : Room) (lay lay' : Lay) (M : Mem) (vs : List Value) (Post : PT) : Prop := Met l y (.code y cc nL ret :: TG) rm (va_Pc vs (World G b0 lay M)) (QC G b0 ret lay' Post) rm.cells rm.slots (fun q => b0 ≤ q)
def Fx (G : Gd) (y : MethodName) (cc : ByteArray) (nL : Nat) (ret : Option FieldType) (p : Program) (s : State) (m : MethodId) (args : Array Value) (meth : Method) (c : Code) : Prop :=
  p.tables.exec = Jvm.exec ∧ c.code = cc ∧ meth.sig.returnType = ret ∧ c.maxLocals = nL ∧ s.vm.findClass y.cls = some m.cls ∧ (∀ w ∈ TG, w.before args s = true) ∧ meth.locks = false ∧ okK G s ∧ NW s ∧ meth.name = y.name
def LH (la : Array Slot) (nL : Nat) (ls : List (Option Value)) : Prop := la.size = nL ∧ lv_wf la ∧ ls.length ≤ nL ∧ ∀ (i : Nat) (v : Value), ls[i]? = some (some v) → v.category = 1 ∧ la[i]? = some (.val v)
def S (l : Launch) (G : Gd) (b0 : Nat) (y : MethodName) (cc : ByteArray) (nL : Nat) (ret : Option FieldType) (rm : Room) (lay' : Lay) (Post : PT) (mc ms cells slots : Nat) (lay : Lay) (pc : Nat) (ls : List (Option Value)) (st : List Value) (M : Mem) : Prop :=
  ∀ (p : Program) (e : Env) (s : State) (m : MethodId) (args : Array Value) (below : List Frame) (meth : Method) (c : Code), Fx G y cc nL ret p s m args meth c → b0 ≤ s.heap.size → s.heap.size + cells = b0 + lay.length →
  ∀ (H : Heap) (locs : List Loc) (la : Array Slot), WD G b0 lay M H → va_S (fun q => b0 ≤ q) s.heap H locs → LH la nL ls →
  W p l e rm s m args below meth c H locs cells slots (MQ below (QC G b0 ret lay' Post) args s mc ms (fun q => b0 ≤ q)) (F0 m pc la st)
theorem LH.at {la : Array Slot} {nL i : Nat} {ls : List (Option Value)} {v : Value} (h : LH la nL ls) (hi : ls[i]? = some (some v)) : la[i]? = some (.val v) := (h.2.2.2 i v hi).2
theorem LH.lv {la : Array Slot} {nL : Nat} {ls : List (Option Value)} (h : LH la nL ls) : lv_has la nL ((List.range nL).filterMap (fun i => (ls.getD i none).map (fun v => (i, v)))) := by
  refine ⟨h.1, h.2.1, fun q hq => ?_⟩
  obtain ⟨i, -, hi⟩ := List.mem_filterMap.mp hq
  cases hv : ls.getD i none with
  | none => rw [hv] at hi; cases hi
  | some v =>
    rw [hv] at hi
    cases hi
    refine (h.2.2.2 i v ?_).2
    rw [List.getD_eq_getElem?_getD] at hv
    cases hz : ls[i]? with
    | none => rw [hz] at hv; cases hv
    | some z => rw [hz] at hv; simp at hv; rw [hv]
theorem LH.put {la la' : Array Slot} {nL i : Nat} {ls : List (Option Value)} {v : Value} (h : LH la nL ls) (hi : i < ls.length) (hc : v.category = 1) (h2 : lv_has la' nL ((i, v) :: ((List.range nL).filterMap (fun i => (ls.getD i none).map (fun v => (i, v)))).filter (fun q => !(q.1 == i) && !(q.1 + 1 == i && q.2.category == 2)))) : LH la' nL (ls.set i (some v)) := by
  refine ⟨h2.1, h2.2.1, by rw [List.length_set]; exact h.2.2.1, fun j x hj => ?_⟩
  by_cases hji : j = i
  · subst hji
    rw [List.getElem?_set_self hi] at hj
    cases hj
    exact ⟨hc, h2.2.2 (j, v) List.mem_cons_self⟩
  · rw [List.getElem?_set_ne (Ne.symm hji)] at hj
    have h1 := h.2.2.2 j x hj
    refine ⟨h1.1, h2.2.2 (j, x) (List.mem_cons_of_mem _ (List.mem_filter.mpr ⟨List.mem_filterMap.mpr ⟨j, List.mem_range.mpr ?_, ?_⟩, ?_⟩))⟩
    · have := (List.getElem?_eq_some_iff.mp hj).1
      have := h.2.2.1
      omega
    · rw [List.getD_eq_getElem?_getD, hj]; rfl
    · simp [hji, h1.1]
theorem LH.lt {la : Array Slot} {nL i : Nat} {ls : List (Option Value)} (h : LH la nL ls) (hi : i < ls.length) : i < nL := Nat.lt_of_lt_of_le hi h.2.2.1
section ENG
variable {l : Launch} {G : Gd} {b0 : Nat} {y : MethodName} {cc : ByteArray} {nL : Nat} {ret : Option FieldType} {rm : Room} {lay' : Lay} {Post : PT} {mc ms cells slots : Nat} {lay : Lay} {pc q : Nat} {ls : List (Option Value)} {st : List Value} {M : Mem}

theorem S_iadd {x z : Int32} (hd : decode cc pc = .ok (.iadd, 1)) (hq : pc + 1 = q) (k : S l G b0 y cc nL ret rm lay' Post mc ms cells slots lay q ls (.int (x + z) :: st) M) : S l G b0 y cc nL ret rm lay' Post mc ms cells slots lay pc ls (.int z :: .int x :: st) M := by
  subst hq; intro p e s m args below meth c F hb hz H locs la hw hs hl; exact lv_iadd F.1 F.2.1 hd (k p e s m args below meth c F hb hz H locs la hw hs hl)
theorem S_isub {x z : Int32} (hd : decode cc pc = .ok (.isub, 1)) (hq : pc + 1 = q) (k : S l G b0 y cc nL ret rm lay' Post mc ms cells slots lay q ls (.int (x - z) :: st) M) : S l G b0 y cc nL ret rm lay' Post mc ms cells slots lay pc ls (.int z :: .int x :: st) M := by
  subst hq; intro p e s m args below meth c F hb hz H locs la hw hs hl; exact lv_isub F.1 F.2.1 hd (k p e s m args below meth c F hb hz H locs la hw hs hl)
theorem S_imul {x z : Int32} (hd : decode cc pc = .ok (.imul, 1)) (hq : pc + 1 = q) (k : S l G b0 y cc nL ret rm lay' Post mc ms cells slots lay q ls (.int (x * z) :: st) M) : S l G b0 y cc nL ret rm lay' Post mc ms cells slots lay pc ls (.int z :: .int x :: st) M := by
  subst hq; intro p e s m args below meth c F hb hz H locs la hw hs hl; exact lv_imul F.1 F.2.1 hd (k p e s m args below meth c F hb hz H locs la hw hs hl)
theorem S_iand {x z : Int32} (hd : decode cc pc = .ok (.iand, 1)) (hq : pc + 1 = q) (k : S l G b0 y cc nL ret rm lay' Post mc ms cells slots lay q ls (.int (x &&& z) :: st) M) : S l G b0 y cc nL ret rm lay' Post mc ms cells slots lay pc ls (.int z :: .int x :: st) M := by
  subst hq; intro p e s m args below meth c F hb hz H locs la hw hs hl; exact lv_iand F.1 F.2.1 hd (k p e s m args below meth c F hb hz H locs la hw hs hl)
theorem S_ior {x z : Int32} (hd : decode cc pc = .ok (.ior, 1)) (hq : pc + 1 = q) (k : S l G b0 y cc nL ret rm lay' Post mc ms cells slots lay q ls (.int (x ||| z) :: st) M) : S l G b0 y cc nL ret rm lay' Post mc ms cells slots lay pc ls (.int z :: .int x :: st) M := by
  subst hq; intro p e s m args below meth c F hb hz H locs la hw hs hl; exact lv_ior F.1 F.2.1 hd (k p e s m args below meth c F hb hz H locs la hw hs hl)
theorem S_ixor {x z : Int32} (hd : decode cc pc = .ok (.ixor, 1)) (hq : pc + 1 = q) (k : S l G b0 y cc nL ret rm lay' Post mc ms cells slots lay q ls (.int (x ^^^ z) :: st) M) : S l G b0 y cc nL ret rm lay' Post mc ms cells slots lay pc ls (.int z :: .int x :: st) M := by
  subst hq; intro p e s m args below meth c F hb hz H locs la hw hs hl; exact lv_ixor F.1 F.2.1 hd (k p e s m args below meth c F hb hz H locs la hw hs hl)
theorem S_ishl {x z : Int32} (hd : decode cc pc = .ok (.ishl, 1)) (hq : pc + 1 = q) (k : S l G b0 y cc nL ret rm lay' Post mc ms cells slots lay q ls (.int (x <<< (z &&& 31)) :: st) M) : S l G b0 y cc nL ret rm lay' Post mc ms cells slots lay pc ls (.int z :: .int x :: st) M := by
  subst hq; intro p e s m args below meth c F hb hz H locs la hw hs hl; exact lv_ishl F.1 F.2.1 hd (k p e s m args below meth c F hb hz H locs la hw hs hl)
theorem S_ishr {x z : Int32} (hd : decode cc pc = .ok (.ishr, 1)) (hq : pc + 1 = q) (k : S l G b0 y cc nL ret rm lay' Post mc ms cells slots lay q ls (.int (x >>> (z &&& 31)) :: st) M) : S l G b0 y cc nL ret rm lay' Post mc ms cells slots lay pc ls (.int z :: .int x :: st) M := by
  subst hq; intro p e s m args below meth c F hb hz H locs la hw hs hl; exact lv_ishr F.1 F.2.1 hd (k p e s m args below meth c F hb hz H locs la hw hs hl)
theorem S_idiv {x z : Int32} (hd : decode cc pc = .ok (.idiv, 1)) (hne : ¬ z = 0) (hq : pc + 1 = q) (k : S l G b0 y cc nL ret rm lay' Post mc ms cells slots lay q ls (.int (x / z) :: st) M) : S l G b0 y cc nL ret rm lay' Post mc ms cells slots lay pc ls (.int z :: .int x :: st) M := by
  subst hq; intro p e s m args below meth c F hb hz H locs la hw hs hl; exact lv_idiv F.1 F.2.1 hd hne (k p e s m args below meth c F hb hz H locs la hw hs hl)
theorem S_irem {x z : Int32} (hd : decode cc pc = .ok (.irem, 1)) (hne : ¬ z = 0) (hq : pc + 1 = q) (k : S l G b0 y cc nL ret rm lay' Post mc ms cells slots lay q ls (.int (x - x / z * z) :: st) M) : S l G b0 y cc nL ret rm lay' Post mc ms cells slots lay pc ls (.int z :: .int x :: st) M := by
  subst hq; intro p e s m args below meth c F hb hz H locs la hw hs hl; exact lv_irem F.1 F.2.1 hd hne (k p e s m args below meth c F hb hz H locs la hw hs hl)
theorem S_ineg {x : Int32} (hd : decode cc pc = .ok (.ineg, 1)) (hq : pc + 1 = q) (k : S l G b0 y cc nL ret rm lay' Post mc ms cells slots lay q ls (.int (-x) :: st) M) : S l G b0 y cc nL ret rm lay' Post mc ms cells slots lay pc ls (.int x :: st) M := by
  subst hq; intro p e s m args below meth c F hb hz H locs la hw hs hl; exact lv_ineg F.1 F.2.1 hd (k p e s m args below meth c F hb hz H locs la hw hs hl)
theorem S_i2b {x : Int32} (hd : decode cc pc = .ok (.i2b, 1)) (hq : pc + 1 = q) (k : S l G b0 y cc nL ret rm lay' Post mc ms cells slots lay q ls (.int x.toInt8.toInt32 :: st) M) : S l G b0 y cc nL ret rm lay' Post mc ms cells slots lay pc ls (.int x :: st) M := by
  subst hq; intro p e s m args below meth c F hb hz H locs la hw hs hl; exact lv_i2b F.1 F.2.1 hd rfl (k p e s m args below meth c F hb hz H locs la hw hs hl)
theorem S_iushr {x z : Int32} (hd : decode cc pc = .ok (.iushr, 1)) (hq : pc + 1 = q) (k : S l G b0 y cc nL ret rm lay' Post mc ms cells slots lay q ls (.int ((x.toUInt32 >>> (z.toUInt32 &&& Int32.toUInt32 31)).toInt32) :: st) M) : S l G b0 y cc nL ret rm lay' Post mc ms cells slots lay pc ls (.int z :: .int x :: st) M := by
  subst hq; intro p e s m args below meth c F hb hz H locs la hw hs hl; exact lv_iushr F.1 F.2.1 hd rfl (k p e s m args below meth c F hb hz H locs la hw hs hl)
theorem S_iconst {n : Int} (v : Int32) (hd : decode cc pc = .ok (.iconst n, 1)) (hv : Int32.ofInt n = v) (hq : pc + 1 = q) (k : S l G b0 y cc nL ret rm lay' Post mc ms cells slots lay q ls (.int v :: st) M) : S l G b0 y cc nL ret rm lay' Post mc ms cells slots lay pc ls st M := by
  subst hq; intro p e s m args below meth c F hb hz H locs la hw hs hl; exact lv_iconst F.1 F.2.1 hd hv (k p e s m args below meth c F hb hz H locs la hw hs hl)
theorem S_bipush {n : Int} (v : Int32) (hd : decode cc pc = .ok (.bipush n, 2)) (hv : (Int8.ofInt n).toInt32 = v) (hq : pc + 2 = q) (k : S l G b0 y cc nL ret rm lay' Post mc ms cells slots lay q ls (.int v :: st) M) : S l G b0 y cc nL ret rm lay' Post mc ms cells slots lay pc ls st M := by
  subst hq; intro p e s m args below meth c F hb hz H locs la hw hs hl; exact lv_bipush F.1 F.2.1 hd hv (k p e s m args below meth c F hb hz H locs la hw hs hl)
theorem S_sipush {n : Int} (v : Int32) (hd : decode cc pc = .ok (.sipush n, 3)) (hv : (Int16.ofInt n).toInt32 = v) (hq : pc + 3 = q) (k : S l G b0 y cc nL ret rm lay' Post mc ms cells slots lay q ls (.int v :: st) M) : S l G b0 y cc nL ret rm lay' Post mc ms cells slots lay pc ls st M := by
  subst hq; intro p e s m args below meth c F hb hz H locs la hw hs hl; exact lv_sipush F.1 F.2.1 hd hv (k p e s m args below meth c F hb hz H locs la hw hs hl)
theorem S_ldcw {idx : Nat} (v : Int32) (hd : decode cc pc = .ok (.ldc_w idx, 3)) (hc : Cond.constant y.cls idx v ∈ TG) (hq : pc + 3 = q) (k : S l G b0 y cc nL ret rm lay' Post mc ms cells slots lay q ls (.int v :: st) M) : S l G b0 y cc nL ret rm lay' Post mc ms cells slots lay pc ls st M := by
  subst hq; intro p e s m args below meth c F hb hz H locs la hw hs hl; exact lv_ldcw F.1 F.2.1 F.2.2.2.2.1 (F.2.2.2.2.2.1 _ hc) hd (k p e s m args below meth c F hb hz H locs la hw hs hl)
theorem S_ldc {idx : Nat} (v : Int32) (hd : decode cc pc = .ok (.ldc idx, 2)) (hc : Cond.constant y.cls idx v ∈ TG) (hq : pc + 2 = q) (k : S l G b0 y cc nL ret rm lay' Post mc ms cells slots lay q ls (.int v :: st) M) : S l G b0 y cc nL ret rm lay' Post mc ms cells slots lay pc ls st M := by
  subst hq; intro p e s m args below meth c F hb hz H locs la hw hs hl; exact lv_ldc F.1 F.2.1 F.2.2.2.2.1 (F.2.2.2.2.2.1 _ hc) hd (k p e s m args below meth c F hb hz H locs la hw hs hl)
theorem S_dup {v : Value} (hd : decode cc pc = .ok (.dup, 1)) (hv : v.category = 1) (hq : pc + 1 = q) (k : S l G b0 y cc nL ret rm lay' Post mc ms cells slots lay q ls (v :: v :: st) M) : S l G b0 y cc nL ret rm lay' Post mc ms cells slots lay pc ls (v :: st) M := by
  subst hq; intro p e s m args below meth c F hb hz H locs la hw hs hl; exact lv_dup F.1 F.2.1 hd hv (k p e s m args below meth c F hb hz H locs la hw hs hl)
theorem S_pop {v : Value} (hd : decode cc pc = .ok (.pop, 1)) (hv : v.category = 1) (hq : pc + 1 = q) (k : S l G b0 y cc nL ret rm lay' Post mc ms cells slots lay q ls st M) : S l G b0 y cc nL ret rm lay' Post mc ms cells slots lay pc ls (v :: st) M := by
  subst hq; intro p e s m args below meth c F hb hz H locs la hw hs hl; exact lv_pop F.1 F.2.1 hd hv (k p e s m args below meth c F hb hz H locs la hw hs hl)
theorem S_dup2 {v u : Value} (hd : decode cc pc = .ok (.dup2, 1)) (hv : v.category = 1) (hu : u.category = 1) (hq : pc + 1 = q) (k : S l G b0 y cc nL ret rm lay' Post mc ms cells slots lay q ls (v :: u :: v :: u :: st) M) : S l G b0 y cc nL ret rm lay' Post mc ms cells slots lay pc ls (v :: u :: st) M := by
  subst hq; intro p e s m args below meth c F hb hz H locs la hw hs hl; exact lv_dup2_11 F.1 F.2.1 hd hv hu (k p e s m args below meth c F hb hz H locs la hw hs hl)
theorem S_goto {off : Int} {t : Nat} (hd : decode cc pc = .ok (.goto off, 3)) (ht : (pc : Int) + off = (t : Int)) (k : S l G b0 y cc nL ret rm lay' Post mc ms cells slots lay t ls st M) : S l G b0 y cc nL ret rm lay' Post mc ms cells slots lay pc ls st M := by
  intro p e s m args below meth c F hb hz H locs la hw hs hl; exact lv_goto F.1 F.2.1 hd ht (k p e s m args below meth c F hb hz H locs la hw hs hl)
theorem S_icmp_eq {x z : Int32} {off : Int} {t : Nat} (hd : decode cc pc = .ok (.if_icmp .eq off, 3)) (ht : (pc : Int) + off = (t : Int)) (hq : pc + 3 = q) (kt : x = z → S l G b0 y cc nL ret rm lay' Post mc ms cells slots lay t ls st M) (kf : ¬ (x = z) → S l G b0 y cc nL ret rm lay' Post mc ms cells slots lay q ls st M) : S l G b0 y cc nL ret rm lay' Post mc ms cells slots lay pc ls (.int z :: .int x :: st) M := by
  subst hq; intro p e s m args below meth c F hb hz H locs la hw hs hl; exact lv_icmp_eq F.1 F.2.1 hd ht (fun h => kt h p e s m args below meth c F hb hz H locs la hw hs hl) (fun h => kf h p e s m args below meth c F hb hz H locs la hw hs hl)
theorem S_if_eq {x : Int32} {off : Int} {t : Nat} (hd : decode cc pc = .ok (.ifCond .eq off, 3)) (ht : (pc : Int) + off = (t : Int)) (hq : pc + 3 = q) (kt : x = 0 → S l G b0 y cc nL ret rm lay' Post mc ms cells slots lay t ls st M) (kf : ¬ (x = 0) → S l G b0 y cc nL ret rm lay' Post mc ms cells slots lay q ls st M) : S l G b0 y cc nL ret rm lay' Post mc ms cells slots lay pc ls (.int x :: st) M := by
  subst hq; intro p e s m args below meth c F hb hz H locs la hw hs hl; exact lv_if_eq F.1 F.2.1 hd ht (fun h => kt h p e s m args below meth c F hb hz H locs la hw hs hl) (fun h => kf h p e s m args below meth c F hb hz H locs la hw hs hl)
theorem S_icmp_ne {x z : Int32} {off : Int} {t : Nat} (hd : decode cc pc = .ok (.if_icmp .ne off, 3)) (ht : (pc : Int) + off = (t : Int)) (hq : pc + 3 = q) (kt : ¬ x = z → S l G b0 y cc nL ret rm lay' Post mc ms cells slots lay t ls st M) (kf : x = z → S l G b0 y cc nL ret rm lay' Post mc ms cells slots lay q ls st M) : S l G b0 y cc nL ret rm lay' Post mc ms cells slots lay pc ls (.int z :: .int x :: st) M := by
  subst hq; intro p e s m args below meth c F hb hz H locs la hw hs hl; exact lv_icmp_ne F.1 F.2.1 hd ht (fun h => kt h p e s m args below meth c F hb hz H locs la hw hs hl) (fun h => kf h p e s m args below meth c F hb hz H locs la hw hs hl)
theorem S_if_ne {x : Int32} {off : Int} {t : Nat} (hd : decode cc pc = .ok (.ifCond .ne off, 3)) (ht : (pc : Int) + off = (t : Int)) (hq : pc + 3 = q) (kt : ¬ x = 0 → S l G b0 y cc nL ret rm lay' Post mc ms cells slots lay t ls st M) (kf : x = 0 → S l G b0 y cc nL ret rm lay' Post mc ms cells slots lay q ls st M) : S l G b0 y cc nL ret rm lay' Post mc ms cells slots lay pc ls (.int x :: st) M := by
  subst hq; intro p e s m args below meth c F hb hz H locs la hw hs hl; exact lv_if_ne F.1 F.2.1 hd ht (fun h => kt h p e s m args below meth c F hb hz H locs la hw hs hl) (fun h => kf h p e s m args below meth c F hb hz H locs la hw hs hl)
theorem S_icmp_lt {x z : Int32} {off : Int} {t : Nat} (hd : decode cc pc = .ok (.if_icmp .lt off, 3)) (ht : (pc : Int) + off = (t : Int)) (hq : pc + 3 = q) (kt : x < z → S l G b0 y cc nL ret rm lay' Post mc ms cells slots lay t ls st M) (kf : ¬ (x < z) → S l G b0 y cc nL ret rm lay' Post mc ms cells slots lay q ls st M) : S l G b0 y cc nL ret rm lay' Post mc ms cells slots lay pc ls (.int z :: .int x :: st) M := by
  subst hq; intro p e s m args below meth c F hb hz H locs la hw hs hl; exact lv_icmp_lt F.1 F.2.1 hd ht (fun h => kt h p e s m args below meth c F hb hz H locs la hw hs hl) (fun h => kf h p e s m args below meth c F hb hz H locs la hw hs hl)
theorem S_if_lt {x : Int32} {off : Int} {t : Nat} (hd : decode cc pc = .ok (.ifCond .lt off, 3)) (ht : (pc : Int) + off = (t : Int)) (hq : pc + 3 = q) (kt : x < 0 → S l G b0 y cc nL ret rm lay' Post mc ms cells slots lay t ls st M) (kf : ¬ (x < 0) → S l G b0 y cc nL ret rm lay' Post mc ms cells slots lay q ls st M) : S l G b0 y cc nL ret rm lay' Post mc ms cells slots lay pc ls (.int x :: st) M := by
  subst hq; intro p e s m args below meth c F hb hz H locs la hw hs hl; exact lv_if_lt F.1 F.2.1 hd ht (fun h => kt h p e s m args below meth c F hb hz H locs la hw hs hl) (fun h => kf h p e s m args below meth c F hb hz H locs la hw hs hl)
theorem S_icmp_ge {x z : Int32} {off : Int} {t : Nat} (hd : decode cc pc = .ok (.if_icmp .ge off, 3)) (ht : (pc : Int) + off = (t : Int)) (hq : pc + 3 = q) (kt : z ≤ x → S l G b0 y cc nL ret rm lay' Post mc ms cells slots lay t ls st M) (kf : ¬ (z ≤ x) → S l G b0 y cc nL ret rm lay' Post mc ms cells slots lay q ls st M) : S l G b0 y cc nL ret rm lay' Post mc ms cells slots lay pc ls (.int z :: .int x :: st) M := by
  subst hq; intro p e s m args below meth c F hb hz H locs la hw hs hl; exact lv_icmp_ge F.1 F.2.1 hd ht (fun h => kt h p e s m args below meth c F hb hz H locs la hw hs hl) (fun h => kf h p e s m args below meth c F hb hz H locs la hw hs hl)
theorem S_if_ge {x : Int32} {off : Int} {t : Nat} (hd : decode cc pc = .ok (.ifCond .ge off, 3)) (ht : (pc : Int) + off = (t : Int)) (hq : pc + 3 = q) (kt : 0 ≤ x → S l G b0 y cc nL ret rm lay' Post mc ms cells slots lay t ls st M) (kf : ¬ (0 ≤ x) → S l G b0 y cc nL ret rm lay' Post mc ms cells slots lay q ls st M) : S l G b0 y cc nL ret rm lay' Post mc ms cells slots lay pc ls (.int x :: st) M := by
  subst hq; intro p e s m args below meth c F hb hz H locs la hw hs hl; exact lv_if_ge F.1 F.2.1 hd ht (fun h => kt h p e s m args below meth c F hb hz H locs la hw hs hl) (fun h => kf h p e s m args below meth c F hb hz H locs la hw hs hl)
theorem S_icmp_gt {x z : Int32} {off : Int} {t : Nat} (hd : decode cc pc = .ok (.if_icmp .gt off, 3)) (ht : (pc : Int) + off = (t : Int)) (hq : pc + 3 = q) (kt : z < x → S l G b0 y cc nL ret rm lay' Post mc ms cells slots lay t ls st M) (kf : ¬ (z < x) → S l G b0 y cc nL ret rm lay' Post mc ms cells slots lay q ls st M) : S l G b0 y cc nL ret rm lay' Post mc ms cells slots lay pc ls (.int z :: .int x :: st) M := by
  subst hq; intro p e s m args below meth c F hb hz H locs la hw hs hl; exact lv_icmp_gt F.1 F.2.1 hd ht (fun h => kt h p e s m args below meth c F hb hz H locs la hw hs hl) (fun h => kf h p e s m args below meth c F hb hz H locs la hw hs hl)
theorem S_if_gt {x : Int32} {off : Int} {t : Nat} (hd : decode cc pc = .ok (.ifCond .gt off, 3)) (ht : (pc : Int) + off = (t : Int)) (hq : pc + 3 = q) (kt : 0 < x → S l G b0 y cc nL ret rm lay' Post mc ms cells slots lay t ls st M) (kf : ¬ (0 < x) → S l G b0 y cc nL ret rm lay' Post mc ms cells slots lay q ls st M) : S l G b0 y cc nL ret rm lay' Post mc ms cells slots lay pc ls (.int x :: st) M := by
  subst hq; intro p e s m args below meth c F hb hz H locs la hw hs hl; exact lv_if_gt F.1 F.2.1 hd ht (fun h => kt h p e s m args below meth c F hb hz H locs la hw hs hl) (fun h => kf h p e s m args below meth c F hb hz H locs la hw hs hl)
theorem S_icmp_le {x z : Int32} {off : Int} {t : Nat} (hd : decode cc pc = .ok (.if_icmp .le off, 3)) (ht : (pc : Int) + off = (t : Int)) (hq : pc + 3 = q) (kt : x ≤ z → S l G b0 y cc nL ret rm lay' Post mc ms cells slots lay t ls st M) (kf : ¬ (x ≤ z) → S l G b0 y cc nL ret rm lay' Post mc ms cells slots lay q ls st M) : S l G b0 y cc nL ret rm lay' Post mc ms cells slots lay pc ls (.int z :: .int x :: st) M := by
  subst hq; intro p e s m args below meth c F hb hz H locs la hw hs hl; exact lv_icmp_le F.1 F.2.1 hd ht (fun h => kt h p e s m args below meth c F hb hz H locs la hw hs hl) (fun h => kf h p e s m args below meth c F hb hz H locs la hw hs hl)
theorem S_if_le {x : Int32} {off : Int} {t : Nat} (hd : decode cc pc = .ok (.ifCond .le off, 3)) (ht : (pc : Int) + off = (t : Int)) (hq : pc + 3 = q) (kt : x ≤ 0 → S l G b0 y cc nL ret rm lay' Post mc ms cells slots lay t ls st M) (kf : ¬ (x ≤ 0) → S l G b0 y cc nL ret rm lay' Post mc ms cells slots lay q ls st M) : S l G b0 y cc nL ret rm lay' Post mc ms cells slots lay pc ls (.int x :: st) M := by
  subst hq; intro p e s m args below meth c F hb hz H locs la hw hs hl; exact lv_if_le F.1 F.2.1 hd ht (fun h => kt h p e s m args below meth c F hb hz H locs la hw hs hl) (fun h => kf h p e s m args below meth c F hb hz H locs la hw hs hl)
theorem S_iload_n {j : Fin 4} {i : Nat} {x : Int32} (hd : decode cc pc = .ok (.iload_n j, 1)) (hi : (j : Nat) = i) (hv : ls[i]? = some (some (.int x))) (hq : pc + 1 = q) (k : S l G b0 y cc nL ret rm lay' Post mc ms cells slots lay q ls (.int x :: st) M) : S l G b0 y cc nL ret rm lay' Post mc ms cells slots lay pc ls st M := by
  subst hq; intro p e s m args below meth c F hb hz H locs la hw hs hl; exact lv_iload_n F.1 F.2.1 hd hi (hl.at hv) (k p e s m args below meth c F hb hz H locs la hw hs hl)
theorem S_iload {i : Nat} {x : Int32} (hd : decode cc pc = .ok (.iload i, 2)) (hv : ls[i]? = some (some (.int x))) (hq : pc + 2 = q) (k : S l G b0 y cc nL ret rm lay' Post mc ms cells slots lay q ls (.int x :: st) M) : S l G b0 y cc nL ret rm lay' Post mc ms cells slots lay pc ls st M := by
  subst hq; intro p e s m args below meth c F hb hz H locs la hw hs hl; exact lv_iload F.1 F.2.1 hd (hl.at hv) (k p e s m args below meth c F hb hz H locs la hw hs hl)
theorem S_aload_n {j : Fin 4} {i : Nat} {x : Nat} (hd : decode cc pc = .ok (.aload_n j, 1)) (hi : (j : Nat) = i) (hv : ls[i]? = some (some (.ref x))) (hq : pc + 1 = q) (k : S l G b0 y cc nL ret rm lay' Post mc ms cells slots lay q ls (.ref x :: st) M) : S l G b0 y cc nL ret rm lay' Post mc ms cells slots lay pc ls st M := by
  subst hq; intro p e s m args below meth c F hb hz H locs la hw hs hl; exact lv_aload_n F.1 F.2.1 hd hi (hl.at hv) (k p e s m args below meth c F hb hz H locs la hw hs hl)
theorem S_aload {i : Nat} {x : Nat} (hd : decode cc pc = .ok (.aload i, 2)) (hv : ls[i]? = some (some (.ref x))) (hq : pc + 2 = q) (k : S l G b0 y cc nL ret rm lay' Post mc ms cells slots lay q ls (.ref x :: st) M) : S l G b0 y cc nL ret rm lay' Post mc ms cells slots lay pc ls st M := by
  subst hq; intro p e s m args below meth c F hb hz H locs la hw hs hl; exact lv_aload F.1 F.2.1 hd (hl.at hv) (k p e s m args below meth c F hb hz H locs la hw hs hl)
theorem S_istore_n {j : Fin 4} {i : Nat} {x : Int32} (hd : decode cc pc = .ok (.istore_n j, 1)) (hi : (j : Nat) = i) (hv : i < ls.length) (hq : pc + 1 = q) (k : S l G b0 y cc nL ret rm lay' Post mc ms cells slots lay q (ls.set i (some (.int x))) st M) : S l G b0 y cc nL ret rm lay' Post mc ms cells slots lay pc ls (.int x :: st) M := by
  subst hq; intro p e s m args below meth c F hb hz H locs la hw hs hl
  exact lv_istore_n F.1 F.2.1 hd hi hl.lv (hl.lt hv) rfl (fun la' h' => k p e s m args below meth c F hb hz H locs la' hw hs (hl.put hv rfl h'))
theorem S_istore {i : Nat} {x : Int32} (hd : decode cc pc = .ok (.istore i, 2)) (hv : i < ls.length) (hq : pc + 2 = q) (k : S l G b0 y cc nL ret rm lay' Post mc ms cells slots lay q (ls.set i (some (.int x))) st M) : S l G b0 y cc nL ret rm lay' Post mc ms cells slots lay pc ls (.int x :: st) M := by
  subst hq; intro p e s m args below meth c F hb hz H locs la hw hs hl
  exact lv_istore F.1 F.2.1 hd hl.lv (hl.lt hv) rfl (fun la' h' => k p e s m args below meth c F hb hz H locs la' hw hs (hl.put hv rfl h'))
theorem S_astore_n {j : Fin 4} {i : Nat} {x : Nat} (hd : decode cc pc = .ok (.astore_n j, 1)) (hi : (j : Nat) = i) (hv : i < ls.length) (hq : pc + 1 = q) (k : S l G b0 y cc nL ret rm lay' Post mc ms cells slots lay q (ls.set i (some (.ref x))) st M) : S l G b0 y cc nL ret rm lay' Post mc ms cells slots lay pc ls (.ref x :: st) M := by
  subst hq; intro p e s m args below meth c F hb hz H locs la hw hs hl
  exact lv_astore_n F.1 F.2.1 hd hi hl.lv (hl.lt hv) rfl (fun la' h' => k p e s m args below meth c F hb hz H locs la' hw hs (hl.put hv rfl h'))
theorem S_astore {i : Nat} {x : Nat} (hd : decode cc pc = .ok (.astore i, 2)) (hv : i < ls.length) (hq : pc + 2 = q) (k : S l G b0 y cc nL ret rm lay' Post mc ms cells slots lay q (ls.set i (some (.ref x))) st M) : S l G b0 y cc nL ret rm lay' Post mc ms cells slots lay pc ls (.ref x :: st) M := by
  subst hq; intro p e s m args below meth c F hb hz H locs la hw hs hl
  exact lv_astore F.1 F.2.1 hd hl.lv (hl.lt hv) rfl (fun la' h' => k p e s m args below meth c F hb hz H locs la' hw hs (hl.put hv rfl h'))
theorem LH.pick {la : Array Slot} {nL i : Nat} {ls : List (Option Value)} {v : Value} (h : LH la nL ls) (hi : ls[i]? = some (some v)) : ∃ k : Nat, ((List.range nL).filterMap (fun i => (ls.getD i none).map (fun v => (i, v))))[k]? = some (i, v) := by
  apply List.getElem?_of_mem
  refine List.mem_filterMap.mpr ⟨i, List.mem_range.mpr (h.lt (List.getElem?_eq_some_iff.mp hi).1), ?_⟩
  rw [List.getD_eq_getElem?_getD, hi]; rfl
theorem S_iinc {i : Nat} {n : Int} {x : Int32} (v : Int32) (hd : decode cc pc = .ok (.iinc i n, 3)) (hx : ls[i]? = some (some (.int x))) (hv : x + Int32.ofInt n = v) (hq : pc + 3 = q) (k : S l G b0 y cc nL ret rm lay' Post mc ms cells slots lay q (ls.set i (some (.int v))) st M) : S l G b0 y cc nL ret rm lay' Post mc ms cells slots lay pc ls st M := by
  subst hq; intro p e s m args below meth c F hb hz H locs la hw hs hl
  obtain ⟨j, hj⟩ := hl.pick hx
  have hi := (List.getElem?_eq_some_iff.mp hx).1
  exact lv_iinc F.1 F.2.1 hd hl.lv hj hv (hl.lt hi) rfl (fun la' h' => k p e s m args below meth c F hb hz H locs la' hw hs (hl.put hi rfl h'))
theorem S_iload_0 {x : Int32} {t : List (Option Value)} (hd : decode cc pc = .ok (.iload_n 0, 1)) (hq : pc + 1 = q) (k : S l G b0 y cc nL ret rm lay' Post mc ms cells slots lay q (some (.int x) :: t) (.int x :: st) M) : S l G b0 y cc nL ret rm lay' Post mc ms cells slots lay pc (some (.int x) :: t) st M := S_iload_n hd rfl rfl hq k
theorem S_aload_0 {x : Nat} {t : List (Option Value)} (hd : decode cc pc = .ok (.aload_n 0, 1)) (hq : pc + 1 = q) (k : S l G b0 y cc nL ret rm lay' Post mc ms cells slots lay q (some (.ref x) :: t) (.ref x :: st) M) : S l G b0 y cc nL ret rm lay' Post mc ms cells slots lay pc (some (.ref x) :: t) st M := S_aload_n hd rfl rfl hq k
theorem S_istore_0 {x : Int32} {a : Option Value} {t : List (Option Value)} (hd : decode cc pc = .ok (.istore_n 0, 1)) (hq : pc + 1 = q) (k : S l G b0 y cc nL ret rm lay' Post mc ms cells slots lay q (some (.int x) :: t) st M) : S l G b0 y cc nL ret rm lay' Post mc ms cells slots lay pc (a :: t) (.int x :: st) M := S_istore_n hd rfl (by simp only [List.length_cons]; omega) hq k
theorem S_astore_0 {x : Nat} {a : Option Value} {t : List (Option Value)} (hd : decode cc pc = .ok (.astore_n 0, 1)) (hq : pc + 1 = q) (k : S l G b0 y cc nL ret rm lay' Post mc ms cells slots lay q (some (.ref x) :: t) st M) : S l G b0 y cc nL ret rm lay' Post mc ms cells slots lay pc (a :: t) (.ref x :: st) M := S_astore_n hd rfl (by simp only [List.length_cons]; omega) hq k
theorem S_iinc_0 {n : Int} {x : Int32} {t : List (Option Value)} (v : Int32) (hd : decode cc pc = .ok (.iinc 0 n, 3)) (hv : x + Int32.ofInt n = v) (hq : pc + 3 = q) (k : S l G b0 y cc nL ret rm lay' Post mc ms cells slots lay q (some (.int v) :: t) st M) : S l G b0 y cc nL ret rm lay' Post mc ms cells slots lay pc (some (.int x) :: t) st M := S_iinc v hd rfl hv hq k
theorem S_iload_1 {x : Int32} {a0 : Option Value} {t : List (Option Value)} (hd : decode cc pc = .ok (.iload_n 1, 1)) (hq : pc + 1 = q) (k : S l G b0 y cc nL ret rm lay' Post mc ms cells slots lay q (a0 :: some (.int x) :: t) (.int x :: st) M) : S l G b0 y cc nL ret rm lay' Post mc ms cells slots lay pc (a0 :: some (.int x) :: t) st M := S_iload_n hd rfl rfl hq k
theorem S_aload_1 {x : Nat} {a0 : Option Value} {t : List (Option Value)} (hd : decode cc pc = .ok (.aload_n 1, 1)) (hq : pc + 1 = q) (k : S l G b0 y cc nL ret rm lay' Post mc ms cells slots lay q (a0 :: some (.ref x) :: t) (.ref x :: st) M) : S l G b0 y cc nL ret rm lay' Post mc ms cells slots lay pc (a0 :: some (.ref x) :: t) st M := S_aload_n hd rfl rfl hq k
theorem S_istore_1 {x : Int32} {a0 : Option Value} {a : Option Value} {t : List (Option Value)} (hd : decode cc pc = .ok (.istore_n 1, 1)) (hq : pc + 1 = q) (k : S l G b0 y cc nL ret rm lay' Post mc ms cells slots lay q (a0 :: some (.int x) :: t) st M) : S l G b0 y cc nL ret rm lay' Post mc ms cells slots lay pc (a0 :: a :: t) (.int x :: st) M := S_istore_n hd rfl (by simp only [List.length_cons]; omega) hq k
theorem S_astore_1 {x : Nat} {a0 : Option Value} {a : Option Value} {t : List (Option Value)} (hd : decode cc pc = .ok (.astore_n 1, 1)) (hq : pc + 1 = q) (k : S l G b0 y cc nL ret rm lay' Post mc ms cells slots lay q (a0 :: some (.ref x) :: t) st M) : S l G b0 y cc nL ret rm lay' Post mc ms cells slots lay pc (a0 :: a :: t) (.ref x :: st) M := S_astore_n hd rfl (by simp only [List.length_cons]; omega) hq k
theorem S_iinc_1 {n : Int} {x : Int32} {a0 : Option Value} {t : List (Option Value)} (v : Int32) (hd : decode cc pc = .ok (.iinc 1 n, 3)) (hv : x + Int32.ofInt n = v) (hq : pc + 3 = q) (k : S l G b0 y cc nL ret rm lay' Post mc ms cells slots lay q (a0 :: some (.int v) :: t) st M) : S l G b0 y cc nL ret rm lay' Post mc ms cells slots lay pc (a0 :: some (.int x) :: t) st M := S_iinc v hd rfl hv hq k
theorem S_iload_2 {x : Int32} {a0 a1 : Option Value} {t : List (Option Value)} (hd : decode cc pc = .ok (.iload_n 2, 1)) (hq : pc + 1 = q) (k : S l G b0 y cc nL ret rm lay' Post mc ms cells slots lay q (a0 :: a1 :: some (.int x) :: t) (.int x :: st) M) : S l G b0 y cc nL ret rm lay' Post mc ms cells slots lay pc (a0 :: a1 :: some (.int x) :: t) st M := S_iload_n hd rfl rfl hq k
theorem S_aload_2 {x : Nat} {a0 a1 : Option Value} {t : List (Option Value)} (hd : decode cc pc = .ok (.aload_n 2, 1)) (hq : pc + 1 = q) (k : S l G b0 y cc nL ret rm lay' Post mc ms cells slots lay q (a0 :: a1 :: some (.ref x) :: t) (.ref x :: st) M) : S l G b0 y cc nL ret rm lay' Post mc ms cells slots lay pc (a0 :: a1 :: some (.ref x) :: t) st M := S_aload_n hd rfl rfl hq k
theorem S_istore_2 {x : Int32} {a0 a1 : Option Value} {a : Option Value} {t : List (Option Value)} (hd : decode cc pc = .ok (.istore_n 2, 1)) (hq : pc + 1 = q) (k : S l G b0 y cc nL ret rm lay' Post mc ms cells slots lay q (a0 :: a1 :: some (.int x) :: t) st M) : S l G b0 y cc nL ret rm lay' Post mc ms cells slots lay pc (a0 :: a1 :: a :: t) (.int x :: st) M := S_istore_n hd rfl (by simp only [List.length_cons]; omega) hq k
theorem S_astore_2 {x : Nat} {a0 a1 : Option Value} {a : Option Value} {t : List (Option Value)} (hd : decode cc pc = .ok (.astore_n 2, 1)) (hq : pc + 1 = q) (k : S l G b0 y cc nL ret rm lay' Post mc ms cells slots lay q (a0 :: a1 :: some (.ref x) :: t) st M) : S l G b0 y cc nL ret rm lay' Post mc ms cells slots lay pc (a0 :: a1 :: a :: t) (.ref x :: st) M := S_astore_n hd rfl (by simp only [List.length_cons]; omega) hq k
theorem S_iinc_2 {n : Int} {x : Int32} {a0 a1 : Option Value} {t : List (Option Value)} (v : Int32) (hd : decode cc pc = .ok (.iinc 2 n, 3)) (hv : x + Int32.ofInt n = v) (hq : pc + 3 = q) (k : S l G b0 y cc nL ret rm lay' Post mc ms cells slots lay q (a0 :: a1 :: some (.int v) :: t) st M) : S l G b0 y cc nL ret rm lay' Post mc ms cells slots lay pc (a0 :: a1 :: some (.int x) :: t) st M := S_iinc v hd rfl hv hq k
theorem S_iload_3 {x : Int32} {a0 a1 a2 : Option Value} {t : List (Option Value)} (hd : decode cc pc = .ok (.iload_n 3, 1)) (hq : pc + 1 = q) (k : S l G b0 y cc nL ret rm lay' Post mc ms cells slots lay q (a0 :: a1 :: a2 :: some (.int x) :: t) (.int x :: st) M) : S l G b0 y cc nL ret rm lay' Post mc ms cells slots lay pc (a0 :: a1 :: a2 :: some (.int x) :: t) st M := S_iload_n hd rfl rfl hq k
theorem S_aload_3 {x : Nat} {a0 a1 a2 : Option Value} {t : List (Option Value)} (hd : decode cc pc = .ok (.aload_n 3, 1)) (hq : pc + 1 = q) (k : S l G b0 y cc nL ret rm lay' Post mc ms cells slots lay q (a0 :: a1 :: a2 :: some (.ref x) :: t) (.ref x :: st) M) : S l G b0 y cc nL ret rm lay' Post mc ms cells slots lay pc (a0 :: a1 :: a2 :: some (.ref x) :: t) st M := S_aload_n hd rfl rfl hq k
theorem S_istore_3 {x : Int32} {a0 a1 a2 : Option Value} {a : Option Value} {t : List (Option Value)} (hd : decode cc pc = .ok (.istore_n 3, 1)) (hq : pc + 1 = q) (k : S l G b0 y cc nL ret rm lay' Post mc ms cells slots lay q (a0 :: a1 :: a2 :: some (.int x) :: t) st M) : S l G b0 y cc nL ret rm lay' Post mc ms cells slots lay pc (a0 :: a1 :: a2 :: a :: t) (.int x :: st) M := S_istore_n hd rfl (by simp only [List.length_cons]; omega) hq k
theorem S_astore_3 {x : Nat} {a0 a1 a2 : Option Value} {a : Option Value} {t : List (Option Value)} (hd : decode cc pc = .ok (.astore_n 3, 1)) (hq : pc + 1 = q) (k : S l G b0 y cc nL ret rm lay' Post mc ms cells slots lay q (a0 :: a1 :: a2 :: some (.ref x) :: t) st M) : S l G b0 y cc nL ret rm lay' Post mc ms cells slots lay pc (a0 :: a1 :: a2 :: a :: t) (.ref x :: st) M := S_astore_n hd rfl (by simp only [List.length_cons]; omega) hq k
theorem S_iinc_3 {n : Int} {x : Int32} {a0 a1 a2 : Option Value} {t : List (Option Value)} (v : Int32) (hd : decode cc pc = .ok (.iinc 3 n, 3)) (hv : x + Int32.ofInt n = v) (hq : pc + 3 = q) (k : S l G b0 y cc nL ret rm lay' Post mc ms cells slots lay q (a0 :: a1 :: a2 :: some (.int v) :: t) st M) : S l G b0 y cc nL ret rm lay' Post mc ms cells slots lay pc (a0 :: a1 :: a2 :: some (.int x) :: t) st M := S_iinc v hd rfl hv hq k
theorem S_iload_4 {x : Int32} {a0 a1 a2 a3 : Option Value} {t : List (Option Value)} (hd : decode cc pc = .ok (.iload 4, 2)) (hq : pc + 2 = q) (k : S l G b0 y cc nL ret rm lay' Post mc ms cells slots lay q (a0 :: a1 :: a2 :: a3 :: some (.int x) :: t) (.int x :: st) M) : S l G b0 y cc nL ret rm lay' Post mc ms cells slots lay pc (a0 :: a1 :: a2 :: a3 :: some (.int x) :: t) st M := S_iload hd rfl hq k
theorem S_aload_4 {x : Nat} {a0 a1 a2 a3 : Option Value} {t : List (Option Value)} (hd : decode cc pc = .ok (.aload 4, 2)) (hq : pc + 2 = q) (k : S l G b0 y cc nL ret rm lay' Post mc ms cells slots lay q (a0 :: a1 :: a2 :: a3 :: some (.ref x) :: t) (.ref x :: st) M) : S l G b0 y cc nL ret rm lay' Post mc ms cells slots lay pc (a0 :: a1 :: a2 :: a3 :: some (.ref x) :: t) st M := S_aload hd rfl hq k
theorem S_istore_4 {x : Int32} {a0 a1 a2 a3 : Option Value} {a : Option Value} {t : List (Option Value)} (hd : decode cc pc = .ok (.istore 4, 2)) (hq : pc + 2 = q) (k : S l G b0 y cc nL ret rm lay' Post mc ms cells slots lay q (a0 :: a1 :: a2 :: a3 :: some (.int x) :: t) st M) : S l G b0 y cc nL ret rm lay' Post mc ms cells slots lay pc (a0 :: a1 :: a2 :: a3 :: a :: t) (.int x :: st) M := S_istore hd (by simp only [List.length_cons]; omega) hq k
theorem S_astore_4 {x : Nat} {a0 a1 a2 a3 : Option Value} {a : Option Value} {t : List (Option Value)} (hd : decode cc pc = .ok (.astore 4, 2)) (hq : pc + 2 = q) (k : S l G b0 y cc nL ret rm lay' Post mc ms cells slots lay q (a0 :: a1 :: a2 :: a3 :: some (.ref x) :: t) st M) : S l G b0 y cc nL ret rm lay' Post mc ms cells slots lay pc (a0 :: a1 :: a2 :: a3 :: a :: t) (.ref x :: st) M := S_astore hd (by simp only [List.length_cons]; omega) hq k
theorem S_iinc_4 {n : Int} {x : Int32} {a0 a1 a2 a3 : Option Value} {t : List (Option Value)} (v : Int32) (hd : decode cc pc = .ok (.iinc 4 n, 3)) (hv : x + Int32.ofInt n = v) (hq : pc + 3 = q) (k : S l G b0 y cc nL ret rm lay' Post mc ms cells slots lay q (a0 :: a1 :: a2 :: a3 :: some (.int v) :: t) st M) : S l G b0 y cc nL ret rm lay' Post mc ms cells slots lay pc (a0 :: a1 :: a2 :: a3 :: some (.int x) :: t) st M := S_iinc v hd rfl hv hq k
theorem S_iload_5 {x : Int32} {a0 a1 a2 a3 a4 : Option Value} {t : List (Option Value)} (hd : decode cc pc = .ok (.iload 5, 2)) (hq : pc + 2 = q) (k : S l G b0 y cc nL ret rm lay' Post mc ms cells slots lay q (a0 :: a1 :: a2 :: a3 :: a4 :: some (.int x) :: t) (.int x :: st) M) : S l G b0 y cc nL ret rm lay' Post mc ms cells slots lay pc (a0 :: a1 :: a2 :: a3 :: a4 :: some (.int x) :: t) st M := S_iload hd rfl hq k
theorem S_aload_5 {x : Nat} {a0 a1 a2 a3 a4 : Option Value} {t : List (Option Value)} (hd : decode cc pc = .ok (.aload 5, 2)) (hq : pc + 2 = q) (k : S l G b0 y cc nL ret rm lay' Post mc ms cells slots lay q (a0 :: a1 :: a2 :: a3 :: a4 :: some (.ref x) :: t) (.ref x :: st) M) : S l G b0 y cc nL ret rm lay' Post mc ms cells slots lay pc (a0 :: a1 :: a2 :: a3 :: a4 :: some (.ref x) :: t) st M := S_aload hd rfl hq k
theorem S_istore_5 {x : Int32} {a0 a1 a2 a3 a4 : Option Value} {a : Option Value} {t : List (Option Value)} (hd : decode cc pc = .ok (.istore 5, 2)) (hq : pc + 2 = q) (k : S l G b0 y cc nL ret rm lay' Post mc ms cells slots lay q (a0 :: a1 :: a2 :: a3 :: a4 :: some (.int x) :: t) st M) : S l G b0 y cc nL ret rm lay' Post mc ms cells slots lay pc (a0 :: a1 :: a2 :: a3 :: a4 :: a :: t) (.int x :: st) M := S_istore hd (by simp only [List.length_cons]; omega) hq k
theorem S_astore_5 {x : Nat} {a0 a1 a2 a3 a4 : Option Value} {a : Option Value} {t : List (Option Value)} (hd : decode cc pc = .ok (.astore 5, 2)) (hq : pc + 2 = q) (k : S l G b0 y cc nL ret rm lay' Post mc ms cells slots lay q (a0 :: a1 :: a2 :: a3 :: a4 :: some (.ref x) :: t) st M) : S l G b0 y cc nL ret rm lay' Post mc ms cells slots lay pc (a0 :: a1 :: a2 :: a3 :: a4 :: a :: t) (.ref x :: st) M := S_astore hd (by simp only [List.length_cons]; omega) hq k
theorem S_iinc_5 {n : Int} {x : Int32} {a0 a1 a2 a3 a4 : Option Value} {t : List (Option Value)} (v : Int32) (hd : decode cc pc = .ok (.iinc 5 n, 3)) (hv : x + Int32.ofInt n = v) (hq : pc + 3 = q) (k : S l G b0 y cc nL ret rm lay' Post mc ms cells slots lay q (a0 :: a1 :: a2 :: a3 :: a4 :: some (.int v) :: t) st M) : S l G b0 y cc nL ret rm lay' Post mc ms cells slots lay pc (a0 :: a1 :: a2 :: a3 :: a4 :: some (.int x) :: t) st M := S_iinc v hd rfl hv hq k
theorem S_iload_6 {x : Int32} {a0 a1 a2 a3 a4 a5 : Option Value} {t : List (Option Value)} (hd : decode cc pc = .ok (.iload 6, 2)) (hq : pc + 2 = q) (k : S l G b0 y cc nL ret rm lay' Post mc ms cells slots lay q (a0 :: a1 :: a2 :: a3 :: a4 :: a5 :: some (.int x) :: t) (.int x :: st) M) : S l G b0 y cc nL ret rm lay' Post mc ms cells slots lay pc (a0 :: a1 :: a2 :: a3 :: a4 :: a5 :: some (.int x) :: t) st M := S_iload hd rfl hq k
theorem S_aload_6 {x : Nat} {a0 a1 a2 a3 a4 a5 : Option Value} {t : List (Option Value)} (hd : decode cc pc = .ok (.aload 6, 2)) (hq : pc + 2 = q) (k : S l G b0 y cc nL ret rm lay' Post mc ms cells slots lay q (a0 :: a1 :: a2 :: a3 :: a4 :: a5 :: some (.ref x) :: t) (.ref x :: st) M) : S l G b0 y cc nL ret rm lay' Post mc ms cells slots lay pc (a0 :: a1 :: a2 :: a3 :: a4 :: a5 :: some (.ref x) :: t) st M := S_aload hd rfl hq k
theorem S_istore_6 {x : Int32} {a0 a1 a2 a3 a4 a5 : Option Value} {a : Option Value} {t : List (Option Value)} (hd : decode cc pc = .ok (.istore 6, 2)) (hq : pc + 2 = q) (k : S l G b0 y cc nL ret rm lay' Post mc ms cells slots lay q (a0 :: a1 :: a2 :: a3 :: a4 :: a5 :: some (.int x) :: t) st M) : S l G b0 y cc nL ret rm lay' Post mc ms cells slots lay pc (a0 :: a1 :: a2 :: a3 :: a4 :: a5 :: a :: t) (.int x :: st) M := S_istore hd (by simp only [List.length_cons]; omega) hq k
theorem S_astore_6 {x : Nat} {a0 a1 a2 a3 a4 a5 : Option Value} {a : Option Value} {t : List (Option Value)} (hd : decode cc pc = .ok (.astore 6, 2)) (hq : pc + 2 = q) (k : S l G b0 y cc nL ret rm lay' Post mc ms cells slots lay q (a0 :: a1 :: a2 :: a3 :: a4 :: a5 :: some (.ref x) :: t) st M) : S l G b0 y cc nL ret rm lay' Post mc ms cells slots lay pc (a0 :: a1 :: a2 :: a3 :: a4 :: a5 :: a :: t) (.ref x :: st) M := S_astore hd (by simp only [List.length_cons]; omega) hq k
theorem S_iinc_6 {n : Int} {x : Int32} {a0 a1 a2 a3 a4 a5 : Option Value} {t : List (Option Value)} (v : Int32) (hd : decode cc pc = .ok (.iinc 6 n, 3)) (hv : x + Int32.ofInt n = v) (hq : pc + 3 = q) (k : S l G b0 y cc nL ret rm lay' Post mc ms cells slots lay q (a0 :: a1 :: a2 :: a3 :: a4 :: a5 :: some (.int v) :: t) st M) : S l G b0 y cc nL ret rm lay' Post mc ms cells slots lay pc (a0 :: a1 :: a2 :: a3 :: a4 :: a5 :: some (.int x) :: t) st M := S_iinc v hd rfl hv hq k
theorem S_iload_7 {x : Int32} {a0 a1 a2 a3 a4 a5 a6 : Option Value} {t : List (Option Value)} (hd : decode cc pc = .ok (.iload 7, 2)) (hq : pc + 2 = q) (k : S l G b0 y cc nL ret rm lay' Post mc ms cells slots lay q (a0 :: a1 :: a2 :: a3 :: a4 :: a5 :: a6 :: some (.int x) :: t) (.int x :: st) M) : S l G b0 y cc nL ret rm lay' Post mc ms cells slots lay pc (a0 :: a1 :: a2 :: a3 :: a4 :: a5 :: a6 :: some (.int x) :: t) st M := S_iload hd rfl hq k
theorem S_aload_7 {x : Nat} {a0 a1 a2 a3 a4 a5 a6 : Option Value} {t : List (Option Value)} (hd : decode cc pc = .ok (.aload 7, 2)) (hq : pc + 2 = q) (k : S l G b0 y cc nL ret rm lay' Post mc ms cells slots lay q (a0 :: a1 :: a2 :: a3 :: a4 :: a5 :: a6 :: some (.ref x) :: t) (.ref x :: st) M) : S l G b0 y cc nL ret rm lay' Post mc ms cells slots lay pc (a0 :: a1 :: a2 :: a3 :: a4 :: a5 :: a6 :: some (.ref x) :: t) st M := S_aload hd rfl hq k
theorem S_istore_7 {x : Int32} {a0 a1 a2 a3 a4 a5 a6 : Option Value} {a : Option Value} {t : List (Option Value)} (hd : decode cc pc = .ok (.istore 7, 2)) (hq : pc + 2 = q) (k : S l G b0 y cc nL ret rm lay' Post mc ms cells slots lay q (a0 :: a1 :: a2 :: a3 :: a4 :: a5 :: a6 :: some (.int x) :: t) st M) : S l G b0 y cc nL ret rm lay' Post mc ms cells slots lay pc (a0 :: a1 :: a2 :: a3 :: a4 :: a5 :: a6 :: a :: t) (.int x :: st) M := S_istore hd (by simp only [List.length_cons]; omega) hq k
theorem S_astore_7 {x : Nat} {a0 a1 a2 a3 a4 a5 a6 : Option Value} {a : Option Value} {t : List (Option Value)} (hd : decode cc pc = .ok (.astore 7, 2)) (hq : pc + 2 = q) (k : S l G b0 y cc nL ret rm lay' Post mc ms cells slots lay q (a0 :: a1 :: a2 :: a3 :: a4 :: a5 :: a6 :: some (.ref x) :: t) st M) : S l G b0 y cc nL ret rm lay' Post mc ms cells slots lay pc (a0 :: a1 :: a2 :: a3 :: a4 :: a5 :: a6 :: a :: t) (.ref x :: st) M := S_astore hd (by simp only [List.length_cons]; omega) hq k
theorem S_iinc_7 {n : Int} {x : Int32} {a0 a1 a2 a3 a4 a5 a6 : Option Value} {t : List (Option Value)} (v : Int32) (hd : decode cc pc = .ok (.iinc 7 n, 3)) (hv : x + Int32.ofInt n = v) (hq : pc + 3 = q) (k : S l G b0 y cc nL ret rm lay' Post mc ms cells slots lay q (a0 :: a1 :: a2 :: a3 :: a4 :: a5 :: a6 :: some (.int v) :: t) st M) : S l G b0 y cc nL ret rm lay' Post mc ms cells slots lay pc (a0 :: a1 :: a2 :: a3 :: a4 :: a5 :: a6 :: some (.int x) :: t) st M := S_iinc v hd rfl hv hq k
theorem S_iload_8 {x : Int32} {a0 a1 a2 a3 a4 a5 a6 a7 : Option Value} {t : List (Option Value)} (hd : decode cc pc = .ok (.iload 8, 2)) (hq : pc + 2 = q) (k : S l G b0 y cc nL ret rm lay' Post mc ms cells slots lay q (a0 :: a1 :: a2 :: a3 :: a4 :: a5 :: a6 :: a7 :: some (.int x) :: t) (.int x :: st) M) : S l G b0 y cc nL ret rm lay' Post mc ms cells slots lay pc (a0 :: a1 :: a2 :: a3 :: a4 :: a5 :: a6 :: a7 :: some (.int x) :: t) st M := S_iload hd rfl hq k
theorem S_aload_8 {x : Nat} {a0 a1 a2 a3 a4 a5 a6 a7 : Option Value} {t : List (Option Value)} (hd : decode cc pc = .ok (.aload 8, 2)) (hq : pc + 2 = q) (k : S l G b0 y cc nL ret rm lay' Post mc ms cells slots lay q (a0 :: a1 :: a2 :: a3 :: a4 :: a5 :: a6 :: a7 :: some (.ref x) :: t) (.ref x :: st) M) : S l G b0 y cc nL ret rm lay' Post mc ms cells slots lay pc (a0 :: a1 :: a2 :: a3 :: a4 :: a5 :: a6 :: a7 :: some (.ref x) :: t) st M := S_aload hd rfl hq k
theorem S_istore_8 {x : Int32} {a0 a1 a2 a3 a4 a5 a6 a7 : Option Value} {a : Option Value} {t : List (Option Value)} (hd : decode cc pc = .ok (.istore 8, 2)) (hq : pc + 2 = q) (k : S l G b0 y cc nL ret rm lay' Post mc ms cells slots lay q (a0 :: a1 :: a2 :: a3 :: a4 :: a5 :: a6 :: a7 :: some (.int x) :: t) st M) : S l G b0 y cc nL ret rm lay' Post mc ms cells slots lay pc (a0 :: a1 :: a2 :: a3 :: a4 :: a5 :: a6 :: a7 :: a :: t) (.int x :: st) M := S_istore hd (by simp only [List.length_cons]; omega) hq k
theorem S_astore_8 {x : Nat} {a0 a1 a2 a3 a4 a5 a6 a7 : Option Value} {a : Option Value} {t : List (Option Value)} (hd : decode cc pc = .ok (.astore 8, 2)) (hq : pc + 2 = q) (k : S l G b0 y cc nL ret rm lay' Post mc ms cells slots lay q (a0 :: a1 :: a2 :: a3 :: a4 :: a5 :: a6 :: a7 :: some (.ref x) :: t) st M) : S l G b0 y cc nL ret rm lay' Post mc ms cells slots lay pc (a0 :: a1 :: a2 :: a3 :: a4 :: a5 :: a6 :: a7 :: a :: t) (.ref x :: st) M := S_astore hd (by simp only [List.length_cons]; omega) hq k
theorem S_iinc_8 {n : Int} {x : Int32} {a0 a1 a2 a3 a4 a5 a6 a7 : Option Value} {t : List (Option Value)} (v : Int32) (hd : decode cc pc = .ok (.iinc 8 n, 3)) (hv : x + Int32.ofInt n = v) (hq : pc + 3 = q) (k : S l G b0 y cc nL ret rm lay' Post mc ms cells slots lay q (a0 :: a1 :: a2 :: a3 :: a4 :: a5 :: a6 :: a7 :: some (.int v) :: t) st M) : S l G b0 y cc nL ret rm lay' Post mc ms cells slots lay pc (a0 :: a1 :: a2 :: a3 :: a4 :: a5 :: a6 :: a7 :: some (.int x) :: t) st M := S_iinc v hd rfl hv hq k
theorem S_iload_9 {x : Int32} {a0 a1 a2 a3 a4 a5 a6 a7 a8 : Option Value} {t : List (Option Value)} (hd : decode cc pc = .ok (.iload 9, 2)) (hq : pc + 2 = q) (k : S l G b0 y cc nL ret rm lay' Post mc ms cells slots lay q (a0 :: a1 :: a2 :: a3 :: a4 :: a5 :: a6 :: a7 :: a8 :: some (.int x) :: t) (.int x :: st) M) : S l G b0 y cc nL ret rm lay' Post mc ms cells slots lay pc (a0 :: a1 :: a2 :: a3 :: a4 :: a5 :: a6 :: a7 :: a8 :: some (.int x) :: t) st M := S_iload hd rfl hq k
theorem S_aload_9 {x : Nat} {a0 a1 a2 a3 a4 a5 a6 a7 a8 : Option Value} {t : List (Option Value)} (hd : decode cc pc = .ok (.aload 9, 2)) (hq : pc + 2 = q) (k : S l G b0 y cc nL ret rm lay' Post mc ms cells slots lay q (a0 :: a1 :: a2 :: a3 :: a4 :: a5 :: a6 :: a7 :: a8 :: some (.ref x) :: t) (.ref x :: st) M) : S l G b0 y cc nL ret rm lay' Post mc ms cells slots lay pc (a0 :: a1 :: a2 :: a3 :: a4 :: a5 :: a6 :: a7 :: a8 :: some (.ref x) :: t) st M := S_aload hd rfl hq k
theorem S_istore_9 {x : Int32} {a0 a1 a2 a3 a4 a5 a6 a7 a8 : Option Value} {a : Option Value} {t : List (Option Value)} (hd : decode cc pc = .ok (.istore 9, 2)) (hq : pc + 2 = q) (k : S l G b0 y cc nL ret rm lay' Post mc ms cells slots lay q (a0 :: a1 :: a2 :: a3 :: a4 :: a5 :: a6 :: a7 :: a8 :: some (.int x) :: t) st M) : S l G b0 y cc nL ret rm lay' Post mc ms cells slots lay pc (a0 :: a1 :: a2 :: a3 :: a4 :: a5 :: a6 :: a7 :: a8 :: a :: t) (.int x :: st) M := S_istore hd (by simp only [List.length_cons]; omega) hq k
theorem S_astore_9 {x : Nat} {a0 a1 a2 a3 a4 a5 a6 a7 a8 : Option Value} {a : Option Value} {t : List (Option Value)} (hd : decode cc pc = .ok (.astore 9, 2)) (hq : pc + 2 = q) (k : S l G b0 y cc nL ret rm lay' Post mc ms cells slots lay q (a0 :: a1 :: a2 :: a3 :: a4 :: a5 :: a6 :: a7 :: a8 :: some (.ref x) :: t) st M) : S l G b0 y cc nL ret rm lay' Post mc ms cells slots lay pc (a0 :: a1 :: a2 :: a3 :: a4 :: a5 :: a6 :: a7 :: a8 :: a :: t) (.ref x :: st) M := S_astore hd (by simp only [List.length_cons]; omega) hq k
theorem S_iinc_9 {n : Int} {x : Int32} {a0 a1 a2 a3 a4 a5 a6 a7 a8 : Option Value} {t : List (Option Value)} (v : Int32) (hd : decode cc pc = .ok (.iinc 9 n, 3)) (hv : x + Int32.ofInt n = v) (hq : pc + 3 = q) (k : S l G b0 y cc nL ret rm lay' Post mc ms cells slots lay q (a0 :: a1 :: a2 :: a3 :: a4 :: a5 :: a6 :: a7 :: a8 :: some (.int v) :: t) st M) : S l G b0 y cc nL ret rm lay' Post mc ms cells slots lay pc (a0 :: a1 :: a2 :: a3 :: a4 :: a5 :: a6 :: a7 :: a8 :: some (.int x) :: t) st M := S_iinc v hd rfl hv hq k
theorem S_iload_10 {x : Int32} {a0 a1 a2 a3 a4 a5 a6 a7 a8 a9 : Option Value} {t : List (Option Value)} (hd : decode cc pc = .ok (.iload 10, 2)) (hq : pc + 2 = q) (k : S l G b0 y cc nL ret rm lay' Post mc ms cells slots lay q (a0 :: a1 :: a2 :: a3 :: a4 :: a5 :: a6 :: a7 :: a8 :: a9 :: some (.int x) :: t) (.int x :: st) M) : S l G b0 y cc nL ret rm lay' Post mc ms cells slots lay pc (a0 :: a1 :: a2 :: a3 :: a4 :: a5 :: a6 :: a7 :: a8 :: a9 :: some (.int x) :: t) st M := S_iload hd rfl hq k
theorem S_aload_10 {x : Nat} {a0 a1 a2 a3 a4 a5 a6 a7 a8 a9 : Option Value} {t : List (Option Value)} (hd : decode cc pc = .ok (.aload 10, 2)) (hq : pc + 2 = q) (k : S l G b0 y cc nL ret rm lay' Post mc ms cells slots lay q (a0 :: a1 :: a2 :: a3 :: a4 :: a5 :: a6 :: a7 :: a8 :: a9 :: some (.ref x) :: t) (.ref x :: st) M) : S l G b0 y cc nL ret rm lay' Post mc ms cells slots lay pc (a0 :: a1 :: a2 :: a3 :: a4 :: a5 :: a6 :: a7 :: a8 :: a9 :: some (.ref x) :: t) st M := S_aload hd rfl hq k
theorem S_istore_10 {x : Int32} {a0 a1 a2 a3 a4 a5 a6 a7 a8 a9 : Option Value} {a : Option Value} {t : List (Option Value)} (hd : decode cc pc = .ok (.istore 10, 2)) (hq : pc + 2 = q) (k : S l G b0 y cc nL ret rm lay' Post mc ms cells slots lay q (a0 :: a1 :: a2 :: a3 :: a4 :: a5 :: a6 :: a7 :: a8 :: a9 :: some (.int x) :: t) st M) : S l G b0 y cc nL ret rm lay' Post mc ms cells slots lay pc (a0 :: a1 :: a2 :: a3 :: a4 :: a5 :: a6 :: a7 :: a8 :: a9 :: a :: t) (.int x :: st) M := S_istore hd (by simp only [List.length_cons]; omega) hq k
theorem S_astore_10 {x : Nat} {a0 a1 a2 a3 a4 a5 a6 a7 a8 a9 : Option Value} {a : Option Value} {t : List (Option Value)} (hd : decode cc pc = .ok (.astore 10, 2)) (hq : pc + 2 = q) (k : S l G b0 y cc nL ret rm lay' Post mc ms cells slots lay q (a0 :: a1 :: a2 :: a3 :: a4 :: a5 :: a6 :: a7 :: a8 :: a9 :: some (.ref x) :: t) st M) : S l G b0 y cc nL ret rm lay' Post mc ms cells slots lay pc (a0 :: a1 :: a2 :: a3 :: a4 :: a5 :: a6 :: a7 :: a8 :: a9 :: a :: t) (.ref x :: st) M := S_astore hd (by simp only [List.length_cons]; omega) hq k
theorem S_iinc_10 {n : Int} {x : Int32} {a0 a1 a2 a3 a4 a5 a6 a7 a8 a9 : Option Value} {t : List (Option Value)} (v : Int32) (hd : decode cc pc = .ok (.iinc 10 n, 3)) (hv : x + Int32.ofInt n = v) (hq : pc + 3 = q) (k : S l G b0 y cc nL ret rm lay' Post mc ms cells slots lay q (a0 :: a1 :: a2 :: a3 :: a4 :: a5 :: a6 :: a7 :: a8 :: a9 :: some (.int v) :: t) st M) : S l G b0 y cc nL ret rm lay' Post mc ms cells slots lay pc (a0 :: a1 :: a2 :: a3 :: a4 :: a5 :: a6 :: a7 :: a8 :: a9 :: some (.int x) :: t) st M := S_iinc v hd rfl hv hq k
theorem S_iload_11 {x : Int32} {a0 a1 a2 a3 a4 a5 a6 a7 a8 a9 a10 : Option Value} {t : List (Option Value)} (hd : decode cc pc = .ok (.iload 11, 2)) (hq : pc + 2 = q) (k : S l G b0 y cc nL ret rm lay' Post mc ms cells slots lay q (a0 :: a1 :: a2 :: a3 :: a4 :: a5 :: a6 :: a7 :: a8 :: a9 :: a10 :: some (.int x) :: t) (.int x :: st) M) : S l G b0 y cc nL ret rm lay' Post mc ms cells slots lay pc (a0 :: a1 :: a2 :: a3 :: a4 :: a5 :: a6 :: a7 :: a8 :: a9 :: a10 :: some (.int x) :: t) st M := S_iload hd rfl hq k
theorem S_aload_11 {x : Nat} {a0 a1 a2 a3 a4 a5 a6 a7 a8 a9 a10 : Option Value} {t : List (Option Value)} (hd : decode cc pc = .ok (.aload 11, 2)) (hq : pc + 2 = q) (k : S l G b0 y cc nL ret rm lay' Post mc ms cells slots lay q (a0 :: a1 :: a2 :: a3 :: a4 :: a5 :: a6 :: a7 :: a8 :: a9 :: a10 :: some (.ref x) :: t) (.ref x :: st) M) : S l G b0 y cc nL ret rm lay' Post mc ms cells slots lay pc (a0 :: a1 :: a2 :: a3 :: a4 :: a5 :: a6 :: a7 :: a8 :: a9 :: a10 :: some (.ref x) :: t) st M := S_aload hd rfl hq k
theorem S_istore_11 {x : Int32} {a0 a1 a2 a3 a4 a5 a6 a7 a8 a9 a10 : Option Value} {a : Option Value} {t : List (Option Value)} (hd : decode cc pc = .ok (.istore 11, 2)) (hq : pc + 2 = q) (k : S l G b0 y cc nL ret rm lay' Post mc ms cells slots lay q (a0 :: a1 :: a2 :: a3 :: a4 :: a5 :: a6 :: a7 :: a8 :: a9 :: a10 :: some (.int x) :: t) st M) : S l G b0 y cc nL ret rm lay' Post mc ms cells slots lay pc (a0 :: a1 :: a2 :: a3 :: a4 :: a5 :: a6 :: a7 :: a8 :: a9 :: a10 :: a :: t) (.int x :: st) M := S_istore hd (by simp only [List.length_cons]; omega) hq k
theorem S_astore_11 {x : Nat} {a0 a1 a2 a3 a4 a5 a6 a7 a8 a9 a10 : Option Value} {a : Option Value} {t : List (Option Value)} (hd : decode cc pc = .ok (.astore 11, 2)) (hq : pc + 2 = q) (k : S l G b0 y cc nL ret rm lay' Post mc ms cells slots lay q (a0 :: a1 :: a2 :: a3 :: a4 :: a5 :: a6 :: a7 :: a8 :: a9 :: a10 :: some (.ref x) :: t) st M) : S l G b0 y cc nL ret rm lay' Post mc ms cells slots lay pc (a0 :: a1 :: a2 :: a3 :: a4 :: a5 :: a6 :: a7 :: a8 :: a9 :: a10 :: a :: t) (.ref x :: st) M := S_astore hd (by simp only [List.length_cons]; omega) hq k
theorem S_iinc_11 {n : Int} {x : Int32} {a0 a1 a2 a3 a4 a5 a6 a7 a8 a9 a10 : Option Value} {t : List (Option Value)} (v : Int32) (hd : decode cc pc = .ok (.iinc 11 n, 3)) (hv : x + Int32.ofInt n = v) (hq : pc + 3 = q) (k : S l G b0 y cc nL ret rm lay' Post mc ms cells slots lay q (a0 :: a1 :: a2 :: a3 :: a4 :: a5 :: a6 :: a7 :: a8 :: a9 :: a10 :: some (.int v) :: t) st M) : S l G b0 y cc nL ret rm lay' Post mc ms cells slots lay pc (a0 :: a1 :: a2 :: a3 :: a4 :: a5 :: a6 :: a7 :: a8 :: a9 :: a10 :: some (.int x) :: t) st M := S_iinc v hd rfl hv hq k
theorem S_iload_12 {x : Int32} {a0 a1 a2 a3 a4 a5 a6 a7 a8 a9 a10 a11 : Option Value} {t : List (Option Value)} (hd : decode cc pc = .ok (.iload 12, 2)) (hq : pc + 2 = q) (k : S l G b0 y cc nL ret rm lay' Post mc ms cells slots lay q (a0 :: a1 :: a2 :: a3 :: a4 :: a5 :: a6 :: a7 :: a8 :: a9 :: a10 :: a11 :: some (.int x) :: t) (.int x :: st) M) : S l G b0 y cc nL ret rm lay' Post mc ms cells slots lay pc (a0 :: a1 :: a2 :: a3 :: a4 :: a5 :: a6 :: a7 :: a8 :: a9 :: a10 :: a11 :: some (.int x) :: t) st M := S_iload hd rfl hq k
theorem S_aload_12 {x : Nat} {a0 a1 a2 a3 a4 a5 a6 a7 a8 a9 a10 a11 : Option Value} {t : List (Option Value)} (hd : decode cc pc = .ok (.aload 12, 2)) (hq : pc + 2 = q) (k : S l G b0 y cc nL ret rm lay' Post mc ms cells slots lay q (a0 :: a1 :: a2 :: a3 :: a4 :: a5 :: a6 :: a7 :: a8 :: a9 :: a10 :: a11 :: some (.ref x) :: t) (.ref x :: st) M) : S l G b0 y cc nL ret rm lay' Post mc ms cells slots lay pc (a0 :: a1 :: a2 :: a3 :: a4 :: a5 :: a6 :: a7 :: a8 :: a9 :: a10 :: a11 :: some (.ref x) :: t) st M := S_aload hd rfl hq k
theorem S_istore_12 {x : Int32} {a0 a1 a2 a3 a4 a5 a6 a7 a8 a9 a10 a11 : Option Value} {a : Option Value} {t : List (Option Value)} (hd : decode cc pc = .ok (.istore 12, 2)) (hq : pc + 2 = q) (k : S l G b0 y cc nL ret rm lay' Post mc ms cells slots lay q (a0 :: a1 :: a2 :: a3 :: a4 :: a5 :: a6 :: a7 :: a8 :: a9 :: a10 :: a11 :: some (.int x) :: t) st M) : S l G b0 y cc nL ret rm lay' Post mc ms cells slots lay pc (a0 :: a1 :: a2 :: a3 :: a4 :: a5 :: a6 :: a7 :: a8 :: a9 :: a10 :: a11 :: a :: t) (.int x :: st) M := S_istore hd (by simp only [List.length_cons]; omega) hq k
theorem S_astore_12 {x : Nat} {a0 a1 a2 a3 a4 a5 a6 a7 a8 a9 a10 a11 : Option Value} {a : Option Value} {t : List (Option Value)} (hd : decode cc pc = .ok (.astore 12, 2)) (hq : pc + 2 = q) (k : S l G b0 y cc nL ret rm lay' Post mc ms cells slots lay q (a0 :: a1 :: a2 :: a3 :: a4 :: a5 :: a6 :: a7 :: a8 :: a9 :: a10 :: a11 :: some (.ref x) :: t) st M) : S l G b0 y cc nL ret rm lay' Post mc ms cells slots lay pc (a0 :: a1 :: a2 :: a3 :: a4 :: a5 :: a6 :: a7 :: a8 :: a9 :: a10 :: a11 :: a :: t) (.ref x :: st) M := S_astore hd (by simp only [List.length_cons]; omega) hq k
theorem S_iinc_12 {n : Int} {x : Int32} {a0 a1 a2 a3 a4 a5 a6 a7 a8 a9 a10 a11 : Option Value} {t : List (Option Value)} (v : Int32) (hd : decode cc pc = .ok (.iinc 12 n, 3)) (hv : x + Int32.ofInt n = v) (hq : pc + 3 = q) (k : S l G b0 y cc nL ret rm lay' Post mc ms cells slots lay q (a0 :: a1 :: a2 :: a3 :: a4 :: a5 :: a6 :: a7 :: a8 :: a9 :: a10 :: a11 :: some (.int v) :: t) st M) : S l G b0 y cc nL ret rm lay' Post mc ms cells slots lay pc (a0 :: a1 :: a2 :: a3 :: a4 :: a5 :: a6 :: a7 :: a8 :: a9 :: a10 :: a11 :: some (.int x) :: t) st M := S_iinc v hd rfl hv hq k

/-- a field's link: own code, nest mates too -/
def FL (own : String) (idx ci j : Nat) : Prop := ∃ (C : String) (T : u_T) (N : Nat), vwCl[ci]? = some (C, T, N) ∧ j < N ∧ (∀ w ∈ u_ws C T N, w ∈ TG) ∧ (Cond.fieldLink own idx (T j).1 (T j).2.1 (T j).2.2.1 ∈ TG ∨ ∃ host, Cond.fieldLinkNest own idx (T j).1 (T j).2.1 (T j).2.2.1 host ∈ tables_1)
def FP (own : String) (idx ci j : Nat) (ty : FieldType) : Prop := ∃ (C : String) (T : u_T) (N : Nat) (ty0 : Nat → FieldType), vwCl[ci]? = some (C, T, N) ∧ j < N ∧ (∀ w ∈ u_ws C T N, w ∈ TG) ∧ (Cond.fieldLink own idx (T j).1 (T j).2.1 (T j).2.2.1 ∈ TG ∨ ∃ host, Cond.fieldLinkNest own idx (T j).1 (T j).2.1 (T j).2.2.1 host ∈ tables_1) ∧ (∀ k, k < N → parseFieldDescriptor (T k).2.2.1 = some (ty0 k)) ∧ (∀ a, a < N → ∀ b, b < N → a ≠ b → (T a).2.1 ≠ (T b).2.1) ∧ (T j).2.2.2 = false ∧ parseFieldDescriptor (T j).2.2.1 = some ty
theorem wl_fs {G : Gd} {b0 : Nat} {lay : Lay} {M : Mem} {k ci : Nat} {fs : List (Option (Option Nat))} (h : lay[k]? = some (.inl (ci, fs))) : (wl G b0 lay M)[k]? = some (b0 + k, .inr (ci, fs.mapIdx (fun j x => fv b0 (M k) j x))) := wl_at h
theorem wl_ar {G : Gd} {b0 : Nat} {lay : Lay} {M : Mem} {k n : Nat} (h : lay[k]? = some (.inr (.inl n))) : (wl G b0 lay M)[k]? = some (b0 + k, .inl (G.2.1, n, .inl (M k))) := wl_at h
theorem wl_aq {G : Gd} {b0 : Nat} {lay : Lay} {M : Mem} {k t : Nat} {r : List (Option Nat)} (h : lay[k]? = some (.inr (.inr (t, r)))) : (wl G b0 lay M)[k]? = some (b0 + k, .inl (G.2.2 t, r.length, .inr (.inr (.inr (.inr (qv b0 r)))))) := wl_at h

theorem S_getI {k ci j idx : Nat} {fs : List (Option (Option Nat))} (hd : decode cc pc = .ok (.getfield idx, 3)) (hf : FL y.cls idx ci j) (hk : lay[k]? = some (.inl (ci, fs))) (hj : fs[j]? = some (none)) (hq : pc + 3 = q) (k1 : S l G b0 y cc nL ret rm lay' Post mc ms cells slots lay q ls (.int (M k j) :: st) M) : S l G b0 y cc nL ret rm lay' Post mc ms cells slots lay pc ls (.ref (b0 + k) :: st) M := by
  subst hq; intro p e s m args below meth c F hb hz H locs la hw hs hl
  obtain ⟨C, T, N, h1, h2, h3, h4⟩ := hf
  have hv : (fs.mapIdx (fun j x => fv b0 (M k) j x))[j]? = some (.int (M k j)) := by simp [List.getElem?_mapIdx, hj, fv]
  rcases h4 with h4 | ⟨host, h4⟩
  · exact va_get F.1 F.2.1 F.2.2.2.2.2.1 h3 F.2.2.2.2.1 F.2.2.2.2.2.2.2.1 hw k (wl_fs hk) h1 j h2 (F.2.2.2.2.2.1 _ h4) (fun _ h9 => h9) hv hd (k1 p e s m args below meth c F hb hz H locs la hw hs hl)
  · exact va_getN F.1 F.2.1 F.2.2.2.2.2.1 h3 F.2.2.2.2.1 F.2.2.2.2.2.2.2.1 hw k (wl_fs hk) h1 j h2 (va_Nw.use rfl (F.2.2.2.2.2.2.2.2.1 _ h4 rfl)) (fun _ h9 => h9) hv hd (k1 p e s m args below meth c F hb hz H locs la hw hs hl)
theorem S_getR {k ci j idx : Nat} {fs : List (Option (Option Nat))} {o : Nat} (hd : decode cc pc = .ok (.getfield idx, 3)) (hf : FL y.cls idx ci j) (hk : lay[k]? = some (.inl (ci, fs))) (hj : fs[j]? = some (some (some o))) (hq : pc + 3 = q) (k1 : S l G b0 y cc nL ret rm lay' Post mc ms cells slots lay q ls (.ref (b0 + o) :: st) M) : S l G b0 y cc nL ret rm lay' Post mc ms cells slots lay pc ls (.ref (b0 + k) :: st) M := by
  subst hq; intro p e s m args below meth c F hb hz H locs la hw hs hl
  obtain ⟨C, T, N, h1, h2, h3, h4⟩ := hf
  have hv : (fs.mapIdx (fun j x => fv b0 (M k) j x))[j]? = some (.ref (b0 + o)) := by simp [List.getElem?_mapIdx, hj, fv]
  rcases h4 with h4 | ⟨host, h4⟩
  · exact va_get F.1 F.2.1 F.2.2.2.2.2.1 h3 F.2.2.2.2.1 F.2.2.2.2.2.2.2.1 hw k (wl_fs hk) h1 j h2 (F.2.2.2.2.2.1 _ h4) (fun _ h9 => h9) hv hd (k1 p e s m args below meth c F hb hz H locs la hw hs hl)
  · exact va_getN F.1 F.2.1 F.2.2.2.2.2.1 h3 F.2.2.2.2.1 F.2.2.2.2.2.2.2.1 hw k (wl_fs hk) h1 j h2 (va_Nw.use rfl (F.2.2.2.2.2.2.2.2.1 _ h4 rfl)) (fun _ h9 => h9) hv hd (k1 p e s m args below meth c F hb hz H locs la hw hs hl)
theorem S_putI {k ci j idx : Nat} {fs : List (Option (Option Nat))} {v : Int32} {ty : FieldType} (hd : decode cc pc = .ok (.putfield idx, 3)) (hf : FP y.cls idx ci j ty) (hk : lay[k]? = some (.inl (ci, fs))) (hj : fs[j]? = some none) (hn : narrow ty (.int v) = .int v) (hfit : fits ty (.int v) = true) (hq : pc + 3 = q) (k1 : S l G b0 y cc nL ret rm lay' Post mc ms cells slots lay q ls st (up M k j v)) : S l G b0 y cc nL ret rm lay' Post mc ms cells slots lay pc ls (.int v :: .ref (b0 + k) :: st) M := by
  subst hq; intro p e s m args below meth c F hb hz H locs la hw hs hl
  obtain ⟨C, T, N, ty0, h1, h2, h3, h4, h5, h6, h7, h8⟩ := hf
  have hl2 : j < (fs.mapIdx (fun j x => fv b0 (M k) j x)).length := by simp; exact (List.getElem?_eq_some_iff.mp hj).1
  rcases h4 with h4 | ⟨host, h4⟩
  · refine va_put F.1 F.2.1 F.2.2.2.2.2.1 h3 ty0 h5 h6 F.2.2.2.2.1 F.2.2.2.2.2.2.2.1 hw wl_D hs k (wl_fs hk) h1 j h2 (F.2.2.2.2.2.1 _ h4) (fun _ h9 => h9) h7 h8 hn hfit hl2 hd (fun H1 locs1 hP1 _ hS1 => ?_)
    rw [wl_setI hk hj] at hP1
    exact k1 p e s m args below meth c F hb hz H1 locs1 la hP1 hS1 hl
  · refine va_putN F.1 F.2.1 F.2.2.2.2.2.1 h3 ty0 h5 h6 F.2.2.2.2.1 F.2.2.2.2.2.2.2.1 hw wl_D hs k (wl_fs hk) h1 j h2 (va_Nw.use rfl (F.2.2.2.2.2.2.2.2.1 _ h4 rfl)) (fun _ h9 => h9) h7 h8 hn hfit hl2 hd (fun H1 locs1 hP1 _ hS1 => ?_)
    rw [wl_setI hk hj] at hP1
    exact k1 p e s m args below meth c F hb hz H1 locs1 la hP1 hS1 hl
theorem S_iald {k n : Nat} {i : Int32} (hd : decode cc pc = .ok (.iaload, 1)) (hk : lay[k]? = some (.inr (.inl n))) (hin : vp_in i n) (hq : pc + 1 = q) (k1 : S l G b0 y cc nL ret rm lay' Post mc ms cells slots lay q ls (.int (M k i.toNatClampNeg) :: st) M) : S l G b0 y cc nL ret rm lay' Post mc ms cells slots lay pc ls (.int i :: .ref (b0 + k) :: st) M := by
  subst hq; intro p e s m args below meth c F hb hz H locs la hw hs hl
  exact va_iald F.1 F.2.1 F.2.2.2.2.2.2.2.1 hw k 0 (wl_ar hk) rfl hin hd (k1 p e s m args below meth c F hb hz H locs la hw hs hl)
theorem S_iast {k n : Nat} {i x : Int32} (hd : decode cc pc = .ok (.iastore, 1)) (hk : lay[k]? = some (.inr (.inl n))) (hin : vp_in i n) (hq : pc + 1 = q) (k1 : S l G b0 y cc nL ret rm lay' Post mc ms cells slots lay q ls st (up M k i.toNatClampNeg x)) : S l G b0 y cc nL ret rm lay' Post mc ms cells slots lay pc ls (.int x :: .int i :: .ref (b0 + k) :: st) M := by
  subst hq; intro p e s m args below meth c F hb hz H locs la hw hs hl
  refine va_iast F.1 F.2.1 F.2.2.2.2.2.2.2.1 hw wl_D hs k 0 (wl_ar hk) rfl hin hd (fun H1 locs1 hP1 _ hS1 => ?_)
  rw [wl_setA hk] at hP1
  exact k1 p e s m args below meth c F hb hz H1 locs1 la hP1 hS1 hl
theorem S_alen {k n : Nat} (hd : decode cc pc = .ok (.arraylength, 1)) (hk : lay[k]? = some (.inr (.inl n))) (hq : pc + 1 = q) (k1 : S l G b0 y cc nL ret rm lay' Post mc ms cells slots lay q ls (.int (nI n) :: st) M) : S l G b0 y cc nL ret rm lay' Post mc ms cells slots lay pc ls (.ref (b0 + k) :: st) M := by
  subst hq; intro p e s m args below meth c F hb hz H locs la hw hs hl
  exact va_alen F.1 F.2.1 F.2.2.2.2.2.2.2.1 hw k 0 (wl_ar hk) (ty := .int) rfl rfl hd (k1 p e s m args below meth c F hb hz H locs la hw hs hl)
theorem S_aald {k t o : Nat} {r : List (Option Nat)} {i : Int32} (hd : decode cc pc = .ok (.aaload, 1)) (hk : lay[k]? = some (.inr (.inr (t, r)))) (ht : t < 2) (hin : vp_in i r.length) (ho : r[i.toNatClampNeg]? = some (some o)) (hq : pc + 1 = q) (k1 : S l G b0 y cc nL ret rm lay' Post mc ms cells slots lay q ls (.ref (b0 + o) :: st) M) : S l G b0 y cc nL ret rm lay' Post mc ms cells slots lay pc ls (.int i :: .ref (b0 + k) :: st) M := by
  subst hq; intro p e s m args below meth c F hb hz H locs la hw hs hl
  have e1 : va_rf (qv b0 r i.toNatClampNeg) = .ref (b0 + o) := by
    unfold qv
    rw [List.getD_eq_getElem?_getD, ho]
    rfl
  have k2 := k1 p e s m args below meth c F hb hz H locs la hw hs hl
  rw [← e1] at k2
  match t, ht with
  | 0, _ => exact va_aldq F.1 F.2.1 F.2.2.2.2.2.2.2.1 hw k 1 (wl_aq hk) (C := RX1) rfl hin hd k2
  | 1, _ => exact va_aldq F.1 F.2.1 F.2.2.2.2.2.2.2.1 hw k 2 (wl_aq hk) (C := RX7) rfl hin hd k2
/-- the words of System.arraycopy, for the class that calls it -/
def LC (own : String) (idx : Nat) : Prop := Cond.methodLink own idx arraycopyName ∈ TG ∧ Cond.native arraycopyName ∈ TG ∧ Cond.static arraycopyName ∈ TG ∧ Cond.initialized "java/lang/System" ∈ TG
theorem S_copy {k k0 n n0 idx : Nat} {sp dp z : Int32} (hd : decode cc pc = .ok (.invokestatic idx, 3)) (hL : LC y.cls idx) (hk0 : lay[k0]? = some (.inr (.inl n0))) (hk : lay[k]? = some (.inr (.inl n))) (h1 : ¬ sp < 0) (h2 : ¬ dp < 0) (h3 : ¬ z < 0) (h4 : sp.toNatClampNeg + z.toNatClampNeg ≤ n0) (h5 : dp.toNatClampNeg + z.toNatClampNeg ≤ n) (hfr : 1 ≤ rm.frames) (hlo : (st.map fun v => v.category).sum + (nativeFrameWords "java/lang/System" "arraycopy" 5 + 11) ≤ rm.locals) (hq : pc + 3 = q) (k1 : S l G b0 y cc nL ret rm lay' Post mc ms cells slots lay q ls st (upA M k (va_cpy (M k0) (M k) sp.toNatClampNeg dp.toNatClampNeg z.toNatClampNeg))) : S l G b0 y cc nL ret rm lay' Post mc ms cells slots lay pc ls (.int z :: .int dp :: .ref (b0 + k) :: .int sp :: .ref (b0 + k0) :: st) M := by
  subst hq; intro p e s m args below meth c F hb hz H locs la hw hs hl
  refine va_copyi F.1 F.2.1 (F.2.2.2.1.trans hl.1.symm) F.2.2.2.2.1 (F.2.2.2.2.2.1 _ hL.1) (F.2.2.2.2.2.1 _ hL.2.1) (F.2.2.2.2.2.1 _ hL.2.2.1) (F.2.2.2.2.2.1 _ hL.2.2.2) F.2.2.2.2.2.2.2.1 hw wl_D hs k0 k 0 0 (wl_ar hk0) (wl_ar hk) (ty := .int) rfl rfl rfl h1 h2 h3 h4 h5 (fun _ _ => rfl) hfr hlo hd (fun H1 locs1 hP1 _ hS1 => ?_)
  rw [wl_setA hk] at hP1
  exact k1 p e s m args below meth c F hb hz H1 locs1 la hP1 hS1 hl
theorem WD.ex {s0 : Nat} (hb : b0 ≤ s0) (hz : s0 + cells = b0 + lay.length) {H : Heap} (hw : WD G b0 lay M H) (h1 : s0 ≤ H.size) (h2 : H.size ≤ s0 + cells) : H.size = b0 + lay.length := by
  have := hw.le (Nat.le_trans hb h1)
  omega
theorem S_iret {v : Int32} {ty : FieldType} (hret : ret = some ty) (hd : decode cc pc = .ok (.ireturn, 1)) (hn : narrow ty (.int v) = .int v) (hlay : lay = lay') (hp : Post v M) : S l G b0 y cc nL ret rm lay' Post mc ms mc ms lay pc ls [.int v] M := by
  subst hlay; intro p e s m args below meth c F hb hz H locs la hw hs hl
  refine W_size fun h9 => ?_
  refine W.zret (v := v) (ty := ty) F.1 F.2.1 (F.2.2.1.trans hret) hn (fun t ht hW => ⟨⟨v, M, by rw [hret]; rfl, hp, ?_, by rw [ht]; exact hw, va_K.moved hW.alike F.2.2.2.2.2.2.2.1, NW.warm hW F.2.2.2.2.2.2.2.2.1⟩, hs.F ht⟩) hs.2.2 hd F.2.2.2.2.2.2.1
  rw [ht]
  exact WD.ex hb hz hw hs.1 h9
theorem S_ret {v : Int32} (hret : ret = none) (hd : decode cc pc = .ok (.return_, 1)) (hlay : lay = lay') (hp : Post v M) : S l G b0 y cc nL ret rm lay' Post mc ms mc ms lay pc ls [] M := by
  subst hlay; intro p e s m args below meth c F hb hz H locs la hw hs hl
  refine W_size fun h9 => ?_
  refine W.vret F.1 F.2.1 (F.2.2.1.trans hret) (fun t ht hW => ⟨⟨v, M, by rw [hret]; rfl, hp, ?_, by rw [ht]; exact hw, va_K.moved hW.alike F.2.2.2.2.2.2.2.1, NW.warm hW F.2.2.2.2.2.2.2.2.1⟩, hs.F ht⟩) hs.2.2 hd F.2.2.2.2.2.2.1
  rw [ht]
  exact WD.ex hb hz hw hs.1 h9
end ENG
end
section

theorem good_cons {w : Cond} (h : w ∈ TG) {ws : List Cond} (h2 : GoodIn TG ws) : GoodIn TG (w :: ws) := fun x hx => (List.mem_cons.mp hx).elim (fun e => by rw [e]; exact ⟨h, TG_good h⟩) (h2 x)
theorem good_TG : GoodIn TG TG := fun _ h => ⟨h, TG_good h⟩
def hnd (y : MethodName) (na : Nat) : Prop := y.cls ≠ "java/lang/invoke/MethodHandle" ∧ y.cls ≠ "java/lang/invoke/VarHandle" ∧ (parseMethodDescriptor y.desc).map (fun d => d.parameters.length) = some na
/-- the words of a call, by kind: virtual, static, a nest mate's static, a nest mate's or one's own <init> -/
def LkV (own : String) (idx : Nat) (y' : MethodName) (cc' : ByteArray) (n' : Nat) (ret' : Option FieldType) (na : Nat) : Prop := GoodIn TG (wsV own idx y'.cls y' (.code y' cc' n' ret' :: TG)) ∧ hnd y' na
def LkS (own : String) (idx : Nat) (y' : MethodName) (cc' : ByteArray) (n' : Nat) (ret' : Option FieldType) (na : Nat) : Prop := GoodIn TG (va_wsS own idx y' (.code y' cc' n' ret' :: TG)) ∧ hnd y' na
def LkSN (own : String) (idx : Nat) (y' : MethodName) (cc' : ByteArray) (n' : Nat) (ret' : Option FieldType) (na : Nat) : Prop := (GoodIn TG (.code y' cc' n' ret' :: TG) ∧ (∃ host, Cond.methodLinkNest own idx y' host ∈ tables_1) ∧ Cond.initialized y'.cls ∈ TG ∧ Cond.static y' ∈ TG) ∧ hnd y' na
def LkI (own : String) (idx : Nat) (y' : MethodName) (cc' : ByteArray) (n' : Nat) (na : Nat) : Prop := (GoodIn TG (.code y' cc' n' none :: TG) ∧ (Cond.methodLink own idx y' ∈ TG ∨ ∃ host, Cond.methodLinkNest own idx y' host ∈ tables_1) ∧ Cond.initialized y'.cls ∈ TG ∧ Cond.instanceMethod y' ∈ TG ∧ y'.name = "<init>") ∧ hnd y' na
theorem LkV.of {own : String} {idx : Nat} {y' : MethodName} {cc' : ByteArray} {n' : Nat} {ret' : Option FieldType} {na : Nat} (h1 : Cond.methodLink own idx y' ∈ TG) (h2 : Cond.instanceMethod y' ∈ TG) (h3 : Cond.selects y'.cls y' y' ∈ TG) (h4 : Cond.initialized y'.cls ∈ TG) (h5 : Cond.code y' cc' n' ret' ∈ TG) (hd : hnd y' na) : LkV own idx y' cc' n' ret' na := ⟨good_cons h1 (good_cons h2 (good_cons h3 (good_cons h4 (good_cons h5 good_TG)))), hd⟩
theorem LkS.of {own : String} {idx : Nat} {y' : MethodName} {cc' : ByteArray} {n' : Nat} {ret' : Option FieldType} {na : Nat} (h1 : Cond.methodLink own idx y' ∈ TG) (h2 : Cond.static y' ∈ TG) (h4 : Cond.initialized y'.cls ∈ TG) (h5 : Cond.code y' cc' n' ret' ∈ TG) (hd : hnd y' na) : LkS own idx y' cc' n' ret' na := ⟨good_cons h1 (good_cons h2 (good_cons h4 (good_cons h5 good_TG))), hd⟩
theorem LkSN.of {own : String} {idx : Nat} {y' : MethodName} {cc' : ByteArray} {n' : Nat} {ret' : Option FieldType} {na : Nat} {host : String} (h1 : Cond.methodLinkNest own idx y' host ∈ tables_1) (h2 : Cond.static y' ∈ TG) (h4 : Cond.initialized y'.cls ∈ TG) (h5 : Cond.code y' cc' n' ret' ∈ TG) (hd : hnd y' na) : LkSN own idx y' cc' n' ret' na := ⟨⟨good_cons h5 good_TG, ⟨host, h1⟩, h4, h2⟩, hd⟩
theorem LkI.of {own : String} {idx : Nat} {y' : MethodName} {cc' : ByteArray} {n' : Nat} {na : Nat} (h1 : Cond.methodLink own idx y' ∈ TG ∨ ∃ host, Cond.methodLinkNest own idx y' host ∈ tables_1) (h2 : Cond.instanceMethod y' ∈ TG) (h4 : Cond.initialized y'.cls ∈ TG) (h5 : Cond.code y' cc' n' none ∈ TG) (hn : y'.name = "<init>") (hd : hnd y' na) : LkI own idx y' cc' n' na := ⟨⟨good_cons h5 good_TG, h1, h4, h2, hn⟩, hd⟩
theorem lg_sl1 : ∀ (vs : List Value), vs.all (fun v => v.category == 1) = true → lg_sl vs = vs.map Slot.val := by
  intro vs
  induction vs with
  | nil => intro _; rfl
  | cons v vs ih =>
    intro h
    simp only [List.all_cons, Bool.and_eq_true, beq_iff_eq] at h
    have h2 := ih h.2
    unfold lg_sl at h2 ⊢
    rw [List.flatMap_cons, h2, if_neg (by omega)]
    rfl
theorem LH_entry {vs : List Value} {nL : Nat} (hlen : vs.length ≤ nL) (hcat : vs.all (fun v => v.category == 1) = true) : LH ((lg_sl vs ++ List.replicate (nL - (lg_sl vs).length) Slot.unset).toArray) nL (vs.map some ++ List.replicate (nL - vs.length) none) := by
  have e := lg_sl1 vs hcat
  have hl := lv_entry vs (n := nL) (by rw [e]; simpa using hlen)
  refine ⟨hl.1, hl.2.1, by simp; omega, fun i v hi => ?_⟩
  have hlt : i < vs.length := by
    rcases Nat.lt_or_ge i vs.length with h | h
    · exact h
    · rw [List.getElem?_append_right (by simpa using h)] at hi
      have := List.mem_of_getElem? hi
      simp at this
  rw [List.getElem?_append_left (by simpa using hlt)] at hi
  simp only [List.getElem?_map] at hi
  cases hv : vs[i]? with
  | none => rw [hv] at hi; cases hi
  | some z =>
    rw [hv] at hi
    have hzv : z = v := by simpa using hi
    subst hzv
    have hc := List.all_eq_true.mp hcat z (List.mem_of_getElem? hv)
    refine ⟨by simpa using hc, ?_⟩
    rw [e]
    simp only [List.getElem?_toArray]
    rw [List.getElem?_append_left (by simpa using hlt), List.getElem?_map, hv]
    rfl
section CALLS
variable {l : Launch} {G : Gd} {b0 : Nat} {y : MethodName} {cc : ByteArray} {nL : Nat} {ret : Option FieldType} {rm : Room} {lay' : Lay} {Post : PT} {mc ms cells slots : Nat} {lay : Lay} {pc q : Nat} {ls : List (Option Value)} {st : List Value} {M : Mem}
theorem Ct.of {vs : List Value} (ls0 : List (Option Value)) (hy : plainName y.cls = true) (hlen : vs.length ≤ nL) (hcat : vs.all (fun v => v.category == 1) = true) (hls : vs.map some ++ List.replicate (nL - vs.length) none = ls0) (k : S l G b0 y cc nL ret rm lay' Post rm.cells rm.slots 0 0 lay 0 ls0 [] M) : Ct l G b0 y cc nL ret rm lay lay' M vs Post := by
  refine Met.ofW (cc := cc) (maxL := nL) (ret := ret) hy rfl ?_
  intro p e s m args below meth c s₁ B hml hv
  obtain ⟨rfl, hz, hw, hK, hN⟩ := hv
  have hts := atoms_spec (ws := .code y cc nL ret :: TG) B.pre
  rw [lg_entry_eq]
  exact k p e s m _ below meth c ⟨B.exec, B.bytes, B.returns, hml, findClass_of_methodNamed B.named, fun w h => hts w (List.mem_cons_of_mem _ h), B.notSynchronized, hK, hN, (name_of_methodNamed B.named B.method).1⟩ (by omega) (by omega) s.heap [] _ hw va_S.rf (hls ▸ LH_entry hlen hcat)
theorem Ct.blind {vs : List Value} : FrameBlind (va_Pc vs (World G b0 lay M)) := fun a U g mk q => ⟨q.1, q.2.1, q.2.2.1, va_K.moved (u := U) (U := U.calling g mk a) (Vm.Alike.refl U.vm) q.2.2.2.1, NW.same (u := U) (U := U.calling g mk a) rfl q.2.2.2.2⟩
section GO
variable {p : Program} {e : Env} {s : State} {m : MethodId} {args : Array Value} {below : List Frame} {meth : Method} {c : Code} {H : Heap} {locs : List Loc} {Q : State → Prop} {la : Array Slot} {st0 rest : List Value} {a : Array Value} {mc1 ms1 : Nat} {lay1 : Lay} {Post' : PT}
theorem go_int {ty : FieldType} (hr : va_Run p l e rm s m args below meth c H locs cells slots mc1 ms1 (F0 m pc la st0) rest (QC G b0 (some ty) lay1 Post' a) (fun q => b0 ≤ q)) (hs : va_S (fun q => b0 ≤ q) s.heap H locs) (kk : ∀ (v : Int32) (M' : Mem) (H1 : Heap) (locs1 : List Loc), Post' v M' → WD G b0 lay1 M' H1 → va_S (fun q => b0 ≤ q) s.heap H1 locs1 → W p l e rm s m args below meth c H1 locs1 (cells + mc1) (slots + ms1) Q (F0 m (pc + 3) la (.int v :: rest))) : W p l e rm s m args below meth c H locs cells slots Q (F0 m pc la st0) := by
  intro T hT X
  obtain ⟨v, st₀, t, T', L, h0, X', hL, e1, e2, ⟨⟨r, M', hv, hp, hw⟩, hz, hk⟩, st⟩ := hr T hT X
  cases hv
  rw [h0] at hz hk
  obtain ⟨t2, a1, b1⟩ := kk r M' T'.heap (locs ++ L) hp (by rw [e1]; exact hw.2.1) ⟨Nat.le_trans hs.1 (by rw [e1]; exact hz), fun q h1 h2 => by rw [e1, hk q (Nat.lt_of_lt_of_le h1 hs.1) h2]; exact hs.2.1 q h1 h2, fun q hq => (List.mem_append.mp hq).elim (hs.2.2 q) (hL q)⟩ T' rfl X'
  exact ⟨t2, st t2 a1, b1⟩
theorem go_void (hr : va_Run p l e rm s m args below meth c H locs cells slots mc1 ms1 (F0 m pc la st0) rest (QC G b0 none lay1 Post' a) (fun q => b0 ≤ q)) (hs : va_S (fun q => b0 ≤ q) s.heap H locs) (kk : ∀ (v : Int32) (M' : Mem) (H1 : Heap) (locs1 : List Loc), Post' v M' → WD G b0 lay1 M' H1 → va_S (fun q => b0 ≤ q) s.heap H1 locs1 → W p l e rm s m args below meth c H1 locs1 (cells + mc1) (slots + ms1) Q (F0 m (pc + 3) la rest)) : W p l e rm s m args below meth c H locs cells slots Q (F0 m pc la st0) := by
  intro T hT X
  obtain ⟨v, st₀, t, T', L, h0, X', hL, e1, e2, ⟨⟨r, M', hv, hp, hw⟩, hz, hk⟩, st⟩ := hr T hT X
  cases hv
  rw [h0] at hz hk
  obtain ⟨t2, a1, b1⟩ := kk r M' T'.heap (locs ++ L) hp (by rw [e1]; exact hw.2.1) ⟨Nat.le_trans hs.1 (by rw [e1]; exact hz), fun q h1 h2 => by rw [e1, hk q (Nat.lt_of_lt_of_le h1 hs.1) h2]; exact hs.2.1 q h1 h2, fun q hq => (List.mem_append.mp hq).elim (hs.2.2 q) (hL q)⟩ T' rfl X'
  exact ⟨t2, st t2 a1, b1⟩
end GO
variable {y' : MethodName} {cc' : ByteArray} {n' : Nat} {rm' : Room} {lay1 : Lay} {Post' : PT}

theorem S_callV0i {k ci N : Nat} {C : String} {T : u_T} {fs : List (Option (Option Nat))} {idx : Nat} {ty : FieldType} {rest : List Value} (hd : decode cc pc = .ok (.invokevirtual idx, 3)) (hL : LkV y.cls idx y' cc' n' (some ty) 0) (hk : lay[k]? = some (.inl (ci, fs))) (hc : vwCl[ci]? = some (C, T, N)) (hcl : y'.cls = C) (hM : Ct l G b0 y' cc' n' (some ty) rm' lay lay M [.ref (b0 + k)] Post') (h0 : rm'.cells = 0) (h00 : rm'.slots = 0) (hW : (rest.map fun v => v.category).sum ≤ 8) (hR : rm'.frames + 1 ≤ rm.frames ∧ 8 + (n' + 11) + rm'.locals ≤ rm.locals) (hC : cells + rm'.cells ≤ rm.cells ∧ slots + rm'.slots ≤ rm.slots) (hq : pc + 3 = q) (kk : ∀ (v : Int32) (M' : Mem), Post' v M' → S l G b0 y cc nL ret rm lay' Post mc ms cells slots lay q ls (.int v :: rest) M') : S l G b0 y cc nL ret rm lay' Post mc ms cells slots lay pc ls (.ref (b0 + k) :: rest) M := by
  subst hq
  intro p e s m args below meth c F hb hz H locs la hw hs hl
  refine W_size fun h9 => ?_
  refine go_int (va_runV (As := []) (rest := rest) (C := y'.cls) ⟨F.1, F.2.1, F.2.2.2.1, F.2.2.2.2.1, F.2.2.2.2.2.1⟩ hM (cwV 0 F.2.2.2.2.2.1 hL.1 rfl rfl rfl ⟨rfl, hL.2⟩ hR) ⟨Ct.blind, va_recv F.2.2.2.2.2.2.2.1 hw (ci := ci) (q0 := k) (q := (y'.cls, T, N)) (by rw [hcl]; exact hc) (wl_fs hk), fun U hU hW2 => ⟨rfl, by rw [hU]; exact WD.ex hb hz hw hs.1 h9, by rw [hU]; exact hw, va_K.moved hW2.alike F.2.2.2.2.2.2.2.1, NW.warm hW2 F.2.2.2.2.2.2.2.2.1⟩⟩ rfl rfl hl.1 rfl (lv_room hW) hd hC) hs (fun v M' H1 locs1 hp hw1 hs1 => ?_)
  rw [h0, h00, Nat.add_zero, Nat.add_zero]
  exact kk v M' hp p e s m args below meth c F hb hz H1 locs1 la hw1 hs1 hl
theorem S_callV0v {k ci N : Nat} {C : String} {T : u_T} {fs : List (Option (Option Nat))} {idx : Nat} {rest : List Value} (hd : decode cc pc = .ok (.invokevirtual idx, 3)) (hL : LkV y.cls idx y' cc' n' none 0) (hk : lay[k]? = some (.inl (ci, fs))) (hc : vwCl[ci]? = some (C, T, N)) (hcl : y'.cls = C) (hM : Ct l G b0 y' cc' n' none rm' lay lay M [.ref (b0 + k)] Post') (h0 : rm'.cells = 0) (h00 : rm'.slots = 0) (hW : (rest.map fun v => v.category).sum ≤ 8) (hR : rm'.frames + 1 ≤ rm.frames ∧ 8 + (n' + 11) + rm'.locals ≤ rm.locals) (hC : cells + rm'.cells ≤ rm.cells ∧ slots + rm'.slots ≤ rm.slots) (hq : pc + 3 = q) (kk : ∀ (v : Int32) (M' : Mem), Post' v M' → S l G b0 y cc nL ret rm lay' Post mc ms cells slots lay q ls rest M') : S l G b0 y cc nL ret rm lay' Post mc ms cells slots lay pc ls (.ref (b0 + k) :: rest) M := by
  subst hq
  intro p e s m args below meth c F hb hz H locs la hw hs hl
  refine W_size fun h9 => ?_
  refine go_void (va_runV (As := []) (rest := rest) (C := y'.cls) ⟨F.1, F.2.1, F.2.2.2.1, F.2.2.2.2.1, F.2.2.2.2.2.1⟩ hM (cwV 0 F.2.2.2.2.2.1 hL.1 rfl rfl rfl ⟨rfl, hL.2⟩ hR) ⟨Ct.blind, va_recv F.2.2.2.2.2.2.2.1 hw (ci := ci) (q0 := k) (q := (y'.cls, T, N)) (by rw [hcl]; exact hc) (wl_fs hk), fun U hU hW2 => ⟨rfl, by rw [hU]; exact WD.ex hb hz hw hs.1 h9, by rw [hU]; exact hw, va_K.moved hW2.alike F.2.2.2.2.2.2.2.1, NW.warm hW2 F.2.2.2.2.2.2.2.2.1⟩⟩ rfl rfl hl.1 rfl (lv_room hW) hd hC) hs (fun v M' H1 locs1 hp hw1 hs1 => ?_)
  rw [h0, h00, Nat.add_zero, Nat.add_zero]
  exact kk v M' hp p e s m args below meth c F hb hz H1 locs1 la hw1 hs1 hl
theorem S_callV1i {k ci N : Nat} {C : String} {T : u_T} {fs : List (Option (Option Nat))} {idx : Nat} {ty : FieldType} {a1 : Value} {rest : List Value} (hd : decode cc pc = .ok (.invokevirtual idx, 3)) (hL : LkV y.cls idx y' cc' n' (some ty) 1) (hk : lay[k]? = some (.inl (ci, fs))) (hc : vwCl[ci]? = some (C, T, N)) (hcl : y'.cls = C) (hM : Ct l G b0 y' cc' n' (some ty) rm' lay lay M [.ref (b0 + k), a1] Post') (h0 : rm'.cells = 0) (h00 : rm'.slots = 0) (hW : (rest.map fun v => v.category).sum ≤ 8) (hR : rm'.frames + 1 ≤ rm.frames ∧ 8 + (n' + 11) + rm'.locals ≤ rm.locals) (hC : cells + rm'.cells ≤ rm.cells ∧ slots + rm'.slots ≤ rm.slots) (hq : pc + 3 = q) (kk : ∀ (v : Int32) (M' : Mem), Post' v M' → S l G b0 y cc nL ret rm lay' Post mc ms cells slots lay q ls (.int v :: rest) M') : S l G b0 y cc nL ret rm lay' Post mc ms cells slots lay pc ls (a1 :: .ref (b0 + k) :: rest) M := by
  subst hq
  intro p e s m args below meth c F hb hz H locs la hw hs hl
  refine W_size fun h9 => ?_
  refine go_int (va_runV (As := [a1]) (rest := rest) (C := y'.cls) ⟨F.1, F.2.1, F.2.2.2.1, F.2.2.2.2.1, F.2.2.2.2.2.1⟩ hM (cwV 1 F.2.2.2.2.2.1 hL.1 rfl rfl rfl ⟨rfl, hL.2⟩ hR) ⟨Ct.blind, va_recv F.2.2.2.2.2.2.2.1 hw (ci := ci) (q0 := k) (q := (y'.cls, T, N)) (by rw [hcl]; exact hc) (wl_fs hk), fun U hU hW2 => ⟨rfl, by rw [hU]; exact WD.ex hb hz hw hs.1 h9, by rw [hU]; exact hw, va_K.moved hW2.alike F.2.2.2.2.2.2.2.1, NW.warm hW2 F.2.2.2.2.2.2.2.2.1⟩⟩ rfl rfl hl.1 rfl (lv_room hW) hd hC) hs (fun v M' H1 locs1 hp hw1 hs1 => ?_)
  rw [h0, h00, Nat.add_zero, Nat.add_zero]
  exact kk v M' hp p e s m args below meth c F hb hz H1 locs1 la hw1 hs1 hl
theorem S_callV1v {k ci N : Nat} {C : String} {T : u_T} {fs : List (Option (Option Nat))} {idx : Nat} {a1 : Value} {rest : List Value} (hd : decode cc pc = .ok (.invokevirtual idx, 3)) (hL : LkV y.cls idx y' cc' n' none 1) (hk : lay[k]? = some (.inl (ci, fs))) (hc : vwCl[ci]? = some (C, T, N)) (hcl : y'.cls = C) (hM : Ct l G b0 y' cc' n' none rm' lay lay M [.ref (b0 + k), a1] Post') (h0 : rm'.cells = 0) (h00 : rm'.slots = 0) (hW : (rest.map fun v => v.category).sum ≤ 8) (hR : rm'.frames + 1 ≤ rm.frames ∧ 8 + (n' + 11) + rm'.locals ≤ rm.locals) (hC : cells + rm'.cells ≤ rm.cells ∧ slots + rm'.slots ≤ rm.slots) (hq : pc + 3 = q) (kk : ∀ (v : Int32) (M' : Mem), Post' v M' → S l G b0 y cc nL ret rm lay' Post mc ms cells slots lay q ls rest M') : S l G b0 y cc nL ret rm lay' Post mc ms cells slots lay pc ls (a1 :: .ref (b0 + k) :: rest) M := by
  subst hq
  intro p e s m args below meth c F hb hz H locs la hw hs hl
  refine W_size fun h9 => ?_
  refine go_void (va_runV (As := [a1]) (rest := rest) (C := y'.cls) ⟨F.1, F.2.1, F.2.2.2.1, F.2.2.2.2.1, F.2.2.2.2.2.1⟩ hM (cwV 1 F.2.2.2.2.2.1 hL.1 rfl rfl rfl ⟨rfl, hL.2⟩ hR) ⟨Ct.blind, va_recv F.2.2.2.2.2.2.2.1 hw (ci := ci) (q0 := k) (q := (y'.cls, T, N)) (by rw [hcl]; exact hc) (wl_fs hk), fun U hU hW2 => ⟨rfl, by rw [hU]; exact WD.ex hb hz hw hs.1 h9, by rw [hU]; exact hw, va_K.moved hW2.alike F.2.2.2.2.2.2.2.1, NW.warm hW2 F.2.2.2.2.2.2.2.2.1⟩⟩ rfl rfl hl.1 rfl (lv_room hW) hd hC) hs (fun v M' H1 locs1 hp hw1 hs1 => ?_)
  rw [h0, h00, Nat.add_zero, Nat.add_zero]
  exact kk v M' hp p e s m args below meth c F hb hz H1 locs1 la hw1 hs1 hl
theorem S_callV2i {k ci N : Nat} {C : String} {T : u_T} {fs : List (Option (Option Nat))} {idx : Nat} {ty : FieldType} {a1 a2 : Value} {rest : List Value} (hd : decode cc pc = .ok (.invokevirtual idx, 3)) (hL : LkV y.cls idx y' cc' n' (some ty) 2) (hk : lay[k]? = some (.inl (ci, fs))) (hc : vwCl[ci]? = some (C, T, N)) (hcl : y'.cls = C) (hM : Ct l G b0 y' cc' n' (some ty) rm' lay lay M [.ref (b0 + k), a1, a2] Post') (h0 : rm'.cells = 0) (h00 : rm'.slots = 0) (hW : (rest.map fun v => v.category).sum ≤ 8) (hR : rm'.frames + 1 ≤ rm.frames ∧ 8 + (n' + 11) + rm'.locals ≤ rm.locals) (hC : cells + rm'.cells ≤ rm.cells ∧ slots + rm'.slots ≤ rm.slots) (hq : pc + 3 = q) (kk : ∀ (v : Int32) (M' : Mem), Post' v M' → S l G b0 y cc nL ret rm lay' Post mc ms cells slots lay q ls (.int v :: rest) M') : S l G b0 y cc nL ret rm lay' Post mc ms cells slots lay pc ls (a2 :: a1 :: .ref (b0 + k) :: rest) M := by
  subst hq
  intro p e s m args below meth c F hb hz H locs la hw hs hl
  refine W_size fun h9 => ?_
  refine go_int (va_runV (As := [a1, a2]) (rest := rest) (C := y'.cls) ⟨F.1, F.2.1, F.2.2.2.1, F.2.2.2.2.1, F.2.2.2.2.2.1⟩ hM (cwV 2 F.2.2.2.2.2.1 hL.1 rfl rfl rfl ⟨rfl, hL.2⟩ hR) ⟨Ct.blind, va_recv F.2.2.2.2.2.2.2.1 hw (ci := ci) (q0 := k) (q := (y'.cls, T, N)) (by rw [hcl]; exact hc) (wl_fs hk), fun U hU hW2 => ⟨rfl, by rw [hU]; exact WD.ex hb hz hw hs.1 h9, by rw [hU]; exact hw, va_K.moved hW2.alike F.2.2.2.2.2.2.2.1, NW.warm hW2 F.2.2.2.2.2.2.2.2.1⟩⟩ rfl rfl hl.1 rfl (lv_room hW) hd hC) hs (fun v M' H1 locs1 hp hw1 hs1 => ?_)
  rw [h0, h00, Nat.add_zero, Nat.add_zero]
  exact kk v M' hp p e s m args below meth c F hb hz H1 locs1 la hw1 hs1 hl
theorem S_callV2v {k ci N : Nat} {C : String} {T : u_T} {fs : List (Option (Option Nat))} {idx : Nat} {a1 a2 : Value} {rest : List Value} (hd : decode cc pc = .ok (.invokevirtual idx, 3)) (hL : LkV y.cls idx y' cc' n' none 2) (hk : lay[k]? = some (.inl (ci, fs))) (hc : vwCl[ci]? = some (C, T, N)) (hcl : y'.cls = C) (hM : Ct l G b0 y' cc' n' none rm' lay lay M [.ref (b0 + k), a1, a2] Post') (h0 : rm'.cells = 0) (h00 : rm'.slots = 0) (hW : (rest.map fun v => v.category).sum ≤ 8) (hR : rm'.frames + 1 ≤ rm.frames ∧ 8 + (n' + 11) + rm'.locals ≤ rm.locals) (hC : cells + rm'.cells ≤ rm.cells ∧ slots + rm'.slots ≤ rm.slots) (hq : pc + 3 = q) (kk : ∀ (v : Int32) (M' : Mem), Post' v M' → S l G b0 y cc nL ret rm lay' Post mc ms cells slots lay q ls rest M') : S l G b0 y cc nL ret rm lay' Post mc ms cells slots lay pc ls (a2 :: a1 :: .ref (b0 + k) :: rest) M := by
  subst hq
  intro p e s m args below meth c F hb hz H locs la hw hs hl
  refine W_size fun h9 => ?_
  refine go_void (va_runV (As := [a1, a2]) (rest := rest) (C := y'.cls) ⟨F.1, F.2.1, F.2.2.2.1, F.2.2.2.2.1, F.2.2.2.2.2.1⟩ hM (cwV 2 F.2.2.2.2.2.1 hL.1 rfl rfl rfl ⟨rfl, hL.2⟩ hR) ⟨Ct.blind, va_recv F.2.2.2.2.2.2.2.1 hw (ci := ci) (q0 := k) (q := (y'.cls, T, N)) (by rw [hcl]; exact hc) (wl_fs hk), fun U hU hW2 => ⟨rfl, by rw [hU]; exact WD.ex hb hz hw hs.1 h9, by rw [hU]; exact hw, va_K.moved hW2.alike F.2.2.2.2.2.2.2.1, NW.warm hW2 F.2.2.2.2.2.2.2.2.1⟩⟩ rfl rfl hl.1 rfl (lv_room hW) hd hC) hs (fun v M' H1 locs1 hp hw1 hs1 => ?_)
  rw [h0, h00, Nat.add_zero, Nat.add_zero]
  exact kk v M' hp p e s m args below meth c F hb hz H1 locs1 la hw1 hs1 hl
theorem S_callV3i {k ci N : Nat} {C : String} {T : u_T} {fs : List (Option (Option Nat))} {idx : Nat} {ty : FieldType} {a1 a2 a3 : Value} {rest : List Value} (hd : decode cc pc = .ok (.invokevirtual idx, 3)) (hL : LkV y.cls idx y' cc' n' (some ty) 3) (hk : lay[k]? = some (.inl (ci, fs))) (hc : vwCl[ci]? = some (C, T, N)) (hcl : y'.cls = C) (hM : Ct l G b0 y' cc' n' (some ty) rm' lay lay M [.ref (b0 + k), a1, a2, a3] Post') (h0 : rm'.cells = 0) (h00 : rm'.slots = 0) (hW : (rest.map fun v => v.category).sum ≤ 8) (hR : rm'.frames + 1 ≤ rm.frames ∧ 8 + (n' + 11) + rm'.locals ≤ rm.locals) (hC : cells + rm'.cells ≤ rm.cells ∧ slots + rm'.slots ≤ rm.slots) (hq : pc + 3 = q) (kk : ∀ (v : Int32) (M' : Mem), Post' v M' → S l G b0 y cc nL ret rm lay' Post mc ms cells slots lay q ls (.int v :: rest) M') : S l G b0 y cc nL ret rm lay' Post mc ms cells slots lay pc ls (a3 :: a2 :: a1 :: .ref (b0 + k) :: rest) M := by
  subst hq
  intro p e s m args below meth c F hb hz H locs la hw hs hl
  refine W_size fun h9 => ?_
  refine go_int (va_runV (As := [a1, a2, a3]) (rest := rest) (C := y'.cls) ⟨F.1, F.2.1, F.2.2.2.1, F.2.2.2.2.1, F.2.2.2.2.2.1⟩ hM (cwV 3 F.2.2.2.2.2.1 hL.1 rfl rfl rfl ⟨rfl, hL.2⟩ hR) ⟨Ct.blind, va_recv F.2.2.2.2.2.2.2.1 hw (ci := ci) (q0 := k) (q := (y'.cls, T, N)) (by rw [hcl]; exact hc) (wl_fs hk), fun U hU hW2 => ⟨rfl, by rw [hU]; exact WD.ex hb hz hw hs.1 h9, by rw [hU]; exact hw, va_K.moved hW2.alike F.2.2.2.2.2.2.2.1, NW.warm hW2 F.2.2.2.2.2.2.2.2.1⟩⟩ rfl rfl hl.1 rfl (lv_room hW) hd hC) hs (fun v M' H1 locs1 hp hw1 hs1 => ?_)
  rw [h0, h00, Nat.add_zero, Nat.add_zero]
  exact kk v M' hp p e s m args below meth c F hb hz H1 locs1 la hw1 hs1 hl
theorem S_callV3v {k ci N : Nat} {C : String} {T : u_T} {fs : List (Option (Option Nat))} {idx : Nat} {a1 a2 a3 : Value} {rest : List Value} (hd : decode cc pc = .ok (.invokevirtual idx, 3)) (hL : LkV y.cls idx y' cc' n' none 3) (hk : lay[k]? = some (.inl (ci, fs))) (hc : vwCl[ci]? = some (C, T, N)) (hcl : y'.cls = C) (hM : Ct l G b0 y' cc' n' none rm' lay lay M [.ref (b0 + k), a1, a2, a3] Post') (h0 : rm'.cells = 0) (h00 : rm'.slots = 0) (hW : (rest.map fun v => v.category).sum ≤ 8) (hR : rm'.frames + 1 ≤ rm.frames ∧ 8 + (n' + 11) + rm'.locals ≤ rm.locals) (hC : cells + rm'.cells ≤ rm.cells ∧ slots + rm'.slots ≤ rm.slots) (hq : pc + 3 = q) (kk : ∀ (v : Int32) (M' : Mem), Post' v M' → S l G b0 y cc nL ret rm lay' Post mc ms cells slots lay q ls rest M') : S l G b0 y cc nL ret rm lay' Post mc ms cells slots lay pc ls (a3 :: a2 :: a1 :: .ref (b0 + k) :: rest) M := by
  subst hq
  intro p e s m args below meth c F hb hz H locs la hw hs hl
  refine W_size fun h9 => ?_
  refine go_void (va_runV (As := [a1, a2, a3]) (rest := rest) (C := y'.cls) ⟨F.1, F.2.1, F.2.2.2.1, F.2.2.2.2.1, F.2.2.2.2.2.1⟩ hM (cwV 3 F.2.2.2.2.2.1 hL.1 rfl rfl rfl ⟨rfl, hL.2⟩ hR) ⟨Ct.blind, va_recv F.2.2.2.2.2.2.2.1 hw (ci := ci) (q0 := k) (q := (y'.cls, T, N)) (by rw [hcl]; exact hc) (wl_fs hk), fun U hU hW2 => ⟨rfl, by rw [hU]; exact WD.ex hb hz hw hs.1 h9, by rw [hU]; exact hw, va_K.moved hW2.alike F.2.2.2.2.2.2.2.1, NW.warm hW2 F.2.2.2.2.2.2.2.2.1⟩⟩ rfl rfl hl.1 rfl (lv_room hW) hd hC) hs (fun v M' H1 locs1 hp hw1 hs1 => ?_)
  rw [h0, h00, Nat.add_zero, Nat.add_zero]
  exact kk v M' hp p e s m args below meth c F hb hz H1 locs1 la hw1 hs1 hl
theorem S_callV4i {k ci N : Nat} {C : String} {T : u_T} {fs : List (Option (Option Nat))} {idx : Nat} {ty : FieldType} {a1 a2 a3 a4 : Value} {rest : List Value} (hd : decode cc pc = .ok (.invokevirtual idx, 3)) (hL : LkV y.cls idx y' cc' n' (some ty) 4) (hk : lay[k]? = some (.inl (ci, fs))) (hc : vwCl[ci]? = some (C, T, N)) (hcl : y'.cls = C) (hM : Ct l G b0 y' cc' n' (some ty) rm' lay lay M [.ref (b0 + k), a1, a2, a3, a4] Post') (h0 : rm'.cells = 0) (h00 : rm'.slots = 0) (hW : (rest.map fun v => v.category).sum ≤ 8) (hR : rm'.frames + 1 ≤ rm.frames ∧ 8 + (n' + 11) + rm'.locals ≤ rm.locals) (hC : cells + rm'.cells ≤ rm.cells ∧ slots + rm'.slots ≤ rm.slots) (hq : pc + 3 = q) (kk : ∀ (v : Int32) (M' : Mem), Post' v M' → S l G b0 y cc nL ret rm lay' Post mc ms cells slots lay q ls (.int v :: rest) M') : S l G b0 y cc nL ret rm lay' Post mc ms cells slots lay pc ls (a4 :: a3 :: a2 :: a1 :: .ref (b0 + k) :: rest) M := by
  subst hq
  intro p e s m args below meth c F hb hz H locs la hw hs hl
  refine W_size fun h9 => ?_
  refine go_int (va_runV (As := [a1, a2, a3, a4]) (rest := rest) (C := y'.cls) ⟨F.1, F.2.1, F.2.2.2.1, F.2.2.2.2.1, F.2.2.2.2.2.1⟩ hM (cwV 4 F.2.2.2.2.2.1 hL.1 rfl rfl rfl ⟨rfl, hL.2⟩ hR) ⟨Ct.blind, va_recv F.2.2.2.2.2.2.2.1 hw (ci := ci) (q0 := k) (q := (y'.cls, T, N)) (by rw [hcl]; exact hc) (wl_fs hk), fun U hU hW2 => ⟨rfl, by rw [hU]; exact WD.ex hb hz hw hs.1 h9, by rw [hU]; exact hw, va_K.moved hW2.alike F.2.2.2.2.2.2.2.1, NW.warm hW2 F.2.2.2.2.2.2.2.2.1⟩⟩ rfl rfl hl.1 rfl (lv_room hW) hd hC) hs (fun v M' H1 locs1 hp hw1 hs1 => ?_)
  rw [h0, h00, Nat.add_zero, Nat.add_zero]
  exact kk v M' hp p e s m args below meth c F hb hz H1 locs1 la hw1 hs1 hl
theorem S_callV4v {k ci N : Nat} {C : String} {T : u_T} {fs : List (Option (Option Nat))} {idx : Nat} {a1 a2 a3 a4 : Value} {rest : List Value} (hd : decode cc pc = .ok (.invokevirtual idx, 3)) (hL : LkV y.cls idx y' cc' n' none 4) (hk : lay[k]? = some (.inl (ci, fs))) (hc : vwCl[ci]? = some (C, T, N)) (hcl : y'.cls = C) (hM : Ct l G b0 y' cc' n' none rm' lay lay M [.ref (b0 + k), a1, a2, a3, a4] Post') (h0 : rm'.cells = 0) (h00 : rm'.slots = 0) (hW : (rest.map fun v => v.category).sum ≤ 8) (hR : rm'.frames + 1 ≤ rm.frames ∧ 8 + (n' + 11) + rm'.locals ≤ rm.locals) (hC : cells + rm'.cells ≤ rm.cells ∧ slots + rm'.slots ≤ rm.slots) (hq : pc + 3 = q) (kk : ∀ (v : Int32) (M' : Mem), Post' v M' → S l G b0 y cc nL ret rm lay' Post mc ms cells slots lay q ls rest M') : S l G b0 y cc nL ret rm lay' Post mc ms cells slots lay pc ls (a4 :: a3 :: a2 :: a1 :: .ref (b0 + k) :: rest) M := by
  subst hq
  intro p e s m args below meth c F hb hz H locs la hw hs hl
  refine W_size fun h9 => ?_
  refine go_void (va_runV (As := [a1, a2, a3, a4]) (rest := rest) (C := y'.cls) ⟨F.1, F.2.1, F.2.2.2.1, F.2.2.2.2.1, F.2.2.2.2.2.1⟩ hM (cwV 4 F.2.2.2.2.2.1 hL.1 rfl rfl rfl ⟨rfl, hL.2⟩ hR) ⟨Ct.blind, va_recv F.2.2.2.2.2.2.2.1 hw (ci := ci) (q0 := k) (q := (y'.cls, T, N)) (by rw [hcl]; exact hc) (wl_fs hk), fun U hU hW2 => ⟨rfl, by rw [hU]; exact WD.ex hb hz hw hs.1 h9, by rw [hU]; exact hw, va_K.moved hW2.alike F.2.2.2.2.2.2.2.1, NW.warm hW2 F.2.2.2.2.2.2.2.2.1⟩⟩ rfl rfl hl.1 rfl (lv_room hW) hd hC) hs (fun v M' H1 locs1 hp hw1 hs1 => ?_)
  rw [h0, h00, Nat.add_zero, Nat.add_zero]
  exact kk v M' hp p e s m args below meth c F hb hz H1 locs1 la hw1 hs1 hl
theorem S_callS1i {idx : Nat} {ty : FieldType} {a1 : Value} {rest : List Value} (hd : decode cc pc = .ok (.invokestatic idx, 3)) (hL : LkS y.cls idx y' cc' n' (some ty) 1) (hM : Ct l G b0 y' cc' n' (some ty) rm' lay lay M [a1] Post') (h0 : rm'.cells = 0) (h00 : rm'.slots = 0) (hW : (rest.map fun v => v.category).sum ≤ 8) (hR : rm'.frames + 1 ≤ rm.frames ∧ 8 + (n' + 11) + rm'.locals ≤ rm.locals) (hC : cells + rm'.cells ≤ rm.cells ∧ slots + rm'.slots ≤ rm.slots) (hq : pc + 3 = q) (kk : ∀ (v : Int32) (M' : Mem), Post' v M' → S l G b0 y cc nL ret rm lay' Post mc ms cells slots lay q ls (.int v :: rest) M') : S l G b0 y cc nL ret rm lay' Post mc ms cells slots lay pc ls (a1 :: rest) M := by
  subst hq
  intro p e s m args below meth c F hb hz H locs la hw hs hl
  refine W_size fun h9 => ?_
  refine go_int (va_runS (As := [a1]) (rest := rest) ⟨F.1, F.2.1, F.2.2.2.1, F.2.2.2.2.1, F.2.2.2.2.2.1⟩ hM (va_cwS 1 F.2.2.2.2.2.1 hL.1 rfl rfl rfl hL.2 hR) ⟨Ct.blind, fun U hU hW2 => ⟨rfl, by rw [hU]; exact WD.ex hb hz hw hs.1 h9, by rw [hU]; exact hw, va_K.moved hW2.alike F.2.2.2.2.2.2.2.1, NW.warm hW2 F.2.2.2.2.2.2.2.2.1⟩⟩ rfl rfl hl.1 rfl (lv_room hW) hd hC) hs (fun v M' H1 locs1 hp hw1 hs1 => ?_)
  rw [h0, h00, Nat.add_zero, Nat.add_zero]
  exact kk v M' hp p e s m args below meth c F hb hz H1 locs1 la hw1 hs1 hl
theorem S_callS1v {idx : Nat} {a1 : Value} {rest : List Value} (hd : decode cc pc = .ok (.invokestatic idx, 3)) (hL : LkS y.cls idx y' cc' n' none 1) (hM : Ct l G b0 y' cc' n' none rm' lay lay M [a1] Post') (h0 : rm'.cells = 0) (h00 : rm'.slots = 0) (hW : (rest.map fun v => v.category).sum ≤ 8) (hR : rm'.frames + 1 ≤ rm.frames ∧ 8 + (n' + 11) + rm'.locals ≤ rm.locals) (hC : cells + rm'.cells ≤ rm.cells ∧ slots + rm'.slots ≤ rm.slots) (hq : pc + 3 = q) (kk : ∀ (v : Int32) (M' : Mem), Post' v M' → S l G b0 y cc nL ret rm lay' Post mc ms cells slots lay q ls rest M') : S l G b0 y cc nL ret rm lay' Post mc ms cells slots lay pc ls (a1 :: rest) M := by
  subst hq
  intro p e s m args below meth c F hb hz H locs la hw hs hl
  refine W_size fun h9 => ?_
  refine go_void (va_runS (As := [a1]) (rest := rest) ⟨F.1, F.2.1, F.2.2.2.1, F.2.2.2.2.1, F.2.2.2.2.2.1⟩ hM (va_cwS 1 F.2.2.2.2.2.1 hL.1 rfl rfl rfl hL.2 hR) ⟨Ct.blind, fun U hU hW2 => ⟨rfl, by rw [hU]; exact WD.ex hb hz hw hs.1 h9, by rw [hU]; exact hw, va_K.moved hW2.alike F.2.2.2.2.2.2.2.1, NW.warm hW2 F.2.2.2.2.2.2.2.2.1⟩⟩ rfl rfl hl.1 rfl (lv_room hW) hd hC) hs (fun v M' H1 locs1 hp hw1 hs1 => ?_)
  rw [h0, h00, Nat.add_zero, Nat.add_zero]
  exact kk v M' hp p e s m args below meth c F hb hz H1 locs1 la hw1 hs1 hl
theorem S_callS2i {idx : Nat} {ty : FieldType} {a1 a2 : Value} {rest : List Value} (hd : decode cc pc = .ok (.invokestatic idx, 3)) (hL : LkS y.cls idx y' cc' n' (some ty) 2) (hM : Ct l G b0 y' cc' n' (some ty) rm' lay lay M [a1, a2] Post') (h0 : rm'.cells = 0) (h00 : rm'.slots = 0) (hW : (rest.map fun v => v.category).sum ≤ 8) (hR : rm'.frames + 1 ≤ rm.frames ∧ 8 + (n' + 11) + rm'.locals ≤ rm.locals) (hC : cells + rm'.cells ≤ rm.cells ∧ slots + rm'.slots ≤ rm.slots) (hq : pc + 3 = q) (kk : ∀ (v : Int32) (M' : Mem), Post' v M' → S l G b0 y cc nL ret rm lay' Post mc ms cells slots lay q ls (.int v :: rest) M') : S l G b0 y cc nL ret rm lay' Post mc ms cells slots lay pc ls (a2 :: a1 :: rest) M := by
  subst hq
  intro p e s m args below meth c F hb hz H locs la hw hs hl
  refine W_size fun h9 => ?_
  refine go_int (va_runS (As := [a1, a2]) (rest := rest) ⟨F.1, F.2.1, F.2.2.2.1, F.2.2.2.2.1, F.2.2.2.2.2.1⟩ hM (va_cwS 2 F.2.2.2.2.2.1 hL.1 rfl rfl rfl hL.2 hR) ⟨Ct.blind, fun U hU hW2 => ⟨rfl, by rw [hU]; exact WD.ex hb hz hw hs.1 h9, by rw [hU]; exact hw, va_K.moved hW2.alike F.2.2.2.2.2.2.2.1, NW.warm hW2 F.2.2.2.2.2.2.2.2.1⟩⟩ rfl rfl hl.1 rfl (lv_room hW) hd hC) hs (fun v M' H1 locs1 hp hw1 hs1 => ?_)
  rw [h0, h00, Nat.add_zero, Nat.add_zero]
  exact kk v M' hp p e s m args below meth c F hb hz H1 locs1 la hw1 hs1 hl
theorem S_callS2v {idx : Nat} {a1 a2 : Value} {rest : List Value} (hd : decode cc pc = .ok (.invokestatic idx, 3)) (hL : LkS y.cls idx y' cc' n' none 2) (hM : Ct l G b0 y' cc' n' none rm' lay lay M [a1, a2] Post') (h0 : rm'.cells = 0) (h00 : rm'.slots = 0) (hW : (rest.map fun v => v.category).sum ≤ 8) (hR : rm'.frames + 1 ≤ rm.frames ∧ 8 + (n' + 11) + rm'.locals ≤ rm.locals) (hC : cells + rm'.cells ≤ rm.cells ∧ slots + rm'.slots ≤ rm.slots) (hq : pc + 3 = q) (kk : ∀ (v : Int32) (M' : Mem), Post' v M' → S l G b0 y cc nL ret rm lay' Post mc ms cells slots lay q ls rest M') : S l G b0 y cc nL ret rm lay' Post mc ms cells slots lay pc ls (a2 :: a1 :: rest) M := by
  subst hq
  intro p e s m args below meth c F hb hz H locs la hw hs hl
  refine W_size fun h9 => ?_
  refine go_void (va_runS (As := [a1, a2]) (rest := rest) ⟨F.1, F.2.1, F.2.2.2.1, F.2.2.2.2.1, F.2.2.2.2.2.1⟩ hM (va_cwS 2 F.2.2.2.2.2.1 hL.1 rfl rfl rfl hL.2 hR) ⟨Ct.blind, fun U hU hW2 => ⟨rfl, by rw [hU]; exact WD.ex hb hz hw hs.1 h9, by rw [hU]; exact hw, va_K.moved hW2.alike F.2.2.2.2.2.2.2.1, NW.warm hW2 F.2.2.2.2.2.2.2.2.1⟩⟩ rfl rfl hl.1 rfl (lv_room hW) hd hC) hs (fun v M' H1 locs1 hp hw1 hs1 => ?_)
  rw [h0, h00, Nat.add_zero, Nat.add_zero]
  exact kk v M' hp p e s m args below meth c F hb hz H1 locs1 la hw1 hs1 hl
theorem S_callS3i {idx : Nat} {ty : FieldType} {a1 a2 a3 : Value} {rest : List Value} (hd : decode cc pc = .ok (.invokestatic idx, 3)) (hL : LkS y.cls idx y' cc' n' (some ty) 3) (hM : Ct l G b0 y' cc' n' (some ty) rm' lay lay M [a1, a2, a3] Post') (h0 : rm'.cells = 0) (h00 : rm'.slots = 0) (hW : (rest.map fun v => v.category).sum ≤ 8) (hR : rm'.frames + 1 ≤ rm.frames ∧ 8 + (n' + 11) + rm'.locals ≤ rm.locals) (hC : cells + rm'.cells ≤ rm.cells ∧ slots + rm'.slots ≤ rm.slots) (hq : pc + 3 = q) (kk : ∀ (v : Int32) (M' : Mem), Post' v M' → S l G b0 y cc nL ret rm lay' Post mc ms cells slots lay q ls (.int v :: rest) M') : S l G b0 y cc nL ret rm lay' Post mc ms cells slots lay pc ls (a3 :: a2 :: a1 :: rest) M := by
  subst hq
  intro p e s m args below meth c F hb hz H locs la hw hs hl
  refine W_size fun h9 => ?_
  refine go_int (va_runS (As := [a1, a2, a3]) (rest := rest) ⟨F.1, F.2.1, F.2.2.2.1, F.2.2.2.2.1, F.2.2.2.2.2.1⟩ hM (va_cwS 3 F.2.2.2.2.2.1 hL.1 rfl rfl rfl hL.2 hR) ⟨Ct.blind, fun U hU hW2 => ⟨rfl, by rw [hU]; exact WD.ex hb hz hw hs.1 h9, by rw [hU]; exact hw, va_K.moved hW2.alike F.2.2.2.2.2.2.2.1, NW.warm hW2 F.2.2.2.2.2.2.2.2.1⟩⟩ rfl rfl hl.1 rfl (lv_room hW) hd hC) hs (fun v M' H1 locs1 hp hw1 hs1 => ?_)
  rw [h0, h00, Nat.add_zero, Nat.add_zero]
  exact kk v M' hp p e s m args below meth c F hb hz H1 locs1 la hw1 hs1 hl
theorem S_callS3v {idx : Nat} {a1 a2 a3 : Value} {rest : List Value} (hd : decode cc pc = .ok (.invokestatic idx, 3)) (hL : LkS y.cls idx y' cc' n' none 3) (hM : Ct l G b0 y' cc' n' none rm' lay lay M [a1, a2, a3] Post') (h0 : rm'.cells = 0) (h00 : rm'.slots = 0) (hW : (rest.map fun v => v.category).sum ≤ 8) (hR : rm'.frames + 1 ≤ rm.frames ∧ 8 + (n' + 11) + rm'.locals ≤ rm.locals) (hC : cells + rm'.cells ≤ rm.cells ∧ slots + rm'.slots ≤ rm.slots) (hq : pc + 3 = q) (kk : ∀ (v : Int32) (M' : Mem), Post' v M' → S l G b0 y cc nL ret rm lay' Post mc ms cells slots lay q ls rest M') : S l G b0 y cc nL ret rm lay' Post mc ms cells slots lay pc ls (a3 :: a2 :: a1 :: rest) M := by
  subst hq
  intro p e s m args below meth c F hb hz H locs la hw hs hl
  refine W_size fun h9 => ?_
  refine go_void (va_runS (As := [a1, a2, a3]) (rest := rest) ⟨F.1, F.2.1, F.2.2.2.1, F.2.2.2.2.1, F.2.2.2.2.2.1⟩ hM (va_cwS 3 F.2.2.2.2.2.1 hL.1 rfl rfl rfl hL.2 hR) ⟨Ct.blind, fun U hU hW2 => ⟨rfl, by rw [hU]; exact WD.ex hb hz hw hs.1 h9, by rw [hU]; exact hw, va_K.moved hW2.alike F.2.2.2.2.2.2.2.1, NW.warm hW2 F.2.2.2.2.2.2.2.2.1⟩⟩ rfl rfl hl.1 rfl (lv_room hW) hd hC) hs (fun v M' H1 locs1 hp hw1 hs1 => ?_)
  rw [h0, h00, Nat.add_zero, Nat.add_zero]
  exact kk v M' hp p e s m args below meth c F hb hz H1 locs1 la hw1 hs1 hl
theorem S_callS4i {idx : Nat} {ty : FieldType} {a1 a2 a3 a4 : Value} {rest : List Value} (hd : decode cc pc = .ok (.invokestatic idx, 3)) (hL : LkS y.cls idx y' cc' n' (some ty) 4) (hM : Ct l G b0 y' cc' n' (some ty) rm' lay lay M [a1, a2, a3, a4] Post') (h0 : rm'.cells = 0) (h00 : rm'.slots = 0) (hW : (rest.map fun v => v.category).sum ≤ 8) (hR : rm'.frames + 1 ≤ rm.frames ∧ 8 + (n' + 11) + rm'.locals ≤ rm.locals) (hC : cells + rm'.cells ≤ rm.cells ∧ slots + rm'.slots ≤ rm.slots) (hq : pc + 3 = q) (kk : ∀ (v : Int32) (M' : Mem), Post' v M' → S l G b0 y cc nL ret rm lay' Post mc ms cells slots lay q ls (.int v :: rest) M') : S l G b0 y cc nL ret rm lay' Post mc ms cells slots lay pc ls (a4 :: a3 :: a2 :: a1 :: rest) M := by
  subst hq
  intro p e s m args below meth c F hb hz H locs la hw hs hl
  refine W_size fun h9 => ?_
  refine go_int (va_runS (As := [a1, a2, a3, a4]) (rest := rest) ⟨F.1, F.2.1, F.2.2.2.1, F.2.2.2.2.1, F.2.2.2.2.2.1⟩ hM (va_cwS 4 F.2.2.2.2.2.1 hL.1 rfl rfl rfl hL.2 hR) ⟨Ct.blind, fun U hU hW2 => ⟨rfl, by rw [hU]; exact WD.ex hb hz hw hs.1 h9, by rw [hU]; exact hw, va_K.moved hW2.alike F.2.2.2.2.2.2.2.1, NW.warm hW2 F.2.2.2.2.2.2.2.2.1⟩⟩ rfl rfl hl.1 rfl (lv_room hW) hd hC) hs (fun v M' H1 locs1 hp hw1 hs1 => ?_)
  rw [h0, h00, Nat.add_zero, Nat.add_zero]
  exact kk v M' hp p e s m args below meth c F hb hz H1 locs1 la hw1 hs1 hl
theorem S_callS4v {idx : Nat} {a1 a2 a3 a4 : Value} {rest : List Value} (hd : decode cc pc = .ok (.invokestatic idx, 3)) (hL : LkS y.cls idx y' cc' n' none 4) (hM : Ct l G b0 y' cc' n' none rm' lay lay M [a1, a2, a3, a4] Post') (h0 : rm'.cells = 0) (h00 : rm'.slots = 0) (hW : (rest.map fun v => v.category).sum ≤ 8) (hR : rm'.frames + 1 ≤ rm.frames ∧ 8 + (n' + 11) + rm'.locals ≤ rm.locals) (hC : cells + rm'.cells ≤ rm.cells ∧ slots + rm'.slots ≤ rm.slots) (hq : pc + 3 = q) (kk : ∀ (v : Int32) (M' : Mem), Post' v M' → S l G b0 y cc nL ret rm lay' Post mc ms cells slots lay q ls rest M') : S l G b0 y cc nL ret rm lay' Post mc ms cells slots lay pc ls (a4 :: a3 :: a2 :: a1 :: rest) M := by
  subst hq
  intro p e s m args below meth c F hb hz H locs la hw hs hl
  refine W_size fun h9 => ?_
  refine go_void (va_runS (As := [a1, a2, a3, a4]) (rest := rest) ⟨F.1, F.2.1, F.2.2.2.1, F.2.2.2.2.1, F.2.2.2.2.2.1⟩ hM (va_cwS 4 F.2.2.2.2.2.1 hL.1 rfl rfl rfl hL.2 hR) ⟨Ct.blind, fun U hU hW2 => ⟨rfl, by rw [hU]; exact WD.ex hb hz hw hs.1 h9, by rw [hU]; exact hw, va_K.moved hW2.alike F.2.2.2.2.2.2.2.1, NW.warm hW2 F.2.2.2.2.2.2.2.2.1⟩⟩ rfl rfl hl.1 rfl (lv_room hW) hd hC) hs (fun v M' H1 locs1 hp hw1 hs1 => ?_)
  rw [h0, h00, Nat.add_zero, Nat.add_zero]
  exact kk v M' hp p e s m args below meth c F hb hz H1 locs1 la hw1 hs1 hl
theorem S_callSN1i {idx : Nat} {ty : FieldType} {a1 : Value} {rest : List Value} (hd : decode cc pc = .ok (.invokestatic idx, 3)) (hL : LkSN y.cls idx y' cc' n' (some ty) 1) (hM : Ct l G b0 y' cc' n' (some ty) rm' lay lay M [a1] Post') (h0 : rm'.cells = 0) (h00 : rm'.slots = 0) (hW : (rest.map fun v => v.category).sum ≤ 8) (hR : rm'.frames + 1 ≤ rm.frames ∧ 8 + (n' + 11) + rm'.locals ≤ rm.locals) (hC : cells + rm'.cells ≤ rm.cells ∧ slots + rm'.slots ≤ rm.slots) (hq : pc + 3 = q) (kk : ∀ (v : Int32) (M' : Mem), Post' v M' → S l G b0 y cc nL ret rm lay' Post mc ms cells slots lay q ls (.int v :: rest) M') : S l G b0 y cc nL ret rm lay' Post mc ms cells slots lay pc ls (a1 :: rest) M := by
  subst hq
  intro p e s m args below meth c F hb hz H locs la hw hs hl
  refine W_size fun h9 => ?_
  refine go_int (va_runSN (As := [a1]) (rest := rest) ⟨F.1, F.2.1, F.2.2.2.1, F.2.2.2.2.1, F.2.2.2.2.2.1⟩ hM ⟨va_cnB 1 F.2.2.2.2.2.1 hL.1.1 rfl rfl rfl (F.2.2.2.2.2.2.2.2.1 _ hL.1.2.1.choose_spec rfl) (F.2.2.2.2.2.1 _ hL.1.2.2.1) hL.2 hR, F.2.2.2.2.2.1 _ hL.1.2.2.2, trivial⟩ ⟨Ct.blind, fun U hU hW2 => ⟨rfl, by rw [hU]; exact WD.ex hb hz hw hs.1 h9, by rw [hU]; exact hw, va_K.moved hW2.alike F.2.2.2.2.2.2.2.1, NW.warm hW2 F.2.2.2.2.2.2.2.2.1⟩⟩ rfl rfl hl.1 rfl (lv_room hW) hd hC) hs (fun v M' H1 locs1 hp hw1 hs1 => ?_)
  rw [h0, h00, Nat.add_zero, Nat.add_zero]
  exact kk v M' hp p e s m args below meth c F hb hz H1 locs1 la hw1 hs1 hl
theorem S_callSN1v {idx : Nat} {a1 : Value} {rest : List Value} (hd : decode cc pc = .ok (.invokestatic idx, 3)) (hL : LkSN y.cls idx y' cc' n' none 1) (hM : Ct l G b0 y' cc' n' none rm' lay lay M [a1] Post') (h0 : rm'.cells = 0) (h00 : rm'.slots = 0) (hW : (rest.map fun v => v.category).sum ≤ 8) (hR : rm'.frames + 1 ≤ rm.frames ∧ 8 + (n' + 11) + rm'.locals ≤ rm.locals) (hC : cells + rm'.cells ≤ rm.cells ∧ slots + rm'.slots ≤ rm.slots) (hq : pc + 3 = q) (kk : ∀ (v : Int32) (M' : Mem), Post' v M' → S l G b0 y cc nL ret rm lay' Post mc ms cells slots lay q ls rest M') : S l G b0 y cc nL ret rm lay' Post mc ms cells slots lay pc ls (a1 :: rest) M := by
  subst hq
  intro p e s m args below meth c F hb hz H locs la hw hs hl
  refine W_size fun h9 => ?_
  refine go_void (va_runSN (As := [a1]) (rest := rest) ⟨F.1, F.2.1, F.2.2.2.1, F.2.2.2.2.1, F.2.2.2.2.2.1⟩ hM ⟨va_cnB 1 F.2.2.2.2.2.1 hL.1.1 rfl rfl rfl (F.2.2.2.2.2.2.2.2.1 _ hL.1.2.1.choose_spec rfl) (F.2.2.2.2.2.1 _ hL.1.2.2.1) hL.2 hR, F.2.2.2.2.2.1 _ hL.1.2.2.2, trivial⟩ ⟨Ct.blind, fun U hU hW2 => ⟨rfl, by rw [hU]; exact WD.ex hb hz hw hs.1 h9, by rw [hU]; exact hw, va_K.moved hW2.alike F.2.2.2.2.2.2.2.1, NW.warm hW2 F.2.2.2.2.2.2.2.2.1⟩⟩ rfl rfl hl.1 rfl (lv_room hW) hd hC) hs (fun v M' H1 locs1 hp hw1 hs1 => ?_)
  rw [h0, h00, Nat.add_zero, Nat.add_zero]
  exact kk v M' hp p e s m args below meth c F hb hz H1 locs1 la hw1 hs1 hl
theorem S_callSN2i {idx : Nat} {ty : FieldType} {a1 a2 : Value} {rest : List Value} (hd : decode cc pc = .ok (.invokestatic idx, 3)) (hL : LkSN y.cls idx y' cc' n' (some ty) 2) (hM : Ct l G b0 y' cc' n' (some ty) rm' lay lay M [a1, a2] Post') (h0 : rm'.cells = 0) (h00 : rm'.slots = 0) (hW : (rest.map fun v => v.category).sum ≤ 8) (hR : rm'.frames + 1 ≤ rm.frames ∧ 8 + (n' + 11) + rm'.locals ≤ rm.locals) (hC : cells + rm'.cells ≤ rm.cells ∧ slots + rm'.slots ≤ rm.slots) (hq : pc + 3 = q) (kk : ∀ (v : Int32) (M' : Mem), Post' v M' → S l G b0 y cc nL ret rm lay' Post mc ms cells slots lay q ls (.int v :: rest) M') : S l G b0 y cc nL ret rm lay' Post mc ms cells slots lay pc ls (a2 :: a1 :: rest) M := by
  subst hq
  intro p e s m args below meth c F hb hz H locs la hw hs hl
  refine W_size fun h9 => ?_
  refine go_int (va_runSN (As := [a1, a2]) (rest := rest) ⟨F.1, F.2.1, F.2.2.2.1, F.2.2.2.2.1, F.2.2.2.2.2.1⟩ hM ⟨va_cnB 2 F.2.2.2.2.2.1 hL.1.1 rfl rfl rfl (F.2.2.2.2.2.2.2.2.1 _ hL.1.2.1.choose_spec rfl) (F.2.2.2.2.2.1 _ hL.1.2.2.1) hL.2 hR, F.2.2.2.2.2.1 _ hL.1.2.2.2, trivial⟩ ⟨Ct.blind, fun U hU hW2 => ⟨rfl, by rw [hU]; exact WD.ex hb hz hw hs.1 h9, by rw [hU]; exact hw, va_K.moved hW2.alike F.2.2.2.2.2.2.2.1, NW.warm hW2 F.2.2.2.2.2.2.2.2.1⟩⟩ rfl rfl hl.1 rfl (lv_room hW) hd hC) hs (fun v M' H1 locs1 hp hw1 hs1 => ?_)
  rw [h0, h00, Nat.add_zero, Nat.add_zero]
  exact kk v M' hp p e s m args below meth c F hb hz H1 locs1 la hw1 hs1 hl
theorem S_callSN2v {idx : Nat} {a1 a2 : Value} {rest : List Value} (hd : decode cc pc = .ok (.invokestatic idx, 3)) (hL : LkSN y.cls idx y' cc' n' none 2) (hM : Ct l G b0 y' cc' n' none rm' lay lay M [a1, a2] Post') (h0 : rm'.cells = 0) (h00 : rm'.slots = 0) (hW : (rest.map fun v => v.category).sum ≤ 8) (hR : rm'.frames + 1 ≤ rm.frames ∧ 8 + (n' + 11) + rm'.locals ≤ rm.locals) (hC : cells + rm'.cells ≤ rm.cells ∧ slots + rm'.slots ≤ rm.slots) (hq : pc + 3 = q) (kk : ∀ (v : Int32) (M' : Mem), Post' v M' → S l G b0 y cc nL ret rm lay' Post mc ms cells slots lay q ls rest M') : S l G b0 y cc nL ret rm lay' Post mc ms cells slots lay pc ls (a2 :: a1 :: rest) M := by
  subst hq
  intro p e s m args below meth c F hb hz H locs la hw hs hl
  refine W_size fun h9 => ?_
  refine go_void (va_runSN (As := [a1, a2]) (rest := rest) ⟨F.1, F.2.1, F.2.2.2.1, F.2.2.2.2.1, F.2.2.2.2.2.1⟩ hM ⟨va_cnB 2 F.2.2.2.2.2.1 hL.1.1 rfl rfl rfl (F.2.2.2.2.2.2.2.2.1 _ hL.1.2.1.choose_spec rfl) (F.2.2.2.2.2.1 _ hL.1.2.2.1) hL.2 hR, F.2.2.2.2.2.1 _ hL.1.2.2.2, trivial⟩ ⟨Ct.blind, fun U hU hW2 => ⟨rfl, by rw [hU]; exact WD.ex hb hz hw hs.1 h9, by rw [hU]; exact hw, va_K.moved hW2.alike F.2.2.2.2.2.2.2.1, NW.warm hW2 F.2.2.2.2.2.2.2.2.1⟩⟩ rfl rfl hl.1 rfl (lv_room hW) hd hC) hs (fun v M' H1 locs1 hp hw1 hs1 => ?_)
  rw [h0, h00, Nat.add_zero, Nat.add_zero]
  exact kk v M' hp p e s m args below meth c F hb hz H1 locs1 la hw1 hs1 hl
theorem S_callSN3i {idx : Nat} {ty : FieldType} {a1 a2 a3 : Value} {rest : List Value} (hd : decode cc pc = .ok (.invokestatic idx, 3)) (hL : LkSN y.cls idx y' cc' n' (some ty) 3) (hM : Ct l G b0 y' cc' n' (some ty) rm' lay lay M [a1, a2, a3] Post') (h0 : rm'.cells = 0) (h00 : rm'.slots = 0) (hW : (rest.map fun v => v.category).sum ≤ 8) (hR : rm'.frames + 1 ≤ rm.frames ∧ 8 + (n' + 11) + rm'.locals ≤ rm.locals) (hC : cells + rm'.cells ≤ rm.cells ∧ slots + rm'.slots ≤ rm.slots) (hq : pc + 3 = q) (kk : ∀ (v : Int32) (M' : Mem), Post' v M' → S l G b0 y cc nL ret rm lay' Post mc ms cells slots lay q ls (.int v :: rest) M') : S l G b0 y cc nL ret rm lay' Post mc ms cells slots lay pc ls (a3 :: a2 :: a1 :: rest) M := by
  subst hq
  intro p e s m args below meth c F hb hz H locs la hw hs hl
  refine W_size fun h9 => ?_
  refine go_int (va_runSN (As := [a1, a2, a3]) (rest := rest) ⟨F.1, F.2.1, F.2.2.2.1, F.2.2.2.2.1, F.2.2.2.2.2.1⟩ hM ⟨va_cnB 3 F.2.2.2.2.2.1 hL.1.1 rfl rfl rfl (F.2.2.2.2.2.2.2.2.1 _ hL.1.2.1.choose_spec rfl) (F.2.2.2.2.2.1 _ hL.1.2.2.1) hL.2 hR, F.2.2.2.2.2.1 _ hL.1.2.2.2, trivial⟩ ⟨Ct.blind, fun U hU hW2 => ⟨rfl, by rw [hU]; exact WD.ex hb hz hw hs.1 h9, by rw [hU]; exact hw, va_K.moved hW2.alike F.2.2.2.2.2.2.2.1, NW.warm hW2 F.2.2.2.2.2.2.2.2.1⟩⟩ rfl rfl hl.1 rfl (lv_room hW) hd hC) hs (fun v M' H1 locs1 hp hw1 hs1 => ?_)
  rw [h0, h00, Nat.add_zero, Nat.add_zero]
  exact kk v M' hp p e s m args below meth c F hb hz H1 locs1 la hw1 hs1 hl
theorem S_callSN3v {idx : Nat} {a1 a2 a3 : Value} {rest : List Value} (hd : decode cc pc = .ok (.invokestatic idx, 3)) (hL : LkSN y.cls idx y' cc' n' none 3) (hM : Ct l G b0 y' cc' n' none rm' lay lay M [a1, a2, a3] Post') (h0 : rm'.cells = 0) (h00 : rm'.slots = 0) (hW : (rest.map fun v => v.category).sum ≤ 8) (hR : rm'.frames + 1 ≤ rm.frames ∧ 8 + (n' + 11) + rm'.locals ≤ rm.locals) (hC : cells + rm'.cells ≤ rm.cells ∧ slots + rm'.slots ≤ rm.slots) (hq : pc + 3 = q) (kk : ∀ (v : Int32) (M' : Mem), Post' v M' → S l G b0 y cc nL ret rm lay' Post mc ms cells slots lay q ls rest M') : S l G b0 y cc nL ret rm lay' Post mc ms cells slots lay pc ls (a3 :: a2 :: a1 :: rest) M := by
  subst hq
  intro p e s m args below meth c F hb hz H locs la hw hs hl
  refine W_size fun h9 => ?_
  refine go_void (va_runSN (As := [a1, a2, a3]) (rest := rest) ⟨F.1, F.2.1, F.2.2.2.1, F.2.2.2.2.1, F.2.2.2.2.2.1⟩ hM ⟨va_cnB 3 F.2.2.2.2.2.1 hL.1.1 rfl rfl rfl (F.2.2.2.2.2.2.2.2.1 _ hL.1.2.1.choose_spec rfl) (F.2.2.2.2.2.1 _ hL.1.2.2.1) hL.2 hR, F.2.2.2.2.2.1 _ hL.1.2.2.2, trivial⟩ ⟨Ct.blind, fun U hU hW2 => ⟨rfl, by rw [hU]; exact WD.ex hb hz hw hs.1 h9, by rw [hU]; exact hw, va_K.moved hW2.alike F.2.2.2.2.2.2.2.1, NW.warm hW2 F.2.2.2.2.2.2.2.2.1⟩⟩ rfl rfl hl.1 rfl (lv_room hW) hd hC) hs (fun v M' H1 locs1 hp hw1 hs1 => ?_)
  rw [h0, h00, Nat.add_zero, Nat.add_zero]
  exact kk v M' hp p e s m args below meth c F hb hz H1 locs1 la hw1 hs1 hl
theorem S_callSN4i {idx : Nat} {ty : FieldType} {a1 a2 a3 a4 : Value} {rest : List Value} (hd : decode cc pc = .ok (.invokestatic idx, 3)) (hL : LkSN y.cls idx y' cc' n' (some ty) 4) (hM : Ct l G b0 y' cc' n' (some ty) rm' lay lay M [a1, a2, a3, a4] Post') (h0 : rm'.cells = 0) (h00 : rm'.slots = 0) (hW : (rest.map fun v => v.category).sum ≤ 8) (hR : rm'.frames + 1 ≤ rm.frames ∧ 8 + (n' + 11) + rm'.locals ≤ rm.locals) (hC : cells + rm'.cells ≤ rm.cells ∧ slots + rm'.slots ≤ rm.slots) (hq : pc + 3 = q) (kk : ∀ (v : Int32) (M' : Mem), Post' v M' → S l G b0 y cc nL ret rm lay' Post mc ms cells slots lay q ls (.int v :: rest) M') : S l G b0 y cc nL ret rm lay' Post mc ms cells slots lay pc ls (a4 :: a3 :: a2 :: a1 :: rest) M := by
  subst hq
  intro p e s m args below meth c F hb hz H locs la hw hs hl
  refine W_size fun h9 => ?_
  refine go_int (va_runSN (As := [a1, a2, a3, a4]) (rest := rest) ⟨F.1, F.2.1, F.2.2.2.1, F.2.2.2.2.1, F.2.2.2.2.2.1⟩ hM ⟨va_cnB 4 F.2.2.2.2.2.1 hL.1.1 rfl rfl rfl (F.2.2.2.2.2.2.2.2.1 _ hL.1.2.1.choose_spec rfl) (F.2.2.2.2.2.1 _ hL.1.2.2.1) hL.2 hR, F.2.2.2.2.2.1 _ hL.1.2.2.2, trivial⟩ ⟨Ct.blind, fun U hU hW2 => ⟨rfl, by rw [hU]; exact WD.ex hb hz hw hs.1 h9, by rw [hU]; exact hw, va_K.moved hW2.alike F.2.2.2.2.2.2.2.1, NW.warm hW2 F.2.2.2.2.2.2.2.2.1⟩⟩ rfl rfl hl.1 rfl (lv_room hW) hd hC) hs (fun v M' H1 locs1 hp hw1 hs1 => ?_)
  rw [h0, h00, Nat.add_zero, Nat.add_zero]
  exact kk v M' hp p e s m args below meth c F hb hz H1 locs1 la hw1 hs1 hl
theorem S_callSN4v {idx : Nat} {a1 a2 a3 a4 : Value} {rest : List Value} (hd : decode cc pc = .ok (.invokestatic idx, 3)) (hL : LkSN y.cls idx y' cc' n' none 4) (hM : Ct l G b0 y' cc' n' none rm' lay lay M [a1, a2, a3, a4] Post') (h0 : rm'.cells = 0) (h00 : rm'.slots = 0) (hW : (rest.map fun v => v.category).sum ≤ 8) (hR : rm'.frames + 1 ≤ rm.frames ∧ 8 + (n' + 11) + rm'.locals ≤ rm.locals) (hC : cells + rm'.cells ≤ rm.cells ∧ slots + rm'.slots ≤ rm.slots) (hq : pc + 3 = q) (kk : ∀ (v : Int32) (M' : Mem), Post' v M' → S l G b0 y cc nL ret rm lay' Post mc ms cells slots lay q ls rest M') : S l G b0 y cc nL ret rm lay' Post mc ms cells slots lay pc ls (a4 :: a3 :: a2 :: a1 :: rest) M := by
  subst hq
  intro p e s m args below meth c F hb hz H locs la hw hs hl
  refine W_size fun h9 => ?_
  refine go_void (va_runSN (As := [a1, a2, a3, a4]) (rest := rest) ⟨F.1, F.2.1, F.2.2.2.1, F.2.2.2.2.1, F.2.2.2.2.2.1⟩ hM ⟨va_cnB 4 F.2.2.2.2.2.1 hL.1.1 rfl rfl rfl (F.2.2.2.2.2.2.2.2.1 _ hL.1.2.1.choose_spec rfl) (F.2.2.2.2.2.1 _ hL.1.2.2.1) hL.2 hR, F.2.2.2.2.2.1 _ hL.1.2.2.2, trivial⟩ ⟨Ct.blind, fun U hU hW2 => ⟨rfl, by rw [hU]; exact WD.ex hb hz hw hs.1 h9, by rw [hU]; exact hw, va_K.moved hW2.alike F.2.2.2.2.2.2.2.1, NW.warm hW2 F.2.2.2.2.2.2.2.2.1⟩⟩ rfl rfl hl.1 rfl (lv_room hW) hd hC) hs (fun v M' H1 locs1 hp hw1 hs1 => ?_)
  rw [h0, h00, Nat.add_zero, Nat.add_zero]
  exact kk v M' hp p e s m args below meth c F hb hz H1 locs1 la hw1 hs1 hl
end CALLS
end
