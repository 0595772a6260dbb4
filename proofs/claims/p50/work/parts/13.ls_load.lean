set_option maxHeartbeats 4000000 in
set_option maxRecDepth 100000 in
theorem k_X3_startsOf {l : Launch} {G : Gd} {b0 : Nat} {lay : Lay} {M : Mem} {L P : Nat} (hL1 : 1 ≤ L) (hL8 : L ≤ 8) (hP : P < 2 ^ 31) : Ct l G b0 yX3_startsOf cX3_startsOf 4 (some .int) (rmZ 0 0) lay lay M [.int (nI L), .int (nI P)] (fun v M' => M' = M ∧ v = nI (ft P (L - 1))) := by
  have hf : ∀ o, ft P o < 2 ^ 31 := fun o => Nat.lt_of_le_of_lt (ft_le P o) hP
  refine Ct.of [some (.int (nI L)), some (.int (nI P)), none, none] (by decide) (Nat.le_of_ble_eq_true rfl) rfl rfl ?_
  refine S_iload_1 (q := 1) dX3_startsOf_0 rfl ?_
  refine S_istore_2 (q := 2) dX3_startsOf_1 rfl ?_
  refine S_iconst (q := 3) (nI 1) dX3_startsOf_2 (by decide) rfl ?_
  refine S_istore_3 (q := 4) dX3_startsOf_3 rfl ?_
  suffices H : ∀ (d : Nat) (i : Nat), (L - 1) - i = d → i ≤ (L - 1) → S l G b0 yX3_startsOf cX3_startsOf 4 (some .int) (rmZ 0 0) lay (fun v M' => M' = M ∧ v = nI (ft P (L - 1))) 0 0 0 0 lay 4 [some (.int (nI L)), some (.int (nI P)), some (.int (nI (ft P (i)))), some (.int (nI (i + 1)))] [] M from H _ 0 rfl (by omega)
  intro d
  induction d with
  | zero =>
    intro i hd hi
    have e : i = (L - 1) := by omega
    subst e
    refine S_iload_3 (q := 5) dX3_startsOf_4 rfl ?_
    refine S_iload_0 (q := 6) dX3_startsOf_5 rfl ?_
    refine S_icmp_ge (t := 21) (q := 9) dX3_startsOf_6 (by decide) rfl (fun hb6 => ?_) (fun hb6 => ?_)
    · refine S_iload_2 (q := 22) dX3_startsOf_21 rfl ?_
      exact S_iret rfl dX3_startsOf_22 rfl rfl ⟨rfl, rfl⟩
    · exact absurd ((nI_leI (by omega) (by omega)).mpr (by omega)) hb6
  | succ d ih =>
    intro i hd hi
    have hlt : i < (L - 1) := by omega
    refine S_iload_3 (q := 5) dX3_startsOf_4 rfl ?_
    refine S_iload_0 (q := 6) dX3_startsOf_5 rfl ?_
    refine S_icmp_ge (t := 21) (q := 9) dX3_startsOf_6 (by decide) rfl (fun hb6 => ?_) (fun hb6 => ?_)
    · exact absurd hb6 (nI_ge (show i + 1 < L by omega) (by omega))
    · refine S_iload_2 (q := 10) dX3_startsOf_9 rfl ?_
      refine S_iload_1 (q := 11) dX3_startsOf_10 rfl ?_
      refine S_iload_3 (q := 12) dX3_startsOf_11 rfl ?_
      refine S_ishr (q := 13) dX3_startsOf_12 rfl ?_
      refine S_iand (q := 14) dX3_startsOf_13 rfl ?_
      rw [nI_shr hP (show i + 1 < 32 by omega), nI_and (Nat.lt_trans (hf i) (by decide)) (Nat.lt_of_le_of_lt (Nat.div_le_self _ _) (Nat.lt_trans hP (by decide)))]
      refine S_istore_2 (q := 15) dX3_startsOf_14 rfl ?_
      refine S_iinc_3 (q := 18) (nI (i + 1 + 1)) dX3_startsOf_15 (inc1 _) rfl ?_
      refine S_goto (t := 4) dX3_startsOf_18 (by decide) ?_
      exact ih (i + 1) (by omega) hlt
set_option maxHeartbeats 4000000 in
set_option maxRecDepth 100000 in
theorem k_X3_whiteWays {l : Launch} {G : Gd} {b0 : Nat} {lay : Lay} {M : Mem} {s j q P : Nat} (hs : isL lay s) (hpo : M (s + 5) 0 = nI P) (hP : P < 2 ^ 31) (hq : q < 8) (hj : j ≤ 8) : Ct l G b0 yX3_whiteWays cX3_whiteWays 4 (some .int) (rmZ 0 0) lay lay M [.ref (b0 + s), .int (nI j), .int (nI q)] (fun v M' => M' = M ∧ v = if P.testBit q then M (s + 8) (j * 9 + q + 1) else nI 0) := by
  obtain ⟨hs0, hs1, hs2, hs3, hs4, hs5, hs6, hs7, hs8⟩ := id hs
  refine Ct.of [some (.ref (b0 + s)), some (.int (nI j)), some (.int (nI q)), none] (by decide) (Nat.le_of_ble_eq_true rfl) rfl rfl ?_
  refine S_aload_0 (q := 1) dX3_whiteWays_0 rfl ?_
  refine S_getR (q := 4) dX3_whiteWays_1 fl_X3_31 (by first | assumption | rfl) (by rfl) rfl ?_
  refine S_iconst (q := 5) (nI 0) dX3_whiteWays_4 (by decide) rfl ?_
  refine S_ialdE (i := 0) (q := 6) dX3_whiteWays_5 (by first | assumption | rfl) (by first | rfl | (simp only [nI_add, pk_mul, nI_1]; done)) (by decide) (by decide) rfl ?_
  refine S_iload_2 (q := 7) dX3_whiteWays_6 rfl ?_
  refine S_ishr (q := 8) dX3_whiteWays_7 rfl ?_
  refine S_iconst (q := 9) (nI 1) dX3_whiteWays_8 (by decide) rfl ?_
  refine S_iand (q := 10) dX3_whiteWays_9 rfl ?_
  rw [hpo, tb_if hP (show q < 32 by omega)]
  refine S_if_eq (t := 17) (q := 13) dX3_whiteWays_10 (by decide) rfl (fun hb10 => ?_) (fun hb10 => ?_)
  · have hb10 : ¬ P.testBit q = true := fun h => by rw [if_pos h] at hb10; exact absurd hb10 (by decide)
    refine S_iconst (q := 18) (nI 0) dX3_whiteWays_17 (by decide) rfl ?_
    refine S_istore_3 (q := 19) dX3_whiteWays_18 rfl ?_
    refine S_iload_3 (q := 20) dX3_whiteWays_19 rfl ?_
    refine S_if_eq (t := 39) (q := 23) dX3_whiteWays_20 (by decide) rfl (fun hb20 => ?_) (fun hb20 => ?_)
    · refine S_iconst (q := 40) (nI 0) dX3_whiteWays_39 (by decide) rfl ?_
      exact S_iret rfl dX3_whiteWays_40 rfl rfl ⟨rfl, (if_neg hb10).symm⟩
    · exact absurd rfl hb20
  · have hb10 : P.testBit q = true := by
      by_cases h : P.testBit q = true
      · exact h
      · rw [if_neg h] at hb10; exact absurd rfl hb10
    refine S_iconst (q := 14) (nI 1) dX3_whiteWays_13 (by decide) rfl ?_
    refine S_goto (t := 18) dX3_whiteWays_14 (by decide) ?_
    refine S_istore_3 (q := 19) dX3_whiteWays_18 rfl ?_
    refine S_iload_3 (q := 20) dX3_whiteWays_19 rfl ?_
    refine S_if_eq (t := 39) (q := 23) dX3_whiteWays_20 (by decide) rfl (fun hb20 => ?_) (fun hb20 => ?_)
    · exact absurd hb20 (by decide)
    · refine S_aload_0 (q := 24) dX3_whiteWays_23 rfl ?_
      refine S_getR (q := 27) dX3_whiteWays_24 fl_X3_40 (by first | assumption | rfl) (by rfl) rfl ?_
      refine S_iload_1 (q := 28) dX3_whiteWays_27 rfl ?_
      refine S_bipush (q := 30) (nI 9) dX3_whiteWays_28 (by decide) rfl ?_
      refine S_imul (q := 31) dX3_whiteWays_30 rfl ?_
      refine S_iload_2 (q := 32) dX3_whiteWays_31 rfl ?_
      refine S_iadd (q := 33) dX3_whiteWays_32 rfl ?_
      refine S_iconst (q := 34) (nI 1) dX3_whiteWays_33 (by decide) rfl ?_
      refine S_iadd (q := 35) dX3_whiteWays_34 rfl ?_
      refine S_ialdE (i := j * 9 + q + 1) (q := 36) dX3_whiteWays_35 (by first | assumption | rfl) (by first | rfl | (simp only [nI_add, pk_mul, nI_1]; done)) (by omega) (by decide) rfl ?_
      refine S_goto (t := 40) dX3_whiteWays_36 (by decide) ?_
      exact S_iret rfl dX3_whiteWays_40 rfl rfl ⟨rfl, (if_pos hb10).symm⟩
set_option maxHeartbeats 4000000 in
set_option maxRecDepth 100000 in
theorem k_X3_runWays {l : Launch} {G : Gd} {b0 : Nat} {lay : Lay} {M : Mem} {s j q n R St sp : Nat} (hs : isL lay s) (hn : M s 0 = nI n) (hn8 : n ≤ 8) (hR : M s 1 = nI R) (hR8 : R ≤ 8) (hst : j < R → M (s + 4) j = nI St ∧ M (s + 3) j = nI sp) (hSt : St < 2 ^ 31) (hsp : j < R → St.testBit q = true → q + sp ≤ n) (hq : q < 8) (hj : j ≤ 8) : Ct l G b0 yX3_runWays cX3_runWays 4 (some .int) (rmZ 0 0) lay lay M [.ref (b0 + s), .int (nI j), .int (nI q)] (fun v M' => M' = M ∧ v = if j < R ∧ St.testBit q = true then M (s + 8) ((j + 1) * 9 + (q + sp)) else nI 0) := by
  obtain ⟨hs0, hs1, hs2, hs3, hs4, hs5, hs6, hs7, hs8⟩ := id hs
  refine Ct.of [some (.ref (b0 + s)), some (.int (nI j)), some (.int (nI q)), none] (by decide) (Nat.le_of_ble_eq_true rfl) rfl rfl ?_
  refine S_iload_1 (q := 1) dX3_runWays_0 rfl ?_
  refine S_aload_0 (q := 2) dX3_runWays_1 rfl ?_
  refine S_getI (q := 5) dX3_runWays_2 fl_X3_15 (by first | assumption | rfl) (by rfl) rfl ?_
  refine S_icmp_ge (t := 40) (q := 8) dX3_runWays_5 (by decide) rfl (fun hb5 => ?_) (fun hb5 => ?_)
  · have hb5 : ¬ j < R := by rw [hR] at hb5; exact Nat.not_lt.mpr ((nI_leI (by omega) (by omega)).mp hb5)
    refine S_iconst (q := 41) (nI 0) dX3_runWays_40 (by decide) rfl ?_
    refine S_istore_3 (q := 42) dX3_runWays_41 rfl ?_
    refine S_iload_3 (q := 43) dX3_runWays_42 rfl ?_
    refine S_if_eq (t := 69) (q := 46) dX3_runWays_43 (by decide) rfl (fun hb43 => ?_) (fun hb43 => ?_)
    · refine S_iconst (q := 70) (nI 0) dX3_runWays_69 (by decide) rfl ?_
      exact S_iret rfl dX3_runWays_70 rfl rfl (⟨rfl, (if_neg (fun h => hb5 h.1)).symm⟩)
    · exact absurd rfl hb43
  · have hb5 : j < R := by rw [hR] at hb5; exact Nat.lt_of_not_le (fun h => hb5 ((nI_leI (by omega) (by omega)).mpr h))
    refine S_iload_2 (q := 9) dX3_runWays_8 rfl ?_
    refine S_aload_0 (q := 10) dX3_runWays_9 rfl ?_
    refine S_getR (q := 13) dX3_runWays_10 fl_X3_25 (by first | assumption | rfl) (by rfl) rfl ?_
    refine S_iload_1 (q := 14) dX3_runWays_13 rfl ?_
    refine S_ialdE (i := j) (q := 15) dX3_runWays_14 (by first | assumption | rfl) (by first | (simp only [nI_add, pk_mul, nI_1]; done) | rfl) (by omega) (by decide) rfl ?_
    rw [(hst hb5).2]
    refine S_iadd (q := 16) dX3_runWays_15 rfl ?_
    rw [nI_add]
    refine S_aload_0 (q := 17) dX3_runWays_16 rfl ?_
    refine S_getI (q := 20) dX3_runWays_17 fl_X3_9 (by first | assumption | rfl) (by rfl) rfl ?_
    rw [hn]
    refine S_icmp_gt (t := 40) (q := 23) dX3_runWays_20 (by decide) rfl (fun hb20 => ?_) (fun hb20 => ?_)
    · have hb20 : ¬ St.testBit q = true := fun h => by
        have := hsp hb5 h
        have := (nI_ltI (show n < 2 ^ 31 by omega) (show q + sp < 2 ^ 31 by omega)).mp hb20
        omega
      refine S_iconst (q := 41) (nI 0) dX3_runWays_40 (by decide) rfl ?_
      refine S_istore_3 (q := 42) dX3_runWays_41 rfl ?_
      refine S_iload_3 (q := 43) dX3_runWays_42 rfl ?_
      refine S_if_eq (t := 69) (q := 46) dX3_runWays_43 (by decide) rfl (fun hb43 => ?_) (fun hb43 => ?_)
      · refine S_iconst (q := 70) (nI 0) dX3_runWays_69 (by decide) rfl ?_
        exact S_iret rfl dX3_runWays_70 rfl rfl (⟨rfl, (if_neg (fun h => hb20 h.2)).symm⟩)
      · exact absurd rfl hb43
    · refine S_aload_0 (q := 24) dX3_runWays_23 rfl ?_
      refine S_getR (q := 27) dX3_runWays_24 fl_X3_28 (by first | assumption | rfl) (by rfl) rfl ?_
      refine S_iload_1 (q := 28) dX3_runWays_27 rfl ?_
      refine S_ialdE (i := j) (q := 29) dX3_runWays_28 (by first | assumption | rfl) (by first | (simp only [nI_add, pk_mul, nI_1]; done) | rfl) (by omega) (by decide) rfl ?_
      refine S_iload_2 (q := 30) dX3_runWays_29 rfl ?_
      refine S_ishr (q := 31) dX3_runWays_30 rfl ?_
      refine S_iconst (q := 32) (nI 1) dX3_runWays_31 (by decide) rfl ?_
      refine S_iand (q := 33) dX3_runWays_32 rfl ?_
      rw [(hst hb5).1, tb_if hSt (show q < 32 by omega)]
      refine S_if_eq (t := 40) (q := 36) dX3_runWays_33 (by decide) rfl (fun hb33 => ?_) (fun hb33 => ?_)
      · have hb33 : ¬ St.testBit q = true := fun h => by rw [if_pos h] at hb33; exact absurd hb33 (by decide)
        refine S_iconst (q := 41) (nI 0) dX3_runWays_40 (by decide) rfl ?_
        refine S_istore_3 (q := 42) dX3_runWays_41 rfl ?_
        refine S_iload_3 (q := 43) dX3_runWays_42 rfl ?_
        refine S_if_eq (t := 69) (q := 46) dX3_runWays_43 (by decide) rfl (fun hb43 => ?_) (fun hb43 => ?_)
        · refine S_iconst (q := 70) (nI 0) dX3_runWays_69 (by decide) rfl ?_
          exact S_iret rfl dX3_runWays_70 rfl rfl (⟨rfl, (if_neg (fun h => hb33 h.2)).symm⟩)
        · exact absurd rfl hb43
      · have hb33 : St.testBit q = true := by
          by_cases h : St.testBit q = true
          · exact h
          · rw [if_neg h] at hb33; exact absurd rfl hb33
        refine S_iconst (q := 37) (nI 1) dX3_runWays_36 (by decide) rfl ?_
        refine S_goto (t := 41) dX3_runWays_37 (by decide) ?_
        refine S_istore_3 (q := 42) dX3_runWays_41 rfl ?_
        refine S_iload_3 (q := 43) dX3_runWays_42 rfl ?_
        refine S_if_eq (t := 69) (q := 46) dX3_runWays_43 (by decide) rfl (fun hb43 => ?_) (fun hb43 => ?_)
        · exact absurd hb43 (by decide)
        · refine S_aload_0 (q := 47) dX3_runWays_46 rfl ?_
          refine S_getR (q := 50) dX3_runWays_47 fl_X3_40 (by first | assumption | rfl) (by rfl) rfl ?_
          refine S_iload_1 (q := 51) dX3_runWays_50 rfl ?_
          refine S_iconst (q := 52) (nI 1) dX3_runWays_51 (by decide) rfl ?_
          refine S_iadd (q := 53) dX3_runWays_52 rfl ?_
          refine S_bipush (q := 55) (nI 9) dX3_runWays_53 (by decide) rfl ?_
          refine S_imul (q := 56) dX3_runWays_55 rfl ?_
          refine S_iload_2 (q := 57) dX3_runWays_56 rfl ?_
          refine S_iadd (q := 58) dX3_runWays_57 rfl ?_
          refine S_aload_0 (q := 59) dX3_runWays_58 rfl ?_
          refine S_getR (q := 62) dX3_runWays_59 fl_X3_25 (by first | assumption | rfl) (by rfl) rfl ?_
          refine S_iload_1 (q := 63) dX3_runWays_62 rfl ?_
          refine S_ialdE (i := j) (q := 64) dX3_runWays_63 (by first | assumption | rfl) (by first | (simp only [nI_add, pk_mul, nI_1]; done) | rfl) (by omega) (by decide) rfl ?_
          rw [(hst hb5).2]
          refine S_iadd (q := 65) dX3_runWays_64 rfl ?_
          refine S_ialdE (i := (j + 1) * 9 + (q + sp)) (q := 66) dX3_runWays_65 (by first | assumption | rfl) (by rw [show (nI j + nI 1 : Int32) = nI (j + 1) from nI_1 j, pk_mul, nI_add, nI_add, Nat.add_assoc]) (by have := hsp hb5 hb33; omega) (by decide) rfl ?_
          refine S_goto (t := 70) dX3_runWays_66 (by decide) ?_
          exact S_iret rfl dX3_runWays_70 rfl rfl (⟨rfl, (if_pos ⟨hb5, hb33⟩).symm⟩)
set_option maxHeartbeats 4000000 in
set_option maxRecDepth 100000 in
theorem k_X3_total {l : Launch} {G : Gd} {b0 : Nat} {lay : Lay} {M : Mem} {s : Nat} (hs : isL lay s)  : Ct l G b0 yX3_total cX3_total 1 (some .int) (rmZ 0 0) lay lay M [.ref (b0 + s)] (fun v M' => M' = M ∧ v = M (s + 8) 0) := by
  obtain ⟨hs0, hs1, hs2, hs3, hs4, hs5, hs6, hs7, hs8⟩ := id hs
  refine Ct.of [some (.ref (b0 + s))] (by decide) (Nat.le_of_ble_eq_true rfl) rfl rfl ?_
  refine S_aload_0 (q := 1) dX3_total_0 rfl ?_
  refine S_getR (q := 4) dX3_total_1 fl_X3_40 (by first | assumption | rfl) (by rfl) rfl ?_
  refine S_iconst (q := 5) (nI 0) dX3_total_4 (by decide) rfl ?_
  refine S_ialdE (i := 0) (q := 6) dX3_total_5 (by first | assumption | rfl) (by first | rfl | (simp only [nI_add, pk_mul, nI_1]; done)) (by decide) (by decide) rfl ?_
  exact S_iret rfl dX3_total_6 rfl rfl ⟨rfl, rfl⟩
