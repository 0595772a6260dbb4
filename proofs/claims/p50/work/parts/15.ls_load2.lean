theorem ob {b : Bool} {e : Nat} : (if b = true then 1 else 0) * 2 ^ e = if b = true then 2 ^ e else 0 := by split <;> simp
theorem ob_lt {b : Bool} {e n : Nat} (he : e < n) : (if b = true then 2 ^ e else 0) < 2 ^ n := by
  split
  · exact Nat.pow_lt_pow_right (by decide) he
  · exact Nat.two_pow_pos _
theorem lt31 {a n : Nat} (h : a < 2 ^ n) (hn : n ≤ 31) : a < 2 ^ 31 := Nat.lt_of_lt_of_le h (Nat.pow_le_pow_right (by decide) hn)
theorem lt32 {a n : Nat} (h : a < 2 ^ n) (hn : n ≤ 32) : a < 2 ^ 32 := Nat.lt_of_lt_of_le h (Nat.pow_le_pow_right (by decide) hn)
theorem ft_lt31 {P o : Nat} (h : P < 2 ^ 31) : ft P o < 2 ^ 31 := Nat.lt_of_le_of_lt (ft_le P o) h
set_option maxHeartbeats 4000000 in
set_option maxRecDepth 100000 in
theorem q_loadCand {l : Launch} {G : Gd} {b0 : Nat} {lay : Lay} {M : Mem} {Post : PT} {s g i0 q m : Nat} {Q : Nat → Nat} (hs : isL lay s) (hq : q < 8) (hm : m < 16) (hQ : ∀ k, k < 4 → M (s + 5) k = nI (Q k)) (hQl : ∀ k, k < 4 → Q k < 2 ^ q)
    (K : ∀ M2 : Mem, (∀ a, a ≠ s + 5 → M2 a = M a) → (∀ k, k < 4 → M2 (s + 5) k = nI (Q k ||| (if m.testBit k = true then 2 ^ q else 0))) → S l G b0 yX3_loadCandidates cX3_loadCandidates 6 none (rmZ 1 23) lay Post 0 0 0 0 lay 65 [some (.ref (b0 + s)), some (.ref (b0 + g)), some (.int (nI i0)), some (.int (nI (q))), some (.int (nI (m))), some (.int (nI (4)))] [] M2) : S l G b0 yX3_loadCandidates cX3_loadCandidates 6 none (rmZ 1 23) lay Post 0 0 0 0 lay 34 [some (.ref (b0 + s)), some (.ref (b0 + g)), some (.int (nI i0)), some (.int (nI (q))), some (.int (nI (m))), some (.int (nI (0)))] [] M := by
  obtain ⟨hs0, hs1, hs2, hs3, hs4, hs5, hs6, hs7, hs8⟩ := id hs
  suffices H : ∀ (d : Nat) (i : Nat) (M1 : Mem), 4 - i = d → i ≤ 4 → ((∀ a, a ≠ s + 5 → M1 a = M a) ∧ ∀ k, k < 4 → M1 (s + 5) k = nI (if k < i then Q k ||| (if m.testBit k = true then 2 ^ q else 0) else Q k)) → S l G b0 yX3_loadCandidates cX3_loadCandidates 6 none (rmZ 1 23) lay Post 0 0 0 0 lay 34 [some (.ref (b0 + s)), some (.ref (b0 + g)), some (.int (nI i0)), some (.int (nI (q))), some (.int (nI (m))), some (.int (nI (i)))] [] M1 from H _ 0 _ rfl (by omega) ⟨fun _ _ => rfl, fun k hk => by rw [if_neg (Nat.not_lt_zero k)]; exact hQ k hk⟩
  intro d
  induction d with
  | zero =>
    intro i M1 hd hi hI
    have e : i = 4 := by omega
    subst e
    refine S_iload_5 (q := 36) dX3_loadCandidates_34 rfl ?_
    refine S_iconst (q := 37) (nI 3) dX3_loadCandidates_36 (by decide) rfl ?_
    refine S_icmp_gt (t := 65) (q := 40) dX3_loadCandidates_37 (by decide) rfl (fun hb37 => ?_) (fun hb37 => ?_)
    · exact K _ hI.1 (fun k hk => by rw [hI.2 k hk, if_pos hk])
    · exact absurd (show nI 3 < nI 4 by decide) hb37
  | succ d ih =>
    intro i M1 hd hi hI
    have hlt : i < 4 := by omega
    refine S_iload_5 (q := 36) dX3_loadCandidates_34 rfl ?_
    refine S_iconst (q := 37) (nI 3) dX3_loadCandidates_36 (by decide) rfl ?_
    refine S_icmp_gt (t := 65) (q := 40) dX3_loadCandidates_37 (by decide) rfl (fun hb37 => ?_) (fun hb37 => ?_)
    · exact absurd hb37 (nI_nlt (by omega) (by decide))
    · refine S_aload_0 (q := 41) dX3_loadCandidates_40 rfl ?_
      refine S_getR (q := 44) dX3_loadCandidates_41 fl_X3_31 (by first | assumption | rfl) (by rfl) rfl ?_
      refine S_iload_5 (q := 46) dX3_loadCandidates_44 rfl ?_
      refine S_dup2 (q := 47) dX3_loadCandidates_46 rfl rfl rfl ?_
      refine S_ialdV (i := i) (val := nI (Q i)) (q := 48) dX3_loadCandidates_47 (by first | assumption | rfl) (by first | rfl | (simp only [nI_add, pk_mul, nI_1]; done)) (by omega) (by decide) (by rw [hI.2 i hlt, if_neg (Nat.lt_irrefl i)]) rfl ?_
      refine S_iload_4 (q := 50) dX3_loadCandidates_48 rfl ?_
      refine S_iload_5 (q := 52) dX3_loadCandidates_50 rfl ?_
      refine S_ishr (q := 53) dX3_loadCandidates_52 rfl ?_
      refine S_iconst (q := 54) (nI 1) dX3_loadCandidates_53 (by decide) rfl ?_
      refine S_iand (q := 55) dX3_loadCandidates_54 rfl ?_
      rw [tb_if (by omega) (show i < 32 by omega)]
      refine S_iload_3 (q := 56) dX3_loadCandidates_55 rfl ?_
      refine S_ishl (q := 57) dX3_loadCandidates_56 rfl ?_
      rw [nI_shl (show q < 32 by omega) (by rw [ob]; exact lt32 (ob_lt hq) (by decide)), ob]
      refine S_ior (q := 58) dX3_loadCandidates_57 rfl ?_
      rw [nI_or (lt32 (hQl i hlt) (by omega)) (lt32 (ob_lt hq) (by decide))]
      refine S_iastE (i := i) (q := 59) dX3_loadCandidates_58 (by first | assumption | rfl) (by first | rfl | (simp only [nI_add, pk_mul, nI_1]; done)) (by omega) (by decide) rfl ?_
      refine S_iinc_5 (q := 62) (nI (i + 1)) dX3_loadCandidates_59 (inc1 _) rfl ?_
      refine S_goto (t := 34) dX3_loadCandidates_62 (by decide) ?_
      exact ih (i + 1) _ (by omega) hlt ⟨fun a ha => by rw [up_n ha]; exact hI.1 a ha, fun k hk => by
              rw [up_eq]
              by_cases e : k = i
              · subst e
                rw [if_pos ⟨rfl, rfl⟩, if_pos (Nat.lt_succ_self k)]
              · rw [if_neg (fun z => e z.2), hI.2 k hk]
                by_cases z : k < i
                · rw [if_pos z, if_pos (show k < i + 1 by omega)]
                · rw [if_neg z, if_neg (show ¬ k < i + 1 by omega)]⟩
set_option maxHeartbeats 4000000 in
set_option maxRecDepth 100000 in
theorem k_X3_loadCandidates {l : Launch} {G : Gd} {b0 : Nat} {lay : Lay} {M : Mem} {s g r c i0 : Nat} {f : Nat → Nat} (hs : isL lay s) (hg : isG lay g) (hr : M g 0 = nI r) (hcl : M g 1 = nI c) (hr8 : r ≤ 8) (hc8 : c ≤ 8) (hi0 : i0 < r + c) (hn : M s 0 = nI (lnLen r c i0)) (hsg : s + 9 ≤ g ∨ g + 6 ≤ s) (hce : CE M (g + 5) (r * c) f) : Ct l G b0 yX3_loadCandidates cX3_loadCandidates 6 none (rmZ 1 23) lay lay M [.ref (b0 + s), .ref (b0 + g), .int (nI i0)] (fun v M' => (∀ a, a ≠ s + 5 → M' a = M a) ∧ ∀ k, k < 4 → M' (s + 5) k = nI (pos (lnLen r c i0) (fun q => f (lnCell r c i0 q)) k)) := by
  have hl8 := lnLen_le (i := i0) hr8 hc8
  have h64 := rc64 hr8 hc8
  obtain ⟨hs0, hs1, hs2, hs3, hs4, hs5, hs6, hs7, hs8⟩ := id hs
  obtain ⟨hg0, ⟨hq0, hq1, hq2, hq3⟩, hg5⟩ := id hg
  refine Ct.of [some (.ref (b0 + s)), some (.ref (b0 + g)), some (.int (nI i0)), none, none, none] (by decide) (Nat.le_of_ble_eq_true rfl) rfl rfl ?_
  refine S_aload_0 (q := 1) dX3_loadCandidates_0 rfl ?_
  refine S_getR (q := 4) dX3_loadCandidates_1 fl_X3_31 (by first | assumption | rfl) (by rfl) rfl ?_
  refine S_iconst (q := 5) (nI 0) dX3_loadCandidates_4 (by decide) rfl ?_
  refine S_callS2v (q := 8) dX3_loadCandidates_5 lk_X3_75 (k_J7_fill_53178 hs5 (by decide)) rfl rfl (Nat.le_of_ble_eq_true rfl) ⟨Nat.le_of_ble_eq_true rfl, Nat.le_of_ble_eq_true rfl⟩ ⟨Nat.le_of_ble_eq_true rfl, Nat.le_of_ble_eq_true rfl⟩ rfl (fun v5 M5 hv5 => ?_)
  obtain ⟨hf1, hf2⟩ := hv5
  refine S_iconst (q := 9) (nI 0) dX3_loadCandidates_8 (by decide) rfl ?_
  refine S_istore_3 (q := 10) dX3_loadCandidates_9 rfl ?_
  suffices H : ∀ (d : Nat) (i : Nat) (M1 : Mem), (lnLen r c i0) - i = d → i ≤ (lnLen r c i0) → ((∀ a, a ≠ s + 5 → M1 a = M a) ∧ ∀ k, k < 4 → M1 (s + 5) k = nI (bm (fun q => (f (lnCell r c i0 q)).testBit k) (i))) → S l G b0 yX3_loadCandidates cX3_loadCandidates 6 none (rmZ 1 23) lay (fun v M' => (∀ a, a ≠ s + 5 → M' a = M a) ∧ ∀ k, k < 4 → M' (s + 5) k = nI (pos (lnLen r c i0) (fun q => f (lnCell r c i0 q)) k)) 0 0 0 0 lay 10 [some (.ref (b0 + s)), some (.ref (b0 + g)), some (.int (nI i0)), some (.int (nI (i))), none, none] [] M1 from H _ 0 _ rfl (by omega) ⟨hf1, fun k hk => hf2 k hk⟩
  intro d
  induction d with
  | zero =>
    intro i M1 hd hi hI
    have e : i = (lnLen r c i0) := by omega
    subst e
    refine S_iload_3 (q := 11) dX3_loadCandidates_10 rfl ?_
    refine S_aload_0 (q := 12) dX3_loadCandidates_11 rfl ?_
    refine S_getI (q := 15) dX3_loadCandidates_12 fl_X3_9 (by first | assumption | rfl) (by rfl) rfl ?_
    rw [hI.1 s (by omega), hn]
    refine S_icmp_ge (t := 71) (q := 18) dX3_loadCandidates_15 (by decide) rfl (fun hb15 => ?_) (fun hb15 => ?_)
    · exact S_ret (v := 0) rfl dX3_loadCandidates_71 rfl ⟨hI.1, fun k hk => hI.2 k hk⟩
    · exact absurd (Int32.le_refl _) hb15
  | succ d ih =>
    intro i M1 hd hi hI
    have hlt : i < (lnLen r c i0) := by omega
    have hcl2 := lnCell_lt hi0 hlt
    have hcl3 : lnCell r c i0 i < 64 := by omega
    refine S_iload_3 (q := 11) dX3_loadCandidates_10 rfl ?_
    refine S_aload_0 (q := 12) dX3_loadCandidates_11 rfl ?_
    refine S_getI (q := 15) dX3_loadCandidates_12 fl_X3_9 (by first | assumption | rfl) (by rfl) rfl ?_
    rw [hI.1 s (by omega), hn]
    refine S_icmp_ge (t := 71) (q := 18) dX3_loadCandidates_15 (by decide) rfl (fun hb15 => ?_) (fun hb15 => ?_)
    · exact absurd hb15 (nI_ge hlt (by omega))
    · refine S_aload_1 (q := 19) dX3_loadCandidates_18 rfl ?_
      refine S_getR (q := 22) dX3_loadCandidates_19 fl_X3_81 (by first | assumption | rfl) (by rfl) rfl ?_
      refine S_aload_1 (q := 23) dX3_loadCandidates_22 rfl ?_
      refine S_iload_2 (q := 24) dX3_loadCandidates_23 rfl ?_
      refine S_iload_3 (q := 25) dX3_loadCandidates_24 rfl ?_
      refine S_callV2i (q := 28) dX3_loadCandidates_25 lk_X3_84 (by first | assumption | rfl) rfl rfl (k_X1_lineCell hg (r := r) (c := c) (by rw [hI.1 g (by omega)]; exact hr) (by rw [hI.1 g (by omega)]; exact hcl) hr8 hc8 (show i0 < 16 by omega)) rfl rfl (Nat.le_of_ble_eq_true rfl) ⟨Nat.le_of_ble_eq_true rfl, Nat.le_of_ble_eq_true rfl⟩ ⟨Nat.le_of_ble_eq_true rfl, Nat.le_of_ble_eq_true rfl⟩ rfl (fun v25 M25 hv25 => ?_)
      obtain ⟨rfl, rfl⟩ := hv25
      refine S_ialdV (i := lnCell r c i0 i) (val := nI (f (lnCell r c i0 i))) (q := 29) dX3_loadCandidates_28 (by first | assumption | rfl) (by first | rfl | (simp only [nI_add, pk_mul, nI_1]; done)) (by omega) (by decide) (by rw [hI.1 (g + 5) (by omega)]; exact (hce _ hcl2).1) rfl ?_
      refine S_istore_4 (q := 31) dX3_loadCandidates_29 rfl ?_
      refine S_iconst (q := 32) (nI 0) dX3_loadCandidates_31 (by decide) rfl ?_
      refine S_istore_5 (q := 34) dX3_loadCandidates_32 rfl ?_
      refine q_loadCand hs (show i < 8 by omega) (hce _ hcl2).2.2 hI.2 (fun k hk => bm_lt _ _) (fun M2 h1 h2 => ?_)
      refine S_iinc_3 (q := 68) (nI (i + 1)) dX3_loadCandidates_65 (inc1 _) rfl ?_
      refine S_goto (t := 10) dX3_loadCandidates_68 (by decide) ?_
      refine S_fgt4 (S_fgt5 ?_)
      exact ih (i + 1) _ (by omega) hlt ⟨fun a ha => by rw [h1 a ha]; exact hI.1 a ha, fun k hk => h2 k hk⟩
/-- a clue: line i0 of the clues at c has R runs (len, col) -/
def CU (M : Mem) (c i0 R : Nat) (len col : Nat → Nat) : Prop := M (c + 1) i0 = nI R ∧ R ≤ 8 ∧ ∀ j, j < R → M (c + 2) (i0 * 8 + j) = nI (len j) ∧ 1 ≤ len j ∧ len j ≤ 8 ∧ M (c + 3) (i0 * 8 + j) = nI (col j) ∧ 1 ≤ col j ∧ col j ≤ 3
theorem CU.gap {M : Mem} {c i0 R : Nat} {len col : Nat → Nat} (h : CU M c i0 R len col) {j : Nat} (hj : j < R) : (j + 1 < R ∧ M (c + 3) (i0 * 8 + j) = M (c + 3) (i0 * 8 + j + 1)) ↔ gp R col j = true := by
  unfold gp
  rw [decide_eq_true_eq]
  constructor
  · rintro ⟨h1, h2⟩
    refine ⟨h1, ?_⟩
    have e1 := (h.2.2 j hj).2.2.2
    have e2 := (h.2.2 (j + 1) h1).2.2.2
    rw [e1.1, Nat.add_assoc, e2.1] at h2
    exact nI_inj (by omega) (by omega) h2
  · rintro ⟨h1, h2⟩
    refine ⟨h1, ?_⟩
    rw [(h.2.2 j hj).2.2.2.1, Nat.add_assoc, (h.2.2 (j + 1) h1).2.2.2.1, h2]
/-- what the line solver at s holds of a line's runs -/
def RUNS (M : Mem) (s n R : Nat) (len col mk : Nat → Nat) (t : Nat) : Prop := ∀ j, j < t → M (s + 1) j = nI (len j) ∧ M (s + 2) j = nI (col j) ∧ M (s + 3) j = nI (spn R len col j) ∧ M (s + 4) j = nI (stt n R len col mk j)
set_option maxHeartbeats 4000000 in
set_option maxRecDepth 100000 in
theorem k_X3_loadRuns {l : Launch} {G : Gd} {b0 : Nat} {lay : Lay} {M : Mem} {s c n R i0 : Nat} {len col mk : Nat → Nat} (hs : isL lay s) (hc : isC lay c) (hi0 : i0 < 16) (hn8 : n ≤ 8) (hR : M s 1 = nI R) (hsc : s + 9 ≤ c ∨ c + 4 ≤ s) (hu : CU M c i0 R len col) (hpo : ∀ k, k < 4 → M (s + 5) k = nI (pos n mk k)) : Ct l G b0 yX3_loadRuns cX3_loadRuns 5 none (rmZ 1 23) lay lay M [.ref (b0 + s), .ref (b0 + c), .int (nI i0)] (fun v M' => (∀ a, (a ≤ s ∨ s + 5 ≤ a) → M' a = M a) ∧ RUNS M' s n R len col mk R) := by
  obtain ⟨hs0, hs1, hs2, hs3, hs4, hs5, hs6, hs7, hs8⟩ := id hs
  obtain ⟨hc0, hc1, hc2, hc3⟩ := id hc
  have hR8 := hu.2.1
  have hpl : ∀ k, pos n mk k < 2 ^ 31 := fun k => lt31 (pos_lt k) (by omega)
  refine Ct.of [some (.ref (b0 + s)), some (.ref (b0 + c)), some (.int (nI i0)), none, none] (by decide) (Nat.le_of_ble_eq_true rfl) rfl rfl ?_
  refine S_iconst (q := 1) (nI 0) dX3_loadRuns_0 (by decide) rfl ?_
  refine S_istore_3 (q := 2) dX3_loadRuns_1 rfl ?_
  suffices H : ∀ (d : Nat) (i : Nat) (M1 : Mem), R - i = d → i ≤ R → ((∀ a, (a ≤ s ∨ s + 5 ≤ a) → M1 a = M a) ∧ RUNS M1 s n R len col mk (i)) → S l G b0 yX3_loadRuns cX3_loadRuns 5 none (rmZ 1 23) lay (fun v M' => (∀ a, (a ≤ s ∨ s + 5 ≤ a) → M' a = M a) ∧ RUNS M' s n R len col mk R) 0 0 0 0 lay 2 [some (.ref (b0 + s)), some (.ref (b0 + c)), some (.int (nI i0)), some (.int (nI (i))), none] [] M1 from H _ 0 _ rfl (by omega) ⟨fun _ _ => rfl, fun j hj => absurd hj (Nat.not_lt_zero j)⟩
  intro d
  induction d with
  | zero =>
    intro i M1 hd hi hI
    have e : i = R := by omega
    subst e
    refine S_iload_3 (q := 3) dX3_loadRuns_2 rfl ?_
    refine S_aload_0 (q := 4) dX3_loadRuns_3 rfl ?_
    refine S_getI (q := 7) dX3_loadRuns_4 fl_X3_15 (by first | assumption | rfl) (by rfl) rfl ?_
    rw [hI.1 s (by omega), hR]
    refine S_icmp_ge (t := 124) (q := 10) dX3_loadRuns_7 (by decide) rfl (fun hb7 => ?_) (fun hb7 => ?_)
    · exact S_ret (v := 0) rfl dX3_loadRuns_124 rfl hI
    · exact absurd (Int32.le_refl _) hb7
  | succ d ih =>
    intro i M1 hd hi hI
    have hlt : i < R := by omega
    have hu1 : CU M1 c i0 R len col := ⟨by rw [hI.1 (c + 1) (by omega)]; exact hu.1, hu.2.1, fun j hj => by rw [hI.1 (c + 2) (by omega), hI.1 (c + 3) (by omega)]; exact hu.2.2 j hj⟩
    refine S_iload_3 (q := 3) dX3_loadRuns_2 rfl ?_
    refine S_aload_0 (q := 4) dX3_loadRuns_3 rfl ?_
    refine S_getI (q := 7) dX3_loadRuns_4 fl_X3_15 (by first | assumption | rfl) (by rfl) rfl ?_
    rw [hI.1 s (by omega), hR]
    refine S_icmp_ge (t := 124) (q := 10) dX3_loadRuns_7 (by decide) rfl (fun hb7 => ?_) (fun hb7 => ?_)
    · exact absurd hb7 (nI_ge hlt (by omega))
    · refine S_aload_1 (q := 11) dX3_loadRuns_10 rfl ?_
      refine S_iload_2 (q := 12) dX3_loadRuns_11 rfl ?_
      refine S_iload_3 (q := 13) dX3_loadRuns_12 rfl ?_
      refine S_callV2i (q := 16) dX3_loadRuns_13 lk_X3_88 (by first | assumption | rfl) rfl rfl (k_X0_needsGapBehind hc hi0 (n := R) hu1.1 hR8 (show i < 8 by omega)) rfl rfl (Nat.le_of_ble_eq_true rfl) ⟨Nat.le_of_ble_eq_true rfl, Nat.le_of_ble_eq_true rfl⟩ ⟨Nat.le_of_ble_eq_true rfl, Nat.le_of_ble_eq_true rfl⟩ rfl (fun v13 M13 hv13 => ?_)
      obtain ⟨rfl, rfl⟩ := hv13
      rw [bI_c (hu1.gap hlt)]
      refine S_istore_4 (q := 18) dX3_loadRuns_16 rfl ?_
      refine S_aload_0 (q := 19) dX3_loadRuns_18 rfl ?_
      refine S_getR (q := 22) dX3_loadRuns_19 fl_X3_18 (by first | assumption | rfl) (by rfl) rfl ?_
      refine S_iload_3 (q := 23) dX3_loadRuns_22 rfl ?_
      refine S_aload_1 (q := 24) dX3_loadRuns_23 rfl ?_
      refine S_iload_2 (q := 25) dX3_loadRuns_24 rfl ?_
      refine S_iload_3 (q := 26) dX3_loadRuns_25 rfl ?_
      refine S_callV2i (q := 29) dX3_loadRuns_26 lk_X3_92 (by first | assumption | rfl) rfl rfl (k_X0_lengthOf hc (show i0 * 8 + i < 128 by omega)) rfl rfl (Nat.le_of_ble_eq_true rfl) ⟨Nat.le_of_ble_eq_true rfl, Nat.le_of_ble_eq_true rfl⟩ ⟨Nat.le_of_ble_eq_true rfl, Nat.le_of_ble_eq_true rfl⟩ rfl (fun v26 M26 hv26 => ?_)
      obtain ⟨rfl, rfl⟩ := hv26
      rw [(hu1.2.2 i hlt).1]
      refine S_iastE (i := i) (q := 30) dX3_loadRuns_29 (by first | assumption | rfl) (by first | rfl | (simp only [nI_add, pk_mul, nI_1]; done)) (by omega) (by decide) rfl ?_
      refine S_aload_0 (q := 31) dX3_loadRuns_30 rfl ?_
      refine S_getR (q := 34) dX3_loadRuns_31 fl_X3_22 (by first | assumption | rfl) (by rfl) rfl ?_
      refine S_iload_3 (q := 35) dX3_loadRuns_34 rfl ?_
      refine S_aload_1 (q := 36) dX3_loadRuns_35 rfl ?_
      refine S_iload_2 (q := 37) dX3_loadRuns_36 rfl ?_
      refine S_iload_3 (q := 38) dX3_loadRuns_37 rfl ?_
      refine S_callV2i (q := 41) dX3_loadRuns_38 lk_X3_95 (by first | assumption | rfl) rfl rfl (k_X0_colorOf hc (show i0 * 8 + i < 128 by omega)) rfl rfl (Nat.le_of_ble_eq_true rfl) ⟨Nat.le_of_ble_eq_true rfl, Nat.le_of_ble_eq_true rfl⟩ ⟨Nat.le_of_ble_eq_true rfl, Nat.le_of_ble_eq_true rfl⟩ rfl (fun v38 M38 hv38 => ?_)
      obtain ⟨rfl, rfl⟩ := hv38
      rw [up_n (show c + 3 ≠ s + 1 by omega), (hu1.2.2 i hlt).2.2.2.1]
      refine S_iastE (i := i) (q := 42) dX3_loadRuns_41 (by first | assumption | rfl) (by first | rfl | (simp only [nI_add, pk_mul, nI_1]; done)) (by omega) (by decide) rfl ?_
      refine S_aload_0 (q := 43) dX3_loadRuns_42 rfl ?_
      refine S_getR (q := 46) dX3_loadRuns_43 fl_X3_25 (by first | assumption | rfl) (by rfl) rfl ?_
      refine S_iload_3 (q := 47) dX3_loadRuns_46 rfl ?_
      refine S_aload_0 (q := 48) dX3_loadRuns_47 rfl ?_
      refine S_getR (q := 51) dX3_loadRuns_48 fl_X3_18 (by first | assumption | rfl) (by rfl) rfl ?_
      refine S_iload_3 (q := 52) dX3_loadRuns_51 rfl ?_
      refine S_ialdV (i := i) (val := nI (len i)) (q := 53) dX3_loadRuns_52 (by first | assumption | rfl) (by first | rfl | (simp only [nI_add, pk_mul, nI_1]; done)) (by omega) (by decide) (by simp only [up_eq]; simp) rfl ?_
      refine S_iload_4 (q := 55) dX3_loadRuns_53 rfl ?_
      refine S_if_eq (t := 62) (q := 58) dX3_loadRuns_55 (by decide) rfl (fun hb55 => ?_) (fun hb55 => ?_)
      · have hg : ¬ gp R col i = true := bI_0.mp hb55
        refine S_iconst (q := 63) (nI 0) dX3_loadRuns_62 (by decide) rfl ?_
        refine S_iadd (q := 64) dX3_loadRuns_63 rfl ?_
        refine S_iastE (i := i) (q := 65) dX3_loadRuns_64 (by first | assumption | rfl) (by first | rfl | (simp only [nI_add, pk_mul, nI_1]; done)) (by omega) (by decide) rfl ?_
        refine S_aload_0 (q := 66) dX3_loadRuns_65 rfl ?_
        refine S_getR (q := 69) dX3_loadRuns_66 fl_X3_28 (by first | assumption | rfl) (by rfl) rfl ?_
        refine S_iload_3 (q := 70) dX3_loadRuns_69 rfl ?_
        refine S_aload_0 (q := 71) dX3_loadRuns_70 rfl ?_
        refine S_getR (q := 74) dX3_loadRuns_71 fl_X3_18 (by first | assumption | rfl) (by rfl) rfl ?_
        refine S_iload_3 (q := 75) dX3_loadRuns_74 rfl ?_
        refine S_ialdV (i := i) (val := nI (len i)) (q := 76) dX3_loadRuns_75 (by first | assumption | rfl) (by first | rfl | (simp only [nI_add, pk_mul, nI_1]; done)) (by omega) (by decide) (by simp only [up_eq]; simp) rfl ?_
        refine S_aload_0 (q := 77) dX3_loadRuns_76 rfl ?_
        refine S_getR (q := 80) dX3_loadRuns_77 fl_X3_31 (by first | assumption | rfl) (by rfl) rfl ?_
        refine S_aload_0 (q := 81) dX3_loadRuns_80 rfl ?_
        refine S_getR (q := 84) dX3_loadRuns_81 fl_X3_22 (by first | assumption | rfl) (by rfl) rfl ?_
        refine S_iload_3 (q := 85) dX3_loadRuns_84 rfl ?_
        refine S_ialdV (i := i) (val := nI (col i)) (q := 86) dX3_loadRuns_85 (by first | assumption | rfl) (by first | rfl | (simp only [nI_add, pk_mul, nI_1]; done)) (by omega) (by decide) (by simp only [up_eq]; simp) rfl ?_
        refine S_ialdV (i := col i) (val := nI (pos n mk (col i))) (q := 87) dX3_loadRuns_86 (by first | assumption | rfl) (by first | rfl | (simp only [nI_add, pk_mul, nI_1]; done)) (by have := (hu.2.2 i hlt).2.2.2.2.2; omega) (by decide) (by rw [up_n (by omega), up_n (by omega), up_n (by omega), hI.1 (s + 5) (by omega)]; exact hpo _ (by have := (hu.2.2 i hlt).2.2.2.2.2; omega)) rfl ?_
        refine S_callS2i (q := 90) dX3_loadRuns_87 lk_X3_98 (k_X3_startsOf (hu.2.2 i hlt).2.1 (hu.2.2 i hlt).2.2.1 (hpl _)) rfl rfl (Nat.le_of_ble_eq_true rfl) ⟨Nat.le_of_ble_eq_true rfl, Nat.le_of_ble_eq_true rfl⟩ ⟨Nat.le_of_ble_eq_true rfl, Nat.le_of_ble_eq_true rfl⟩ rfl (fun v87 M87 hv87 => ?_)
        obtain ⟨rfl, rfl⟩ := hv87
        refine S_iastE (i := i) (q := 91) dX3_loadRuns_90 (by first | assumption | rfl) (by first | rfl | (simp only [nI_add, pk_mul, nI_1]; done)) (by omega) (by decide) rfl ?_
        refine S_iload_4 (q := 93) dX3_loadRuns_91 rfl ?_
        refine S_if_eq (t := 118) (q := 96) dX3_loadRuns_93 (by decide) rfl (fun hb93 => ?_) (fun hb93 => ?_)
        · refine S_iinc_3 (q := 121) (nI (i + 1)) dX3_loadRuns_118 (inc1 _) rfl ?_
          refine S_goto (t := 2) dX3_loadRuns_121 (by decide) ?_
          refine S_fgt4 ?_
          refine ih (i + 1) _ (by omega) hlt ⟨fun a ha => ?_, fun j hj => ?_⟩
          · iterate 5 (try rw [up_n (by omega)])
            exact hI.1 a ha
          · simp only [up_eq]
            by_cases e : j = i
            · subst e
              have hlen := (hu.2.2 j hlt).2.2.1
              simp [spn, stt, hg, nI_add, nI0, nI_shr (hpl 0) (show len j < 32 by omega), nI_and (lt32 (ft_lt31 (hpl (col j))) (by decide)) (lt32 (Nat.lt_of_le_of_lt (Nat.div_le_self _ _) (hpl 0)) (by decide))]
            · have h := hI.2 j (by omega)
              simp [e, h.1, h.2.1, h.2.2.1, h.2.2.2]
        · exact absurd (bI_n.mp hb93) hg
      · have hg : gp R col i = true := bI_n.mp hb55
        refine S_iconst (q := 59) (nI 1) dX3_loadRuns_58 (by decide) rfl ?_
        refine S_goto (t := 63) dX3_loadRuns_59 (by decide) ?_
        refine S_iadd (q := 64) dX3_loadRuns_63 rfl ?_
        refine S_iastE (i := i) (q := 65) dX3_loadRuns_64 (by first | assumption | rfl) (by first | rfl | (simp only [nI_add, pk_mul, nI_1]; done)) (by omega) (by decide) rfl ?_
        refine S_aload_0 (q := 66) dX3_loadRuns_65 rfl ?_
        refine S_getR (q := 69) dX3_loadRuns_66 fl_X3_28 (by first | assumption | rfl) (by rfl) rfl ?_
        refine S_iload_3 (q := 70) dX3_loadRuns_69 rfl ?_
        refine S_aload_0 (q := 71) dX3_loadRuns_70 rfl ?_
        refine S_getR (q := 74) dX3_loadRuns_71 fl_X3_18 (by first | assumption | rfl) (by rfl) rfl ?_
        refine S_iload_3 (q := 75) dX3_loadRuns_74 rfl ?_
        refine S_ialdV (i := i) (val := nI (len i)) (q := 76) dX3_loadRuns_75 (by first | assumption | rfl) (by first | rfl | (simp only [nI_add, pk_mul, nI_1]; done)) (by omega) (by decide) (by simp only [up_eq]; simp) rfl ?_
        refine S_aload_0 (q := 77) dX3_loadRuns_76 rfl ?_
        refine S_getR (q := 80) dX3_loadRuns_77 fl_X3_31 (by first | assumption | rfl) (by rfl) rfl ?_
        refine S_aload_0 (q := 81) dX3_loadRuns_80 rfl ?_
        refine S_getR (q := 84) dX3_loadRuns_81 fl_X3_22 (by first | assumption | rfl) (by rfl) rfl ?_
        refine S_iload_3 (q := 85) dX3_loadRuns_84 rfl ?_
        refine S_ialdV (i := i) (val := nI (col i)) (q := 86) dX3_loadRuns_85 (by first | assumption | rfl) (by first | rfl | (simp only [nI_add, pk_mul, nI_1]; done)) (by omega) (by decide) (by simp only [up_eq]; simp) rfl ?_
        refine S_ialdV (i := col i) (val := nI (pos n mk (col i))) (q := 87) dX3_loadRuns_86 (by first | assumption | rfl) (by first | rfl | (simp only [nI_add, pk_mul, nI_1]; done)) (by have := (hu.2.2 i hlt).2.2.2.2.2; omega) (by decide) (by rw [up_n (by omega), up_n (by omega), up_n (by omega), hI.1 (s + 5) (by omega)]; exact hpo _ (by have := (hu.2.2 i hlt).2.2.2.2.2; omega)) rfl ?_
        refine S_callS2i (q := 90) dX3_loadRuns_87 lk_X3_98 (k_X3_startsOf (hu.2.2 i hlt).2.1 (hu.2.2 i hlt).2.2.1 (hpl _)) rfl rfl (Nat.le_of_ble_eq_true rfl) ⟨Nat.le_of_ble_eq_true rfl, Nat.le_of_ble_eq_true rfl⟩ ⟨Nat.le_of_ble_eq_true rfl, Nat.le_of_ble_eq_true rfl⟩ rfl (fun v87 M87 hv87 => ?_)
        obtain ⟨rfl, rfl⟩ := hv87
        refine S_iastE (i := i) (q := 91) dX3_loadRuns_90 (by first | assumption | rfl) (by first | rfl | (simp only [nI_add, pk_mul, nI_1]; done)) (by omega) (by decide) rfl ?_
        refine S_iload_4 (q := 93) dX3_loadRuns_91 rfl ?_
        refine S_if_eq (t := 118) (q := 96) dX3_loadRuns_93 (by decide) rfl (fun hb93 => ?_) (fun hb93 => ?_)
        · exact absurd hg (bI_0.mp hb93)
        · refine S_aload_0 (q := 97) dX3_loadRuns_96 rfl ?_
          refine S_getR (q := 100) dX3_loadRuns_97 fl_X3_28 (by first | assumption | rfl) (by rfl) rfl ?_
          refine S_iload_3 (q := 101) dX3_loadRuns_100 rfl ?_
          refine S_dup2 (q := 102) dX3_loadRuns_101 rfl rfl rfl ?_
          refine S_ialdV (i := i) (val := nI (ft (pos n mk (col i)) (len i - 1))) (q := 103) dX3_loadRuns_102 (by first | assumption | rfl) (by first | rfl | (simp only [nI_add, pk_mul, nI_1]; done)) (by omega) (by decide) (by simp only [up_eq]; simp) rfl ?_
          refine S_aload_0 (q := 104) dX3_loadRuns_103 rfl ?_
          refine S_getR (q := 107) dX3_loadRuns_104 fl_X3_31 (by first | assumption | rfl) (by rfl) rfl ?_
          refine S_iconst (q := 108) (nI 0) dX3_loadRuns_107 (by decide) rfl ?_
          refine S_ialdV (i := 0) (val := nI (pos n mk 0)) (q := 109) dX3_loadRuns_108 (by first | assumption | rfl) (by first | rfl | (simp only [nI_add, pk_mul, nI_1]; done)) (by omega) (by decide) (by rw [up_n (by omega), up_n (by omega), up_n (by omega), up_n (by omega), hI.1 (s + 5) (by omega)]; exact hpo 0 (by omega)) rfl ?_
          refine S_aload_0 (q := 110) dX3_loadRuns_109 rfl ?_
          refine S_getR (q := 113) dX3_loadRuns_110 fl_X3_18 (by first | assumption | rfl) (by rfl) rfl ?_
          refine S_iload_3 (q := 114) dX3_loadRuns_113 rfl ?_
          refine S_ialdV (i := i) (val := nI (len i)) (q := 115) dX3_loadRuns_114 (by first | assumption | rfl) (by first | rfl | (simp only [nI_add, pk_mul, nI_1]; done)) (by omega) (by decide) (by simp only [up_eq]; simp) rfl ?_
          refine S_ishr (q := 116) dX3_loadRuns_115 rfl ?_
          refine S_iand (q := 117) dX3_loadRuns_116 rfl ?_
          refine S_iastE (i := i) (q := 118) dX3_loadRuns_117 (by first | assumption | rfl) (by first | rfl | (simp only [nI_add, pk_mul, nI_1]; done)) (by omega) (by decide) rfl ?_
          refine S_iinc_3 (q := 121) (nI (i + 1)) dX3_loadRuns_118 (inc1 _) rfl ?_
          refine S_goto (t := 2) dX3_loadRuns_121 (by decide) ?_
          refine S_fgt4 ?_
          refine ih (i + 1) _ (by omega) hlt ⟨fun a ha => ?_, fun j hj => ?_⟩
          · iterate 5 (try rw [up_n (by omega)])
            exact hI.1 a ha
          · simp only [up_eq]
            by_cases e : j = i
            · subst e
              have hlen := (hu.2.2 j hlt).2.2.1
              simp [spn, stt, hg, nI_add, nI0, nI_shr (hpl 0) (show len j < 32 by omega), nI_and (lt32 (ft_lt31 (hpl (col j))) (by decide)) (lt32 (Nat.lt_of_le_of_lt (Nat.div_le_self _ _) (hpl 0)) (by decide))]
            · have h := hI.2 j (by omega)
              simp [e, h.1, h.2.1, h.2.2.1, h.2.2.2]
