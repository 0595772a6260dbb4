theorem lnT_skip {P : Pz} {f : Nat → Nat} {i p : Nat} (h : kpL P f i p = f (lnCell P.r P.c i p)) (hc1 : 1 ≤ P.c) : lnT P f i (p + 1) = lnT P f i p := by
  funext x
  show (if x = lnCell P.r P.c i p then kpL P f i p else lnT P f i p x) = _
  by_cases e : x = lnCell P.r P.c i p
  · rw [if_pos e, e, lnT_out p (fun q hq z => by have := lnCell_inj hc1 z; omega), h]
  · rw [if_neg e]
theorem tch_skip {P : Pz} {f : Nat → Nat} {i p : Nat} (h : kpL P f i p = f (lnCell P.r P.c i p)) : tch P f i (p + 1) = tch P f i p := by
  show tch P f i p ||| _ = _
  rw [if_neg (fun z => z h), Nat.or_zero]
theorem tch_add {P : Pz} {f : Nat → Nat} {i p : Nat} (h : ¬ kpL P f i p = f (lnCell P.r P.c i p)) : tch P f i (p + 1) = tch P f i p ||| 2 ^ crs P i p := by
  show tch P f i p ||| _ = _
  rw [if_pos h]
theorem kp_sn {P : Pz} {f sn : Nat → Nat} {i q : Nat} (hq : q < lnLen P.r P.c i) (h : ∀ k q, (sn k).testBit q = true ↔ q < lnLen P.r P.c i ∧ SNP (lnLen P.r P.c i) (P.R i) (P.len i) (P.col i) (fun q => f (lnCell P.r P.c i q)) k q) : bm (fun k => (sn k).testBit q) 4 = kpL P f i q := by
  apply Nat.eq_of_testBit_eq
  intro k
  apply Bool.eq_iff_iff.mpr
  rw [kpL_tb, bm_tb, Bool.and_eq_true, decide_eq_true_eq, h]
  exact ⟨fun z => ⟨z.1, z.2.2⟩, fun z => ⟨z.1, hq, z.2⟩⟩
set_option maxHeartbeats 4000000 in
set_option maxRecDepth 100000 in
theorem k_X3_seenAt {l : Launch} {G : Gd} {b0 : Nat} {lay : Lay} {M : Mem} {s q : Nat} {sn : Nat → Nat} (hs : isL lay s) (hq : q < 8) (hsn : ∀ k, k < 4 → M (s + 6) k = nI (sn k)) (hsl : ∀ k, sn k < 2 ^ 9) : Ct l G b0 yX3_seenAt cX3_seenAt 4 (some .int) (rmZ 0 0) lay lay M [.ref (b0 + s), .int (nI q)] (fun v M' => M' = M ∧ v = nI (bm (fun k => (sn k).testBit q) (4))) := by
  obtain ⟨hs0, hs1, hs2, hs3, hs4, hs5, hs6, hs7, hs8⟩ := id hs
  refine Ct.of [some (.ref (b0 + s)), some (.int (nI q)), none, none] (by decide) (Nat.le_of_ble_eq_true rfl) rfl rfl ?_
  refine S_iconst (q := 1) (nI 0) dX3_seenAt_0 (by decide) rfl ?_
  refine S_istore_2 (q := 2) dX3_seenAt_1 rfl ?_
  refine S_iconst (q := 3) (nI 0) dX3_seenAt_2 (by decide) rfl ?_
  refine S_istore_3 (q := 4) dX3_seenAt_3 rfl ?_
  suffices H : ∀ (d : Nat) (i : Nat), 4 - i = d → i ≤ 4 → S l G b0 yX3_seenAt cX3_seenAt 4 (some .int) (rmZ 0 0) lay (fun v M' => M' = M ∧ v = nI (bm (fun k => (sn k).testBit q) (4))) 0 0 0 0 lay 4 [some (.ref (b0 + s)), some (.int (nI q)), some (.int (nI (bm (fun k => (sn k).testBit q) (i)))), some (.int (nI (i)))] [] M from H _ 0 rfl (by omega)
  intro d
  induction d with
  | zero =>
    intro i hd hi
    have e : 4 = i := by omega
    subst e
    refine S_iload_3 (q := 5) dX3_seenAt_4 rfl ?_
    refine S_iconst (q := 6) (nI 3) dX3_seenAt_5 (by decide) rfl ?_
    refine S_icmp_gt (t := 30) (q := 9) dX3_seenAt_6 (by decide) rfl (fun hb6 => ?_) (fun hb6 => ?_)
    · refine S_iload_2 (q := 31) dX3_seenAt_30 rfl ?_
      exact S_iret rfl dX3_seenAt_31 rfl rfl ⟨rfl, rfl⟩
    · exact absurd (by decide) hb6
  | succ d ih =>
    intro i hd hi
    have hlt : i < 4 := by omega
    refine S_iload_3 (q := 5) dX3_seenAt_4 rfl ?_
    refine S_iconst (q := 6) (nI 3) dX3_seenAt_5 (by decide) rfl ?_
    refine S_icmp_gt (t := 30) (q := 9) dX3_seenAt_6 (by decide) rfl (fun hb6 => ?_) (fun hb6 => ?_)
    · exact absurd hb6 (Int32.not_lt.mpr ((nI_leI (by omega) (by omega)).mpr (by omega)))
    · refine S_iload_2 (q := 10) dX3_seenAt_9 rfl ?_
      refine S_aload_0 (q := 11) dX3_seenAt_10 rfl ?_
      refine S_getR (q := 14) dX3_seenAt_11 fl_X3_34 (by first | assumption | rfl) (by rfl) rfl ?_
      refine S_iload_3 (q := 15) dX3_seenAt_14 rfl ?_
      refine S_ialdV (i := i) (val := nI (sn i)) (q := 16) dX3_seenAt_15 (by first | assumption | rfl) (by first | (simp only [nI_add, pk_mul, nI_1]; done) | rfl) (by omega) (by decide) (hsn i hlt) rfl ?_
      refine S_iload_1 (q := 17) dX3_seenAt_16 rfl ?_
      refine S_ishr (q := 18) dX3_seenAt_17 rfl ?_
      refine S_iconst (q := 19) (nI 1) dX3_seenAt_18 (by decide) rfl ?_
      refine S_iand (q := 20) dX3_seenAt_19 rfl ?_
      rw [tb_if (Nat.lt_trans (hsl i) (by decide)) (show q < 32 by omega)]
      refine S_iload_3 (q := 21) dX3_seenAt_20 rfl ?_
      refine S_ishl (q := 22) dX3_seenAt_21 rfl ?_
      rw [nI_shl (show i < 32 by omega) (by rw [ob]; exact Nat.lt_trans (ob_lt (show i < 4 by omega)) (by decide)), ob]
      refine S_ior (q := 23) dX3_seenAt_22 rfl ?_
      rw [nI_or (lt32 (bm_lt _ i) (by omega)) (Nat.lt_trans (ob_lt (show i < 4 by omega)) (by decide))]
      refine S_istore_2 (q := 24) dX3_seenAt_23 rfl ?_
      refine S_iinc_3 (q := 27) (nI (i + 1)) dX3_seenAt_24 (inc1 _) rfl ?_
      refine S_goto (t := 4) dX3_seenAt_27 (by decide) ?_
      exact ih (i + 1) (by omega) hlt
set_option maxHeartbeats 4000000 in
set_option maxRecDepth 100000 in
theorem k_X3_solve {l : Launch} {G : Gd} {b0 : Nat} {lay : Lay} {M : Mem} {s g i0 : Nat} {P : Pz} {f : Nat → Nat} (hs : isL lay s) (hg : isG lay g) (hP : P.ok) (hr : M g 0 = nI P.r) (hcl : M g 1 = nI P.c) (hi0 : i0 < P.r + P.c) (hsg : s + 9 ≤ g ∨ g + 6 ≤ s) (hce : CE M (g + 5) (P.r * P.c) f) (hu : CU M (g + 1) i0 (P.R i0) (P.len i0) (P.col i0))  : Ct l G b0 yX3_solve cX3_solve 6 (some .boolean) (rmZ 3 70) lay lay M [.ref (b0 + s), .ref (b0 + g), .int (nI i0)] (fun v M' => (∀ a, (a < s ∨ s + 9 ≤ a) → a ≠ g + 5 → M' a = M a) ∧ v = bI (wyL P f i0 ≠ 0) ∧ (wyL P f i0 = 0 → M' (g + 5) = M (g + 5)) ∧ (wyL P f i0 ≠ 0 → CE M' (g + 5) (P.r * P.c) (lnS P f i0) ∧ M' s 10 = nI (WT P f - WT P (lnS P f i0)) ∧ M' s 11 = nI (tch P f i0 (lnLen P.r P.c i0)))) := by
  have hr8 := hP.r8
  have hc8 := hP.c8
  have h64 := rc64 hr8 hc8
  have hgf : GF P f := fun x hx => (hce x hx).2
  have hl8 := lnLen_le (i := i0) hr8 hc8
  have hl1 := lnLen_1 (i := i0) hP.r1 hP.c1
  obtain ⟨hs0, hs1, hs2, hs3, hs4, hs5, hs6, hs7, hs8⟩ := id hs
  obtain ⟨hg0, ⟨hq0, hq1, hq2, hq3⟩, hg5⟩ := id hg
  refine Ct.of [some (.ref (b0 + s)), some (.ref (b0 + g)), some (.int (nI i0)), none, none, none] (by decide) (Nat.le_of_ble_eq_true rfl) rfl rfl ?_
  refine S_aload_0 (q := 1) dX3_solve_0 rfl ?_
  refine S_aload_1 (q := 2) dX3_solve_1 rfl ?_
  refine S_iload_2 (q := 3) dX3_solve_2 rfl ?_
  refine S_callV2v (q := 6) dX3_solve_3 lk_X3_107 (by first | assumption | rfl) rfl rfl (k_X3_load hs hg hr hcl hr8 hc8 hP.r1 hP.c1 hi0 hsg hce hu) rfl rfl (Nat.le_of_ble_eq_true rfl) ⟨Nat.le_of_ble_eq_true rfl, Nat.le_of_ble_eq_true rfl⟩ ⟨Nat.le_of_ble_eq_true rfl, Nat.le_of_ble_eq_true rfl⟩ rfl (fun v3 M3 hv3 => ?_)
  obtain ⟨h3a, h3b, h3c⟩ := hv3
  refine S_aload_0 (q := 7) dX3_solve_6 rfl ?_
  refine S_iconst (q := 8) (nI 0) dX3_solve_7 (by decide) rfl ?_
  refine S_putI (q := 11) dX3_solve_8 fp_X3_43 (by first | assumption | rfl) (by rfl) rfl (by rfl) rfl ?_
  refine S_aload_0 (q := 12) dX3_solve_11 rfl ?_
  refine S_iconst (q := 13) (nI 0) dX3_solve_12 (by decide) rfl ?_
  refine S_putI (q := 16) dX3_solve_13 fp_X3_46 (by first | assumption | rfl) (by rfl) rfl (by rfl) rfl ?_
  refine S_aload_0 (q := 17) dX3_solve_16 rfl ?_
  refine S_callV0i (q := 20) dX3_solve_17 lk_X3_110 (by first | assumption | rfl) rfl rfl (k_X3_total hs) rfl rfl (Nat.le_of_ble_eq_true rfl) ⟨Nat.le_of_ble_eq_true rfl, Nat.le_of_ble_eq_true rfl⟩ ⟨Nat.le_of_ble_eq_true rfl, Nat.le_of_ble_eq_true rfl⟩ rfl (fun v17 M17 hv17 => ?_)
  obtain ⟨rfl, rfl⟩ := hv17
  rw [up_n (show s + 8 ≠ s by omega), up_n (show s + 8 ≠ s by omega), show M3 (s + 8) 0 = nI (wyL P f i0) from h3b.2.2.2.2 0 (Nat.zero_le _) 0 (Nat.zero_le _)]
  have hw256 := wy_256 (col := P.col i0) (mk := lmk P f i0) (hP.h1 i0) hl8 (p := 0) (j := 0) (Nat.zero_le _)
  have hw31 : wyL P f i0 < 2 ^ 31 := Nat.lt_of_le_of_lt hw256 (by decide)
  refine S_if_ne (t := 25) (q := 23) dX3_solve_20 (by decide) rfl (fun hb20 => ?_) (fun hb20 => ?_)
  · have hw : wyL P f i0 ≠ 0 := fun h => hb20 (by rw [h]; rfl)
    refine S_aload_0 (q := 26) dX3_solve_25 rfl ?_
    refine S_callV0v (q := 29) dX3_solve_26 lk_X3_114 (by first | assumption | rfl) rfl rfl (k_X3_findSeen hs (n := lnLen P.r P.c i0) (R := P.R i0) (len := P.len i0) (col := P.col i0) (mk := lmk P f i0) ⟨by rw [up_eq, if_neg (by omega), up_eq, if_neg (by omega)]; exact h3b.1, by rw [up_eq, if_neg (by omega), up_eq, if_neg (by omega)]; exact h3b.2.1, fun j hj => by rw [up_n (by omega), up_n (by omega), up_n (by omega), up_n (by omega), up_n (by omega), up_n (by omega), up_n (by omega), up_n (by omega)]; exact h3b.2.2.1 j hj, fun k hk => by rw [up_n (by omega), up_n (by omega)]; exact h3b.2.2.2.1 k hk, fun j hj q hq => by rw [up_n (by omega), up_n (by omega)]; exact h3b.2.2.2.2 j hj q hq⟩ hl8 hu.2.1 (fun j hj => ⟨(hu.2.2 j hj).2.1, (hu.2.2 j hj).2.2.1, (hu.2.2 j hj).2.2.2.2.2⟩)) rfl rfl (Nat.le_of_ble_eq_true rfl) ⟨Nat.le_of_ble_eq_true rfl, Nat.le_of_ble_eq_true rfl⟩ ⟨Nat.le_of_ble_eq_true rfl, Nat.le_of_ble_eq_true rfl⟩ rfl (fun v26 M26 hv26 => ?_)
    obtain ⟨h26a, sn, h26b, h26c, h26d⟩ := hv26
    refine S_iconst (q := 30) (nI 0) dX3_solve_29 (by decide) rfl ?_
    refine S_istore_3 (q := 31) dX3_solve_30 rfl ?_
    suffices H : ∀ (d : Nat) (i : Nat) (M1 : Mem), lnLen P.r P.c i0 - i = d → i ≤ lnLen P.r P.c i0 → ((∀ a, (a < s ∨ s + 9 ≤ a) → a ≠ g + 5 → M1 a = M a) ∧ M1 s 0 = nI (lnLen P.r P.c i0) ∧ (∀ k, k < 4 → M1 (s + 6) k = nI (sn k)) ∧ CE M1 (g + 5) (P.r * P.c) (lnT P f i0 (i)) ∧ M1 s 10 = nI (WT P f - WT P (lnT P f i0 (i))) ∧ M1 s 11 = nI (tch P f i0 (i))) → S l G b0 yX3_solve cX3_solve 6 (some .boolean) (rmZ 3 70) lay (fun v M' => (∀ a, (a < s ∨ s + 9 ≤ a) → a ≠ g + 5 → M' a = M a) ∧ v = bI (wyL P f i0 ≠ 0) ∧ (wyL P f i0 = 0 → M' (g + 5) = M (g + 5)) ∧ (wyL P f i0 ≠ 0 → CE M' (g + 5) (P.r * P.c) (lnS P f i0) ∧ M' s 10 = nI (WT P f - WT P (lnS P f i0)) ∧ M' s 11 = nI (tch P f i0 (lnLen P.r P.c i0)))) 0 0 0 0 lay 31 [some (.ref (b0 + s)), some (.ref (b0 + g)), some (.int (nI i0)), some (.int (nI (i))), none, none] [] M1 from H _ 0 _ rfl (by omega) (by
    refine ⟨fun a ha hb => ?_, ?_, h26b, fun x hx => ?_, ?_, ?_⟩
    · rw [h26a a (by omega) (by omega), up_n (by omega), up_n (by omega)]; exact h3a a ha
    · rw [h26a s (by omega) (by omega), up_eq, if_neg (by omega), up_eq, if_neg (by omega)]; exact h3b.1
    · rw [h26a (g + 5) (by omega) (by omega), up_n (by omega), up_n (by omega), h3a (g + 5) (by omega)]; exact hce x hx
    · rw [h26a s (by omega) (by omega), up_eq, if_neg (by omega), up_s]
      show nI 0 = nI (WT P f - WT P f)
      rw [Nat.sub_self]
    · rw [h26a s (by omega) (by omega), up_s]; rfl)
    intro d
    induction d with
    | zero =>
      intro i M1 hd hi hI
      have e : lnLen P.r P.c i0 = i := by omega
      subst e
      refine S_iload_3 (q := 32) dX3_solve_31 rfl ?_
      refine S_aload_0 (q := 33) dX3_solve_32 rfl ?_
      refine S_getI (q := 36) dX3_solve_33 fl_X3_9 (by first | assumption | rfl) (by rfl) rfl ?_
      rw [hI.2.1]
      refine S_icmp_ge (t := 135) (q := 39) dX3_solve_36 (by decide) rfl (fun hb36 => ?_) (fun hb36 => ?_)
      · refine S_iconst (q := 136) (nI 1) dX3_solve_135 (by decide) rfl ?_
        exact S_iret rfl dX3_solve_136 (by rfl) rfl ⟨hI.1, (bI_t hw).symm, fun h => absurd h hw, fun _ => ⟨hI.2.2.2.1, hI.2.2.2.2.1, hI.2.2.2.2.2⟩⟩
      · exact absurd (Int32.le_refl _) hb36
    | succ d ih =>
      intro i M1 hd hi hI
      have hlt : i < lnLen P.r P.c i0 := by omega
      have hcl2 := lnCell_lt hi0 hlt
      have hgk := hgf _ hcl2
      have hkl : kpL P f i0 i < 16 := kpL_lt
      have hout : lnT P f i0 i (lnCell P.r P.c i0 i) = f (lnCell P.r P.c i0 i) := lnT_out i (fun q hq z => by have := lnCell_inj hP.c1 z; omega)
      have hpc := kpL_pc hP hgf hi0 hlt
      have hst := WT_step (f := f) hP.c1 hi0 hlt
      have hWT := WT_T hP hgf hi0 i (by omega)
      have hWT1 := WT_T hP hgf hi0 (i + 1) (by omega)
      have htl := tch_lt (f := f) (i := i0) hP i (by omega)
      refine S_iload_3 (q := 32) dX3_solve_31 rfl ?_
      refine S_aload_0 (q := 33) dX3_solve_32 rfl ?_
      refine S_getI (q := 36) dX3_solve_33 fl_X3_9 (by first | assumption | rfl) (by rfl) rfl ?_
      rw [hI.2.1]
      refine S_icmp_ge (t := 135) (q := 39) dX3_solve_36 (by decide) rfl (fun hb36 => ?_) (fun hb36 => ?_)
      · exact absurd hb36 (nI_ge hlt (by omega))
      · refine S_aload_1 (q := 40) dX3_solve_39 rfl ?_
        refine S_iload_2 (q := 41) dX3_solve_40 rfl ?_
        refine S_iload_3 (q := 42) dX3_solve_41 rfl ?_
        refine S_callV2i (q := 45) dX3_solve_42 lk_X3_84 (by first | assumption | rfl) rfl rfl (k_X1_lineCell hg (r := P.r) (c := P.c) (by rw [hI.1 g (by omega) (by omega)]; exact hr) (by rw [hI.1 g (by omega) (by omega)]; exact hcl) hr8 hc8 (show i0 < 16 by omega)) rfl rfl (Nat.le_of_ble_eq_true rfl) ⟨Nat.le_of_ble_eq_true rfl, Nat.le_of_ble_eq_true rfl⟩ ⟨Nat.le_of_ble_eq_true rfl, Nat.le_of_ble_eq_true rfl⟩ rfl (fun v42 M42 hv42 => ?_)
        obtain ⟨rfl, rfl⟩ := hv42
        refine S_istore_4 (q := 47) dX3_solve_45 rfl ?_
        refine S_aload_0 (q := 48) dX3_solve_47 rfl ?_
        refine S_iload_3 (q := 49) dX3_solve_48 rfl ?_
        refine S_callV1i (q := 52) dX3_solve_49 lk_X3_117 (by first | assumption | rfl) rfl rfl (k_X3_seenAt hs (show i < 8 by omega) hI.2.2.1 h26c) rfl rfl (Nat.le_of_ble_eq_true rfl) ⟨Nat.le_of_ble_eq_true rfl, Nat.le_of_ble_eq_true rfl⟩ ⟨Nat.le_of_ble_eq_true rfl, Nat.le_of_ble_eq_true rfl⟩ rfl (fun v49 M49 hv49 => ?_)
        obtain ⟨rfl, rfl⟩ := hv49
        rw [kp_sn hlt h26d]
        refine S_istore_5 (q := 54) dX3_solve_52 rfl ?_
        refine S_iload_5 (q := 56) dX3_solve_54 rfl ?_
        refine S_aload_1 (q := 57) dX3_solve_56 rfl ?_
        refine S_getR (q := 60) dX3_solve_57 fl_X3_81 (by first | assumption | rfl) (by rfl) rfl ?_
        refine S_iload_4 (q := 62) dX3_solve_60 rfl ?_
        refine S_ialdV (i := lnCell P.r P.c i0 i) (val := nI (f (lnCell P.r P.c i0 i))) (q := 63) dX3_solve_62 (by first | assumption | rfl) (by first | (simp only [nI_add, pk_mul, nI_1]; done) | rfl) (by omega) (by decide) (by rw [(hI.2.2.2.1 _ hcl2).1, hout]) rfl ?_
        refine S_icmp_eq (t := 129) (q := 66) dX3_solve_63 (by decide) rfl (fun hb63 => ?_) (fun hb63 => ?_)
        · have hk : kpL P f i0 i = f (lnCell P.r P.c i0 i) := nI_inj (by omega) (by omega) hb63
          refine S_iinc_3 (q := 132) (nI (i + 1)) dX3_solve_129 (inc1 _) rfl ?_
          refine S_goto (t := 31) dX3_solve_132 (by decide) ?_
          refine S_fgt4 (S_fgt5 ?_)
          exact ih (i + 1) _ (by omega) hlt (by rw [lnT_skip hk hP.c1, tch_skip hk]; exact hI)
        · have hk : ¬ kpL P f i0 i = f (lnCell P.r P.c i0 i) := fun h => hb63 (by rw [h])
          refine S_aload_0 (q := 67) dX3_solve_66 rfl ?_
          refine S_dup (q := 68) dX3_solve_67 rfl rfl ?_
          refine S_getI (q := 71) dX3_solve_68 fl_X3_43 (by first | assumption | rfl) (by rfl) rfl ?_
          rw [hI.2.2.2.2.1]
          refine S_aload_1 (q := 72) dX3_solve_71 rfl ?_
          refine S_getR (q := 75) dX3_solve_72 fl_X3_81 (by first | assumption | rfl) (by rfl) rfl ?_
          refine S_iload_4 (q := 77) dX3_solve_75 rfl ?_
          refine S_ialdV (i := lnCell P.r P.c i0 i) (val := nI (f (lnCell P.r P.c i0 i))) (q := 78) dX3_solve_77 (by first | assumption | rfl) (by first | (simp only [nI_add, pk_mul, nI_1]; done) | rfl) (by omega) (by decide) (by rw [(hI.2.2.2.1 _ hcl2).1, hout]) rfl ?_
          refine S_callS1i (q := 81) dX3_solve_78 lk_X3_120 (k_J6_bitCount_0f7a4 (hgf _ hcl2).2) rfl rfl (Nat.le_of_ble_eq_true rfl) ⟨Nat.le_of_ble_eq_true rfl, Nat.le_of_ble_eq_true rfl⟩ ⟨Nat.le_of_ble_eq_true rfl, Nat.le_of_ble_eq_true rfl⟩ rfl (fun v78 M78 hv78 => ?_)
          obtain ⟨rfl, rfl⟩ := hv78
          refine S_iload_5 (q := 83) dX3_solve_81 rfl ?_
          refine S_callS1i (q := 86) dX3_solve_83 lk_X3_120 (k_J6_bitCount_0f7a4 kpL_lt) rfl rfl (Nat.le_of_ble_eq_true rfl) ⟨Nat.le_of_ble_eq_true rfl, Nat.le_of_ble_eq_true rfl⟩ ⟨Nat.le_of_ble_eq_true rfl, Nat.le_of_ble_eq_true rfl⟩ rfl (fun v83 M83 hv83 => ?_)
          obtain ⟨rfl, rfl⟩ := hv83
          refine S_isub (q := 87) dX3_solve_86 rfl ?_
          refine S_iadd (q := 88) dX3_solve_87 rfl ?_
          rw [pk_sub hpc.1, nI_add, show WT P f - WT P (lnT P f i0 i) + (pc4 (f (lnCell P.r P.c i0 i)) - pc4 (kpL P f i0 i)) = WT P f - WT P (lnT P f i0 (i + 1)) by omega]
          refine S_putI (q := 91) dX3_solve_88 fp_X3_43 (by first | assumption | rfl) (by rfl) rfl (by rfl) rfl ?_
          refine S_aload_1 (q := 92) dX3_solve_91 rfl ?_
          refine S_getR (q := 95) dX3_solve_92 fl_X3_81 (by first | assumption | rfl) (by rfl) rfl ?_
          refine S_iload_4 (q := 97) dX3_solve_95 rfl ?_
          refine S_iload_5 (q := 99) dX3_solve_97 rfl ?_
          refine S_iastE (i := lnCell P.r P.c i0 i) (q := 100) dX3_solve_99 (by first | assumption | rfl) (by first | (simp only [nI_add, pk_mul, nI_1]; done) | rfl) (by omega) (by decide) rfl ?_
          refine S_aload_0 (q := 101) dX3_solve_100 rfl ?_
          refine S_dup (q := 102) dX3_solve_101 rfl rfl ?_
          refine S_getI (q := 105) dX3_solve_102 fl_X3_46 (by first | assumption | rfl) (by rfl) rfl ?_
          rw [up_n (show s ≠ g + 5 by omega), up_eq, if_neg (by omega), hI.2.2.2.2.2]
          refine S_iconst (q := 106) (nI 1) dX3_solve_105 (by decide) rfl ?_
          refine S_iload_2 (q := 107) dX3_solve_106 rfl ?_
          refine S_aload_1 (q := 108) dX3_solve_107 rfl ?_
          refine S_getI (q := 111) dX3_solve_108 fl_X3_125 (by first | assumption | rfl) (by rfl) rfl ?_
          rw [up_n (show g ≠ g + 5 by omega), up_n (show g ≠ s by omega), hI.1 g (by omega) (by omega), hr]
          refine S_icmp_ge (t := 123) (q := 114) dX3_solve_111 (by decide) rfl (fun hb111 => ?_) (fun hb111 => ?_)
          · have hcr : (2 : Nat) ^ i = 2 ^ crs P i0 i := by
              unfold crs
              rw [if_neg (Nat.not_lt.mpr ((nI_leI (by omega) (by omega)).mp hb111))]
            refine S_iload_3 (q := 124) dX3_solve_123 rfl ?_
            refine S_ishl (q := 125) dX3_solve_124 rfl ?_
            rw [nI_shl (show i < 32 by omega) (by rw [Nat.one_mul]; exact lt32 (p2_lt (show i < 9 by omega)) (by decide)), Nat.one_mul, hcr]
            refine S_ior (q := 126) dX3_solve_125 rfl ?_
            rw [nI_or (lt32 htl (by decide)) (p2_lt (by have := crs_lt (P := P) (i := i0) hlt; omega)), ← tch_add hk]
            refine S_putI (q := 129) dX3_solve_126 fp_X3_46 (by first | assumption | rfl) (by rfl) rfl (by rfl) rfl ?_
            refine S_iinc_3 (q := 132) (nI (i + 1)) dX3_solve_129 (inc1 _) rfl ?_
            refine S_goto (t := 31) dX3_solve_132 (by decide) ?_
            refine S_fgt4 (S_fgt5 ?_)
            refine ih (i + 1) _ (by omega) hlt ⟨fun a ha hb => ?_, ?_, fun k hk => ?_, fun x hx => ?_, ?_, ?_⟩
            · rw [up_n (by omega), up_n (by omega), up_n (by omega)]; exact hI.1 a ha hb
            · rw [up_eq, if_neg (by omega), up_n (by omega), up_eq, if_neg (by omega)]; exact hI.2.1
            · rw [up_n (by omega), up_n (by omega), up_n (by omega)]; exact hI.2.2.1 k hk
            · refine ⟨?_, lnT_gf hP hgf hi0 hw (i + 1) (by omega) x hx⟩
              rw [up_n (by omega), up_eq]
              by_cases e : x = lnCell P.r P.c i0 i
              · rw [if_pos ⟨rfl, e⟩]
                show _ = nI (if x = lnCell P.r P.c i0 i then kpL P f i0 i else lnT P f i0 i x)
                rw [if_pos e]
              · rw [if_neg (fun z => e z.2), up_n (by omega), (hI.2.2.2.1 x hx).1]
                show _ = nI (if x = lnCell P.r P.c i0 i then kpL P f i0 i else lnT P f i0 i x)
                rw [if_neg e]
            · rw [up_eq, if_neg (by omega), up_n (by omega), up_s]
            · rw [up_s]
          · have hcr : (2 : Nat) ^ (P.r + i) = 2 ^ crs P i0 i := by
              unfold crs
              rw [if_pos (Nat.lt_of_not_le (fun h => hb111 ((nI_leI (by omega) (by omega)).mpr h)))]
            refine S_aload_1 (q := 115) dX3_solve_114 rfl ?_
            refine S_getI (q := 118) dX3_solve_115 fl_X3_125 (by first | assumption | rfl) (by rfl) rfl ?_
            rw [up_n (show g ≠ g + 5 by omega), up_n (show g ≠ s by omega), hI.1 g (by omega) (by omega), hr]
            refine S_iload_3 (q := 119) dX3_solve_118 rfl ?_
            refine S_iadd (q := 120) dX3_solve_119 rfl ?_
            refine S_goto (t := 124) dX3_solve_120 (by decide) ?_
            rw [nI_add]
            refine S_ishl (q := 125) dX3_solve_124 rfl ?_
            rw [nI_shl (show P.r + i < 32 by omega) (by rw [Nat.one_mul]; exact p2_lt (by omega)), Nat.one_mul, hcr]
            refine S_ior (q := 126) dX3_solve_125 rfl ?_
            rw [nI_or (lt32 htl (by decide)) (p2_lt (by have := crs_lt (P := P) (i := i0) hlt; omega)), ← tch_add hk]
            refine S_putI (q := 129) dX3_solve_126 fp_X3_46 (by first | assumption | rfl) (by rfl) rfl (by rfl) rfl ?_
            refine S_iinc_3 (q := 132) (nI (i + 1)) dX3_solve_129 (inc1 _) rfl ?_
            refine S_goto (t := 31) dX3_solve_132 (by decide) ?_
            refine S_fgt4 (S_fgt5 ?_)
            refine ih (i + 1) _ (by omega) hlt ⟨fun a ha hb => ?_, ?_, fun k hk => ?_, fun x hx => ?_, ?_, ?_⟩
            · rw [up_n (by omega), up_n (by omega), up_n (by omega)]; exact hI.1 a ha hb
            · rw [up_eq, if_neg (by omega), up_n (by omega), up_eq, if_neg (by omega)]; exact hI.2.1
            · rw [up_n (by omega), up_n (by omega), up_n (by omega)]; exact hI.2.2.1 k hk
            · refine ⟨?_, lnT_gf hP hgf hi0 hw (i + 1) (by omega) x hx⟩
              rw [up_n (by omega), up_eq]
              by_cases e : x = lnCell P.r P.c i0 i
              · rw [if_pos ⟨rfl, e⟩]
                show _ = nI (if x = lnCell P.r P.c i0 i then kpL P f i0 i else lnT P f i0 i x)
                rw [if_pos e]
              · rw [if_neg (fun z => e z.2), up_n (by omega), (hI.2.2.2.1 x hx).1]
                show _ = nI (if x = lnCell P.r P.c i0 i then kpL P f i0 i else lnT P f i0 i x)
                rw [if_neg e]
            · rw [up_eq, if_neg (by omega), up_n (by omega), up_s]
            · rw [up_s]
  · have hw : wyL P f i0 = 0 := nI_inj (by omega) (by decide) hb20
    refine S_iconst (q := 24) (nI 0) dX3_solve_23 (by decide) rfl ?_
    exact S_iret rfl dX3_solve_24 (by rfl) rfl ⟨fun a ha hb => by rw [up_n (by omega), up_n (by omega)]; exact h3a a ha, (bI_f (fun h => h hw)).symm, fun _ => by rw [up_n (by omega), up_n (by omega)]; exact h3a _ (by omega), fun h => absurd hw h⟩
