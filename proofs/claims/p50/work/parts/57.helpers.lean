/-! THE LAW'S OWN METHODS -/
theorem ush3 (x : Int32) : ∃ m, (x.toUInt32 >>> ((nI 3).toUInt32 &&& Int32.toUInt32 31)).toInt32 = nI m ∧ m < 2 ^ 29 := ⟨x.toBitVec.toNat / 8, i32_ext (by
  have h1 := pk_ushr x (nI 3) 3 (by decide)
  have h2 := x.toBitVec.isLt
  rw [h1, pk_tn (by omega)]), by
  have h2 := x.toBitVec.isLt
  omega⟩
set_option maxHeartbeats 4000000 in
set_option maxRecDepth 100000 in
theorem k_L_stirred {b L : Nat} {xs : Nat → Int32} {l : Launch} {G : Gd} {b0 : Nat} {lay : Lay} {M : Mem} (hL : L ≤ 2048) : CtX b L xs l G b0 yL_stirred cL_stirred 6 (some .int) (rmZ 0 0) lay lay M [.ref b] (fun v M' => M' = M) := by
  refine CtX.of [some (.ref b), none, none, none, none, none] (by decide) (Nat.le_of_ble_eq_true rfl) rfl rfl ?_
  refine L_aload_0 (q := 1) dL_stirred_0 rfl ?_
  refine L_slen (q := 2) dL_stirred_1 rfl ?_
  refine L_iconst (q := 3) (nI 5) dL_stirred_2 (by decide) rfl ?_
  refine L_iadd (q := 4) dL_stirred_3 rfl ?_
  refine L_istore_1 (q := 5) dL_stirred_4 rfl ?_
  refine L_aload_0 (q := 6) dL_stirred_5 rfl ?_
  refine L_astore_2 (q := 7) dL_stirred_6 rfl ?_
  refine L_aload_2 (q := 8) dL_stirred_7 rfl ?_
  refine L_slen (q := 9) dL_stirred_8 rfl ?_
  refine L_istore_3 (q := 10) dL_stirred_9 rfl ?_
  refine L_iconst (q := 11) (nI 0) dL_stirred_10 (by decide) rfl ?_
  refine L_istore_4 (q := 13) dL_stirred_11 rfl ?_
  suffices H : ∀ (d i : Nat) (h : Int32) (x5 : Option Value), L - i = d → i ≤ L → SL b L xs l G b0 yL_stirred cL_stirred 6 (some .int) (rmZ 0 0) (QC G b0 (some .int) lay (fun v M' => M' = M)) 0 0 0 0 lay 13 [some (.ref b), some (.int h), some (.ref b), some (.int (nI L)), some (.int (nI (i))), x5] [] M from H L 0 _ _ (Nat.sub_zero L) (Nat.zero_le L)
  intro d
  induction d with
  | zero =>
    intro i h x5 hd hi
    have e : L = i := by omega
    subst e
    refine L_iload_4 (q := 15) dL_stirred_13 rfl ?_
    refine L_iload_3 (q := 16) dL_stirred_15 rfl ?_
    refine L_icmp_ge (t := 39) (q := 19) dL_stirred_16 (by decide) rfl (fun hb16 => ?_) (fun hb16 => ?_)
    · refine L_iload_1 (q := 40) dL_stirred_39 rfl ?_
      refine L_iload_1 (q := 41) dL_stirred_40 rfl ?_
      refine L_bipush (q := 43) (nI 15) dL_stirred_41 (by decide) rfl ?_
      refine L_iushr (q := 44) dL_stirred_43 rfl ?_
      refine L_ixor (q := 45) dL_stirred_44 rfl ?_
      refine L_istore_1 (q := 46) dL_stirred_45 rfl ?_
      refine L_iload_1 (q := 47) dL_stirred_46 rfl ?_
      refine L_iconst (q := 48) (nI 3) dL_stirred_47 (by decide) rfl ?_
      refine L_iand (q := 49) dL_stirred_48 rfl ?_
      refine L_if_ne (t := 56) (q := 52) dL_stirred_49 (by decide) rfl (fun hb49 => ?_) (fun hb49 => ?_)
      · refine L_iload_1 (q := 57) dL_stirred_56 rfl ?_
        exact L_iret rfl dL_stirred_57 rfl rfl (rfl)
      · refine L_iconst (q := 53) (nI 0) dL_stirred_52 (by decide) rfl ?_
        refine L_goto (t := 57) dL_stirred_53 (by decide) ?_
        exact L_iret rfl dL_stirred_57 rfl rfl (rfl)
    · exact absurd (Int32.le_refl _) hb16
  | succ d ih =>
    intro i h x5 hd hi
    have hlt : i < L := by omega
    refine L_iload_4 (q := 15) dL_stirred_13 rfl ?_
    refine L_iload_3 (q := 16) dL_stirred_15 rfl ?_
    refine L_icmp_ge (t := 39) (q := 19) dL_stirred_16 (by decide) rfl (fun hb16 => ?_) (fun hb16 => ?_)
    · exact absurd hb16 (nI_ge hlt (by omega))
    · refine L_aload_2 (q := 20) dL_stirred_19 rfl ?_
      refine L_iload_4 (q := 22) dL_stirred_20 rfl ?_
      refine L_sld (i := i) (q := 23) dL_stirred_22 rfl hlt hL rfl ?_
      refine L_istore_5 (q := 25) dL_stirred_23 rfl ?_
      refine L_iload_1 (q := 26) dL_stirred_25 rfl ?_
      refine L_iload_5 (q := 28) dL_stirred_26 rfl ?_
      refine L_ixor (q := 29) dL_stirred_28 rfl ?_
      refine L_ldc (q := 31) _ dL_stirred_29 ko_L_7 rfl ?_
      refine L_imul (q := 32) dL_stirred_31 rfl ?_
      refine L_istore_1 (q := 33) dL_stirred_32 rfl ?_
      refine L_iinc_4 (q := 36) (nI (i + 1)) dL_stirred_33 (inc1 _) rfl ?_
      refine L_goto (t := 13) dL_stirred_36 (by decide) ?_
      exact ih (i + 1) _ _ (by omega) hlt
set_option maxHeartbeats 4000000 in
set_option maxRecDepth 100000 in
theorem k_L_cell {b L : Nat} {xs : Nat → Int32} {l : Launch} {G : Gd} {b0 : Nat} {lay : Lay} {M : Mem} {k : Nat} (hL : L ≤ 2048) (hk : k < 2 ^ 31) : CtX b L xs l G b0 yL_cell cL_cell 3 (some .int) (rmZ 1 25) lay lay M [.ref b, .int (nI k)] (fun v M' => M' = M) := by
  refine CtX.of [some (.ref b), some (.int (nI k)), none] (by decide) (Nat.le_of_ble_eq_true rfl) rfl rfl ?_
  refine L_aload_0 (q := 1) dL_cell_0 rfl ?_
  refine L_callX1i (q := 4) dL_cell_1 lk_L_8 (k_L_stirred hL) rfl rfl (Nat.le_of_ble_eq_true rfl) ⟨Nat.le_of_ble_eq_true rfl, Nat.le_of_ble_eq_true rfl⟩ ⟨Nat.le_of_ble_eq_true rfl, Nat.le_of_ble_eq_true rfl⟩ rfl (fun v1 M1 hv1 => ?_)
  subst hv1
  refine L_istore_2 (q := 5) dL_cell_4 rfl ?_
  refine L_iload_2 (q := 6) dL_cell_5 rfl ?_
  refine L_if_ne (t := 30) (q := 9) dL_cell_6 (by decide) rfl (fun hb6 => ?_) (fun hb6 => ?_)
  · refine L_iload_2 (q := 31) dL_cell_30 rfl ?_
    refine L_ldc (q := 33) _ dL_cell_31 ko_L_14 rfl ?_
    refine L_iload_1 (q := 34) dL_cell_33 rfl ?_
    refine L_imul (q := 35) dL_cell_34 rfl ?_
    refine L_ixor (q := 36) dL_cell_35 rfl ?_
    refine L_ldc (q := 38) _ dL_cell_36 ko_L_15 rfl ?_
    refine L_imul (q := 39) dL_cell_38 rfl ?_
    refine L_istore_2 (q := 40) dL_cell_39 rfl ?_
    refine L_iload_2 (q := 41) dL_cell_40 rfl ?_
    refine L_iload_2 (q := 42) dL_cell_41 rfl ?_
    refine L_bipush (q := 44) (nI 12) dL_cell_42 (by decide) rfl ?_
    refine L_iushr (q := 45) dL_cell_44 rfl ?_
    refine L_ixor (q := 46) dL_cell_45 rfl ?_
    refine L_ldc (q := 48) _ dL_cell_46 ko_L_16 rfl ?_
    refine L_imul (q := 49) dL_cell_48 rfl ?_
    refine L_istore_2 (q := 50) dL_cell_49 rfl ?_
    refine L_iload_2 (q := 51) dL_cell_50 rfl ?_
    refine L_iload_2 (q := 52) dL_cell_51 rfl ?_
    refine L_bipush (q := 54) (nI 15) dL_cell_52 (by decide) rfl ?_
    refine L_iushr (q := 55) dL_cell_54 rfl ?_
    refine L_ixor (q := 56) dL_cell_55 rfl ?_
    exact L_iret rfl dL_cell_56 rfl rfl (rfl)
  · refine L_iload_1 (q := 10) dL_cell_9 rfl ?_
    refine L_aload_0 (q := 11) dL_cell_10 rfl ?_
    refine L_slen (q := 12) dL_cell_11 rfl ?_
    refine L_icmp_ge (t := 21) (q := 15) dL_cell_12 (by decide) rfl (fun hb12 => ?_) (fun hb12 => ?_)
    · refine L_sipush (q := 24) (nI 5003) dL_cell_21 (by decide) rfl ?_
      refine L_iload_1 (q := 25) dL_cell_24 rfl ?_
      refine L_imul (q := 26) dL_cell_25 rfl ?_
      refine L_bipush (q := 28) (nI 29) dL_cell_26 (by decide) rfl ?_
      refine L_iadd (q := 29) dL_cell_28 rfl ?_
      exact L_iret rfl dL_cell_29 rfl rfl (rfl)
    · have hb12 : k < L := Nat.lt_of_not_le (fun z => hb12 (nI_le z (by omega)))
      refine L_aload_0 (q := 16) dL_cell_15 rfl ?_
      refine L_iload_1 (q := 17) dL_cell_16 rfl ?_
      refine L_sld (i := k) (q := 18) dL_cell_17 rfl hb12 hL rfl ?_
      refine L_goto (t := 29) dL_cell_18 (by decide) ?_
      exact L_iret rfl dL_cell_29 rfl rfl (rfl)
set_option maxHeartbeats 4000000 in
set_option maxRecDepth 100000 in
theorem k_L_some {b L : Nat} {xs : Nat → Int32} {l : Launch} {G : Gd} {b0 : Nat} {lay : Lay} {M : Mem} {k n : Nat} (hL : L ≤ 2048) (hk : k < 2 ^ 31) (hn1 : 0 < n) (hn : n < 2 ^ 31) : CtX b L xs l G b0 yL_some cL_some 3 (some .int) (rmZ 2 47) lay lay M [.ref b, .int (nI k), .int (nI n)] (fun v M' => M' = M ∧ ∃ j, j < n ∧ v = nI j) := by
  refine CtX.of [some (.ref b), some (.int (nI k)), some (.int (nI n))] (by decide) (Nat.le_of_ble_eq_true rfl) rfl rfl ?_
  refine L_aload_0 (q := 1) dL_some_0 rfl ?_
  refine L_iload_1 (q := 2) dL_some_1 rfl ?_
  refine L_callX2i (q := 5) dL_some_2 lk_L_17 (k_L_cell hL hk) rfl rfl (Nat.le_of_ble_eq_true rfl) ⟨Nat.le_of_ble_eq_true rfl, Nat.le_of_ble_eq_true rfl⟩ ⟨Nat.le_of_ble_eq_true rfl, Nat.le_of_ble_eq_true rfl⟩ rfl (fun v2 M2 hv2 => ?_)
  subst hv2
  refine L_iconst (q := 6) (nI 3) dL_some_5 (by decide) rfl ?_
  refine L_iushr (q := 7) dL_some_6 rfl ?_
  obtain ⟨m, em, hm⟩ := ush3 v2
  rw [em]
  refine L_iload_2 (q := 8) dL_some_7 rfl ?_
  refine L_irem (q := 9) dL_some_8 (nI_n0 (by omega) hn) rfl ?_
  rw [pk_rem (by omega) hn1 hn]
  exact L_iret rfl dL_some_9 rfl rfl (⟨rfl, _, Nat.mod_lt _ hn1, rfl⟩)
set_option maxHeartbeats 4000000 in
set_option maxRecDepth 100000 in
theorem k_L_draws {b L : Nat} {xs : Nat → Int32} {l : Launch} {G : Gd} {b0 : Nat} {Z : Lay} {M : Mem} {A : Ab} {z : Nat} (hL : L ≤ 2048) (hz : z ≤ 100) (hC : CR M A) (hk : A.ok) : CtX b L xs l G b0 yL_draws cL_draws 5 (some .boolean) (rmZ 5 116) (LYZ Z) (LYZ Z) M [.ref (b0 + 0), .ref b, .int (nI z)] (fun v M' => ∃ (u : Nat → Nat) (A' : Ab) (r c : Nat), v = nI 1 ∧ CR M' A' ∧ (∀ a, 140 ≤ a → M' a = M a) ∧ DRW A' u r c ∧ 1 ≤ r ∧ r ≤ 6 ∧ 1 ≤ c ∧ c ≤ 6) := by
  refine CtX.of [some (.ref (b0 + 0)), some (.ref b), some (.int (nI z)), none, none] (by decide) (Nat.le_of_ble_eq_true rfl) rfl rfl ?_
  refine L_iconst (q := 1) (nI 1) dL_draws_0 (by decide) rfl ?_
  refine L_aload_1 (q := 2) dL_draws_1 rfl ?_
  refine L_iload_2 (q := 3) dL_draws_2 rfl ?_
  refine L_bipush (q := 5) (nI 6) dL_draws_3 (by decide) rfl ?_
  refine L_callX3i (q := 8) dL_draws_5 lk_L_21 (k_L_some hL (show z < 2 ^ 31 by omega) (show 0 < 6 by decide) (show 6 < 2 ^ 31 by decide)) rfl rfl (Nat.le_of_ble_eq_true rfl) ⟨Nat.le_of_ble_eq_true rfl, Nat.le_of_ble_eq_true rfl⟩ ⟨Nat.le_of_ble_eq_true rfl, Nat.le_of_ble_eq_true rfl⟩ rfl (fun v5 M5 hv5 => ?_)
  obtain ⟨rfl, j5, hj5, rfl⟩ := hv5
  refine L_iadd (q := 9) dL_draws_8 rfl ?_
  rw [nI_add]
  refine L_istore_3 (q := 10) dL_draws_9 rfl ?_
  refine L_iconst (q := 11) (nI 1) dL_draws_10 (by decide) rfl ?_
  refine L_aload_1 (q := 12) dL_draws_11 rfl ?_
  refine L_iload_2 (q := 13) dL_draws_12 rfl ?_
  refine L_iconst (q := 14) (nI 1) dL_draws_13 (by decide) rfl ?_
  refine L_iadd (q := 15) dL_draws_14 rfl ?_
  rw [nI_add]
  refine L_bipush (q := 17) (nI 6) dL_draws_15 (by decide) rfl ?_
  refine L_callX3i (q := 20) dL_draws_17 lk_L_21 (k_L_some hL (show z + 1 < 2 ^ 31 by omega) (show 0 < 6 by decide) (show 6 < 2 ^ 31 by decide)) rfl rfl (Nat.le_of_ble_eq_true rfl) ⟨Nat.le_of_ble_eq_true rfl, Nat.le_of_ble_eq_true rfl⟩ ⟨Nat.le_of_ble_eq_true rfl, Nat.le_of_ble_eq_true rfl⟩ rfl (fun v17 M17 hv17 => ?_)
  obtain ⟨rfl, j17, hj17, rfl⟩ := hv17
  refine L_iadd (q := 21) dL_draws_20 rfl ?_
  rw [nI_add]
  refine L_istore_4 (q := 23) dL_draws_21 rfl ?_
  refine L_aload_0 (q := 24) dL_draws_23 rfl ?_
  refine L_iload_3 (q := 25) dL_draws_24 rfl ?_
  refine L_iload_4 (q := 27) dL_draws_25 rfl ?_
  refine L_iconst (q := 28) (nI 1) dL_draws_27 (by decide) rfl ?_
  refine L_aload_1 (q := 29) dL_draws_28 rfl ?_
  refine L_iload_2 (q := 30) dL_draws_29 rfl ?_
  refine L_iconst (q := 31) (nI 2) dL_draws_30 (by decide) rfl ?_
  refine L_iadd (q := 32) dL_draws_31 rfl ?_
  rw [nI_add]
  refine L_iconst (q := 33) (nI 3) dL_draws_32 (by decide) rfl ?_
  refine L_callX3i (q := 36) dL_draws_33 lk_L_21 (k_L_some hL (show z + 2 < 2 ^ 31 by omega) (show 0 < 3 by decide) (show 3 < 2 ^ 31 by decide)) rfl rfl (Nat.le_of_ble_eq_true rfl) ⟨Nat.le_of_ble_eq_true rfl, Nat.le_of_ble_eq_true rfl⟩ ⟨Nat.le_of_ble_eq_true rfl, Nat.le_of_ble_eq_true rfl⟩ rfl (fun v33 M33 hv33 => ?_)
  obtain ⟨rfl, j33, hj33, rfl⟩ := hv33
  refine L_iadd (q := 37) dL_draws_36 rfl ?_
  rw [nI_add]
  refine L_callV3i (q := 40) dL_draws_37 lk_L_25 (by first | assumption | rfl) rfl rfl (k_X9_reset hC hk) rfl rfl (Nat.le_of_ble_eq_true rfl) ⟨Nat.le_of_ble_eq_true rfl, Nat.le_of_ble_eq_true rfl⟩ ⟨Nat.le_of_ble_eq_true rfl, Nat.le_of_ble_eq_true rfl⟩ rfl (fun v37 M37 hv37 => ?_)
  obtain ⟨hC37, hf37, rfl⟩ := hv37
  have hk37 := ok_reset hk (nI (1 + j5)) (nI (1 + j17)) (nI (1 + j33))
  have hr37 := fun s : Int32 => draw_ok (s := s) hk (show 1 ≤ 1 + j5 ∧ 1 + j5 ≤ 8 by omega) (show 1 ≤ 1 + j17 ∧ 1 + j17 ≤ 8 by omega) (show 1 ≤ 1 + j33 ∧ 1 + j33 ≤ 3 by omega)
  rw [(hr37 0).1]
  refine L_iload_3 (q := 41) dL_draws_40 rfl ?_
  refine L_iload_4 (q := 43) dL_draws_41 rfl ?_
  refine L_iadd (q := 44) dL_draws_43 rfl ?_
  rw [nI_add]
  refine L_icmp_ne (t := 65) (q := 47) dL_draws_44 (by decide) rfl (fun hb44 => ?_) (fun hb44 => ?_)
  · exact absurd rfl hb44
  · refine L_aload_0 (q := 48) dL_draws_47 rfl ?_
    refine L_aload_1 (q := 49) dL_draws_48 rfl ?_
    refine L_iload_2 (q := 50) dL_draws_49 rfl ?_
    refine L_iconst (q := 51) (nI 3) dL_draws_50 (by decide) rfl ?_
    refine L_iadd (q := 52) dL_draws_51 rfl ?_
    rw [nI_add]
    refine L_callX2i (q := 55) dL_draws_52 lk_L_17 (k_L_cell hL (show z + 3 < 2 ^ 31 by omega)) rfl rfl (Nat.le_of_ble_eq_true rfl) ⟨Nat.le_of_ble_eq_true rfl, Nat.le_of_ble_eq_true rfl⟩ ⟨Nat.le_of_ble_eq_true rfl, Nat.le_of_ble_eq_true rfl⟩ rfl (fun v52 M52 hv52 => ?_)
    subst hv52
    refine L_callV1i (q := 58) dL_draws_55 lk_L_31 (by first | assumption | rfl) rfl rfl (k_X9_drawPicture hC37 hk37) rfl rfl (Nat.le_of_ble_eq_true rfl) ⟨Nat.le_of_ble_eq_true rfl, Nat.le_of_ble_eq_true rfl⟩ ⟨Nat.le_of_ble_eq_true rfl, Nat.le_of_ble_eq_true rfl⟩ rfl (fun v55 M55 hv55 => ?_)
    obtain ⟨hC55, hf55, rfl⟩ := hv55
    refine L_if_lt (t := 65) (q := 61) dL_draws_58 (by decide) rfl (fun hb58 => ?_) (fun hb58 => ?_)
    · exact absurd hb58 (hr37 v52).2.2
    · refine L_iconst (q := 62) (nI 1) dL_draws_61 (by decide) rfl ?_
      refine L_goto (t := 66) dL_draws_62 (by decide) ?_
      exact L_iret rfl dL_draws_66 (by rfl) rfl (⟨_, _, 1 + j5, 1 + j17, rfl, hC55, fun a ha => by rw [hf55 a ha, hf37 a ha], (hr37 v52).2.1, by omega, by omega, by omega, by omega⟩)
set_option maxHeartbeats 4000000 in
set_option maxRecDepth 100000 in
theorem k_L_isThere {l : Launch} {G : Gd} {b0 : Nat} {Z : Lay} {M : Mem} {A : Ab} {u : Nat → Nat} {r c pl : Nat} (hC : CR M A) (h : INV A u r c) (hr : 1 ≤ r ∧ r ≤ 6) (hc : 1 ≤ c ∧ c ≤ 6) (hpl : 140 ≤ pl) (hy : (LYZ Z)[pl]? = some (.inr (.inl (r * c)))) (hp : ∀ i, i < r * c → M pl i = nI (u i)) : Ct l G b0 yL_isThere cL_isThere 3 (some .boolean) (rmZ 3 66) (LYZ Z) (LYZ Z) M [.ref (b0 + 0), .ref (b0 + pl)] (fun v M' => CR M' A ∧ (∀ a, 140 ≤ a → M' a = M a) ∧ v = nI 1) := by
  have hrc : r * c ≤ 36 := Nat.mul_le_mul hr.2 hc.2
  refine Ct.of [some (.ref (b0 + 0)), some (.ref (b0 + pl)), none] (by decide) (Nat.le_of_ble_eq_true rfl) rfl rfl ?_
  refine S_iconst (q := 1) (nI 0) dL_isThere_0 (by decide) rfl ?_
  refine S_istore_2 (q := 2) dL_isThere_1 rfl ?_
  suffices H : ∀ (d i : Nat) (M1 : Mem), r * c - i = d → i ≤ r * c → (CR M1 A ∧ ∀ a, 140 ≤ a → M1 a = M a) → S l G b0 yL_isThere cL_isThere 3 (some .boolean) (rmZ 3 66) (LYZ Z) (fun v M' => CR M' A ∧ (∀ a, 140 ≤ a → M' a = M a) ∧ v = nI 1) 0 0 0 0 (LYZ Z) 2 [some (.ref (b0 + 0)), some (.ref (b0 + pl)), some (.int (nI (i)))] [] M1 from H _ 0 _ rfl (Nat.zero_le _) ⟨hC, fun _ _ => rfl⟩
  intro d
  induction d with
  | zero =>
    intro i M1 hd hi hI
    have e : i = r * c := by omega
    subst e
    refine S_iload_2 (q := 3) dL_isThere_2 rfl ?_
    refine S_aload_1 (q := 4) dL_isThere_3 rfl ?_
    refine S_alen (q := 5) dL_isThere_4 (by first | assumption | rfl) rfl ?_
    refine S_icmp_ge (t := 41) (q := 8) dL_isThere_5 (by decide) rfl (fun hb5 => ?_) (fun hb5 => ?_)
    · refine S_iconst (q := 42) (nI 1) dL_isThere_41 (by decide) rfl ?_
      exact S_iret rfl dL_isThere_42 (by rfl) rfl (⟨hI.1, hI.2, rfl⟩)
    · exact absurd (Int32.le_refl _) hb5
  | succ d ih =>
    intro i M1 hd hi hI
    have hlt : i < r * c := by omega
    have hq1 : i / c < r := Nat.div_lt_of_lt_mul (by rw [Nat.mul_comm]; exact hlt)
    have hq2 : i % c < c := Nat.mod_lt _ hc.1
    have hq3 : i / c * c + i % c = i := by rw [Nat.mul_comm]; exact Nat.div_add_mod i c
    refine S_iload_2 (q := 3) dL_isThere_2 rfl ?_
    refine S_aload_1 (q := 4) dL_isThere_3 rfl ?_
    refine S_alen (q := 5) dL_isThere_4 (by first | assumption | rfl) rfl ?_
    refine S_icmp_ge (t := 41) (q := 8) dL_isThere_5 (by decide) rfl (fun hb5 => ?_) (fun hb5 => ?_)
    · exact absurd hb5 (nI_ge hlt (by omega))
    · refine S_aload_0 (q := 9) dL_isThere_8 rfl ?_
      refine S_iload_2 (q := 10) dL_isThere_9 rfl ?_
      refine S_aload_0 (q := 11) dL_isThere_10 rfl ?_
      refine S_callV0i (q := 14) dL_isThere_11 lk_L_44 (by first | assumption | rfl) rfl rfl (k_X9_columnCount hI.1 h.1) rfl rfl (Nat.le_of_ble_eq_true rfl) ⟨Nat.le_of_ble_eq_true rfl, Nat.le_of_ble_eq_true rfl⟩ ⟨Nat.le_of_ble_eq_true rfl, Nat.le_of_ble_eq_true rfl⟩ rfl (fun v11 M11 hv11 => ?_)
      obtain ⟨hC11, hf11, rfl⟩ := hv11
      change CR M11 A at hC11
      rw [show (o_cols A).2 = nI c from by show nI A.P.c = _; rw [h.2.2.1]]
      refine S_idiv (q := 15) dL_isThere_14 (nI_n0 (by omega) (by omega)) rfl ?_
      rw [pk_div (by omega) (by omega) (by omega)]
      refine S_iload_2 (q := 16) dL_isThere_15 rfl ?_
      refine S_aload_0 (q := 17) dL_isThere_16 rfl ?_
      refine S_callV0i (q := 20) dL_isThere_17 lk_L_44 (by first | assumption | rfl) rfl rfl (k_X9_columnCount hC11 h.1) rfl rfl (Nat.le_of_ble_eq_true rfl) ⟨Nat.le_of_ble_eq_true rfl, Nat.le_of_ble_eq_true rfl⟩ ⟨Nat.le_of_ble_eq_true rfl, Nat.le_of_ble_eq_true rfl⟩ rfl (fun v17 M17 hv17 => ?_)
      obtain ⟨hC17, hf17, rfl⟩ := hv17
      change CR M17 A at hC17
      rw [show (o_cols A).2 = nI c from by show nI A.P.c = _; rw [h.2.2.1]]
      refine S_irem (q := 21) dL_isThere_20 (nI_n0 (by omega) (by omega)) rfl ?_
      rw [pk_rem (by omega) (by omega) (by omega)]
      refine S_callV2i (q := 24) dL_isThere_21 lk_L_79 (by first | assumption | rfl) rfl rfl (k_X9_candidates hC17 h.1) rfl rfl (Nat.le_of_ble_eq_true rfl) ⟨Nat.le_of_ble_eq_true rfl, Nat.le_of_ble_eq_true rfl⟩ ⟨Nat.le_of_ble_eq_true rfl, Nat.le_of_ble_eq_true rfl⟩ rfl (fun v21 M21 hv21 => ?_)
      obtain ⟨hC21, hf21, rfl⟩ := hv21
      obtain ⟨m, e21, hm16, hmt, hu3⟩ := h.cand hq1 hq2
      rw [hq3] at hmt hu3
      rw [e21] at hC21
      change CR M21 A at hC21
      rw [show (o_cand A (nI (i / c)) (nI (i % c))).2 = nI m from by rw [e21]]
      refine S_aload_1 (q := 25) dL_isThere_24 rfl ?_
      refine S_iload_2 (q := 26) dL_isThere_25 rfl ?_
      refine S_ialdV (i := i) (val := nI (u i)) (q := 27) dL_isThere_26 (by first | assumption | rfl) (by first | (simp only [nI_add, pk_mul, nI_1]; done) | rfl) hlt (by omega) (by rw [hf21 _ hpl, hf17 _ hpl, hf11 _ hpl, hI.2 _ hpl]; exact hp i hlt) rfl ?_
      refine S_ishr (q := 28) dL_isThere_27 rfl ?_
      refine S_iconst (q := 29) (nI 1) dL_isThere_28 (by decide) rfl ?_
      refine S_iand (q := 30) dL_isThere_29 rfl ?_
      rw [tb_if (by omega) (by omega), if_pos hmt]
      refine S_if_ne (t := 35) (q := 33) dL_isThere_30 (by decide) rfl (fun hb30 => ?_) (fun hb30 => ?_)
      · refine S_iinc_2 (q := 38) (nI (i + 1)) dL_isThere_35 (inc1 _) rfl ?_
        refine S_goto (t := 2) dL_isThere_38 (by decide) ?_
        exact ih (i + 1) _ (by omega) hlt ⟨hC21, fun a ha => by rw [hf21 a ha, hf17 a ha, hf11 a ha, hI.2 a ha]⟩
      · exact absurd hb30 (by decide)
