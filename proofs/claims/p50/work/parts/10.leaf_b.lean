theorem bitc_ok : ∀ m, m < 16 → (let i := nI m; let a := i - ((i.toUInt32 >>> ((nI 1).toUInt32 &&& Int32.toUInt32 31)).toInt32 &&& 1431655765); let b := (a &&& 858993459) + ((a.toUInt32 >>> ((nI 2).toUInt32 &&& Int32.toUInt32 31)).toInt32 &&& 858993459); let c := (b + (b.toUInt32 >>> ((nI 4).toUInt32 &&& Int32.toUInt32 31)).toInt32) &&& 252645135; let d := c + (c.toUInt32 >>> ((nI 8).toUInt32 &&& Int32.toUInt32 31)).toInt32; let e := d + (d.toUInt32 >>> ((nI 16).toUInt32 &&& Int32.toUInt32 31)).toInt32; e &&& nI 63) = nI (pc4 m) := by decide +kernel
set_option maxHeartbeats 4000000 in
set_option maxRecDepth 100000 in
theorem k_J6_bitCount_0f7a4 {l : Launch} {G : Gd} {b0 : Nat} {lay : Lay} {M : Mem} {m : Nat} (hm : m < 16) : Ct l G b0 yJ6_bitCount_0f7a4 cJ6_bitCount_0f7a4 1 (some .int) (rmZ 0 0) lay lay M [.int (nI m)] (fun v M' => M' = M ∧ v = nI (pc4 m)) := by
  refine Ct.of [some (.int (nI m))] (by decide) (Nat.le_of_ble_eq_true rfl) rfl rfl ?_
  refine S_iload_0 (q := 1) dJ6_bitCount_0f7a4_0 rfl ?_
  refine S_iload_0 (q := 2) dJ6_bitCount_0f7a4_1 rfl ?_
  refine S_iconst (q := 3) (nI 1) dJ6_bitCount_0f7a4_2 (by decide) rfl ?_
  refine S_iushr (q := 4) dJ6_bitCount_0f7a4_3 rfl ?_
  refine S_ldcw (q := 7) _ dJ6_bitCount_0f7a4_4 ko_J6_265 rfl ?_
  refine S_iand (q := 8) dJ6_bitCount_0f7a4_7 rfl ?_
  refine S_isub (q := 9) dJ6_bitCount_0f7a4_8 rfl ?_
  refine S_istore_0 (q := 10) dJ6_bitCount_0f7a4_9 rfl ?_
  refine S_iload_0 (q := 11) dJ6_bitCount_0f7a4_10 rfl ?_
  refine S_ldcw (q := 14) _ dJ6_bitCount_0f7a4_11 ko_J6_266 rfl ?_
  refine S_iand (q := 15) dJ6_bitCount_0f7a4_14 rfl ?_
  refine S_iload_0 (q := 16) dJ6_bitCount_0f7a4_15 rfl ?_
  refine S_iconst (q := 17) (nI 2) dJ6_bitCount_0f7a4_16 (by decide) rfl ?_
  refine S_iushr (q := 18) dJ6_bitCount_0f7a4_17 rfl ?_
  refine S_ldcw (q := 21) _ dJ6_bitCount_0f7a4_18 ko_J6_266 rfl ?_
  refine S_iand (q := 22) dJ6_bitCount_0f7a4_21 rfl ?_
  refine S_iadd (q := 23) dJ6_bitCount_0f7a4_22 rfl ?_
  refine S_istore_0 (q := 24) dJ6_bitCount_0f7a4_23 rfl ?_
  refine S_iload_0 (q := 25) dJ6_bitCount_0f7a4_24 rfl ?_
  refine S_iload_0 (q := 26) dJ6_bitCount_0f7a4_25 rfl ?_
  refine S_iconst (q := 27) (nI 4) dJ6_bitCount_0f7a4_26 (by decide) rfl ?_
  refine S_iushr (q := 28) dJ6_bitCount_0f7a4_27 rfl ?_
  refine S_iadd (q := 29) dJ6_bitCount_0f7a4_28 rfl ?_
  refine S_ldcw (q := 32) _ dJ6_bitCount_0f7a4_29 ko_J6_267 rfl ?_
  refine S_iand (q := 33) dJ6_bitCount_0f7a4_32 rfl ?_
  refine S_istore_0 (q := 34) dJ6_bitCount_0f7a4_33 rfl ?_
  refine S_iload_0 (q := 35) dJ6_bitCount_0f7a4_34 rfl ?_
  refine S_iload_0 (q := 36) dJ6_bitCount_0f7a4_35 rfl ?_
  refine S_bipush (q := 38) (nI 8) dJ6_bitCount_0f7a4_36 (by decide) rfl ?_
  refine S_iushr (q := 39) dJ6_bitCount_0f7a4_38 rfl ?_
  refine S_iadd (q := 40) dJ6_bitCount_0f7a4_39 rfl ?_
  refine S_istore_0 (q := 41) dJ6_bitCount_0f7a4_40 rfl ?_
  refine S_iload_0 (q := 42) dJ6_bitCount_0f7a4_41 rfl ?_
  refine S_iload_0 (q := 43) dJ6_bitCount_0f7a4_42 rfl ?_
  refine S_bipush (q := 45) (nI 16) dJ6_bitCount_0f7a4_43 (by decide) rfl ?_
  refine S_iushr (q := 46) dJ6_bitCount_0f7a4_45 rfl ?_
  refine S_iadd (q := 47) dJ6_bitCount_0f7a4_46 rfl ?_
  refine S_istore_0 (q := 48) dJ6_bitCount_0f7a4_47 rfl ?_
  refine S_iload_0 (q := 49) dJ6_bitCount_0f7a4_48 rfl ?_
  refine S_bipush (q := 51) (nI 63) dJ6_bitCount_0f7a4_49 (by decide) rfl ?_
  refine S_iand (q := 52) dJ6_bitCount_0f7a4_51 rfl ?_
  exact S_iret rfl dJ6_bitCount_0f7a4_52 rfl rfl (⟨rfl, bitc_ok m hm⟩)
set_option maxHeartbeats 4000000 in
set_option maxRecDepth 100000 in
theorem k_X0_append {l : Launch} {G : Gd} {b0 : Nat} {lay : Lay} {M : Mem} {c i n : Nat} {x z : Int32} (hc : isC lay c) (hi : i < 16) (hn : M (c + 1) i = nI n) (hn8 : n < 8) : Ct l G b0 yX0_append cX0_append 5 none (rmZ 1 21) lay lay M [.ref (b0 + c), .int (nI i), .int x, .int z] (fun v M' => M' = up (up (up M (c + 2) (i * 8 + n) x) (c + 3) (i * 8 + n) z) (c + 1) i (nI (n + 1))) := by
  obtain ⟨hc0, hc1, hc2, hc3⟩ := id hc
  refine Ct.of [some (.ref (b0 + c)), some (.int (nI i)), some (.int x), some (.int z), none] (by decide) (Nat.le_of_ble_eq_true rfl) rfl rfl ?_
  refine S_aload_0 (q := 1) dX0_append_0 rfl ?_
  refine S_iload_1 (q := 2) dX0_append_1 rfl ?_
  refine S_callV1i (q := 5) dX0_append_2 lk_X0_29 (by first | assumption | rfl) rfl rfl (k_X0_isFull hc hi) rfl rfl (Nat.le_of_ble_eq_true rfl) ⟨Nat.le_of_ble_eq_true rfl, Nat.le_of_ble_eq_true rfl⟩ ⟨Nat.le_of_ble_eq_true rfl, Nat.le_of_ble_eq_true rfl⟩ rfl (fun v2 M2 hv2 => ?_)
  obtain ⟨rfl, rfl⟩ := hv2
  rw [hn, bI_f (fun h => nI_ge hn8 (by decide) h)]
  refine S_if_eq (t := 9) (q := 8) dX0_append_5 (by decide) rfl (fun hb5 => ?_) (fun hb5 => ?_)
  · refine S_iload_1 (q := 10) dX0_append_9 rfl ?_
    refine S_bipush (q := 12) (nI 8) dX0_append_10 (by decide) rfl ?_
    refine S_imul (q := 13) dX0_append_12 rfl ?_
    refine S_aload_0 (q := 14) dX0_append_13 rfl ?_
    refine S_getR (q := 17) dX0_append_14 fl_X0_9 (by first | assumption | rfl) (by rfl) rfl ?_
    refine S_iload_1 (q := 18) dX0_append_17 rfl ?_
    refine S_ialdE (i := i) (q := 19) dX0_append_18 (by first | assumption | rfl) (by first | (simp only [nI_add, pk_mul, nI_1]; done) | rfl) hi (by decide) rfl ?_
    refine S_iadd (q := 20) dX0_append_19 rfl ?_
    rw [hn, show (nI i * nI 8 + nI n : Int32) = nI (i * 8 + n) from by rw [pk_mul, nI_add]]
    refine S_istore_4 (q := 22) dX0_append_20 rfl ?_
    refine S_aload_0 (q := 23) dX0_append_22 rfl ?_
    refine S_getR (q := 26) dX0_append_23 fl_X0_15 (by first | assumption | rfl) (by rfl) rfl ?_
    refine S_iload_4 (q := 28) dX0_append_26 rfl ?_
    refine S_iload_2 (q := 29) dX0_append_28 rfl ?_
    refine S_iastE (i := i * 8 + n) (q := 30) dX0_append_29 (by first | assumption | rfl) (by first | (simp only [nI_add, pk_mul, nI_1]; done) | rfl) (by omega) (by decide) rfl ?_
    refine S_aload_0 (q := 31) dX0_append_30 rfl ?_
    refine S_getR (q := 34) dX0_append_31 fl_X0_18 (by first | assumption | rfl) (by rfl) rfl ?_
    refine S_iload_4 (q := 36) dX0_append_34 rfl ?_
    refine S_iload_3 (q := 37) dX0_append_36 rfl ?_
    refine S_iastE (i := i * 8 + n) (q := 38) dX0_append_37 (by first | assumption | rfl) (by first | (simp only [nI_add, pk_mul, nI_1]; done) | rfl) (by omega) (by decide) rfl ?_
    refine S_aload_0 (q := 39) dX0_append_38 rfl ?_
    refine S_getR (q := 42) dX0_append_39 fl_X0_9 (by first | assumption | rfl) (by rfl) rfl ?_
    refine S_iload_1 (q := 43) dX0_append_42 rfl ?_
    refine S_dup2 (q := 44) dX0_append_43 rfl rfl rfl ?_
    refine S_ialdE (i := i) (q := 45) dX0_append_44 (by first | assumption | rfl) (by first | (simp only [nI_add, pk_mul, nI_1]; done) | rfl) hi (by decide) rfl ?_
    rw [up_n (show c + 1 ≠ c + 3 by omega), up_n (show c + 1 ≠ c + 2 by omega), hn]
    refine S_iconst (q := 46) (nI 1) dX0_append_45 (by decide) rfl ?_
    refine S_iadd (q := 47) dX0_append_46 rfl ?_
    refine S_iastE (i := i) (q := 48) dX0_append_47 (by first | assumption | rfl) (by first | (simp only [nI_add, pk_mul, nI_1]; done) | rfl) hi (by decide) rfl ?_
    exact S_ret (v := 0) rfl dX0_append_48 rfl ((by rw [show (nI n + nI 1 : Int32) = nI (n + 1) from nI_1 n]))
  · exact absurd rfl hb5
set_option maxHeartbeats 4000000 in
set_option maxRecDepth 100000 in
theorem k_X0_lengthenLast {l : Launch} {G : Gd} {b0 : Nat} {lay : Lay} {M : Mem} {c i n : Nat} (hc : isC lay c) (hi : i < 16) (hn : M (c + 1) i = nI (n + 1)) (hn8 : n < 8) : Ct l G b0 yX0_lengthenLast cX0_lengthenLast 2 none (rmZ 0 0) lay lay M [.ref (b0 + c), .int (nI i)] (fun v M' => M' = up M (c + 2) (i * 8 + n) (M (c + 2) (i * 8 + n) + nI 1)) := by
  obtain ⟨hc0, hc1, hc2, hc3⟩ := id hc
  refine Ct.of [some (.ref (b0 + c)), some (.int (nI i))] (by decide) (Nat.le_of_ble_eq_true rfl) rfl rfl ?_
  refine S_aload_0 (q := 1) dX0_lengthenLast_0 rfl ?_
  refine S_getR (q := 4) dX0_lengthenLast_1 fl_X0_9 (by first | assumption | rfl) (by rfl) rfl ?_
  refine S_iload_1 (q := 5) dX0_lengthenLast_4 rfl ?_
  refine S_ialdE (i := i) (q := 6) dX0_lengthenLast_5 (by first | assumption | rfl) (by first | (simp only [nI_add, pk_mul, nI_1]; done) | rfl) hi (by decide) rfl ?_
  rw [hn]
  refine S_if_le (t := 31) (q := 9) dX0_lengthenLast_6 (by decide) rfl (fun hb6 => ?_) (fun hb6 => ?_)
  · exact absurd hb6 (nI_nle (by omega) (by omega))
  · refine S_aload_0 (q := 10) dX0_lengthenLast_9 rfl ?_
    refine S_getR (q := 13) dX0_lengthenLast_10 fl_X0_15 (by first | assumption | rfl) (by rfl) rfl ?_
    refine S_iload_1 (q := 14) dX0_lengthenLast_13 rfl ?_
    refine S_bipush (q := 16) (nI 8) dX0_lengthenLast_14 (by decide) rfl ?_
    refine S_imul (q := 17) dX0_lengthenLast_16 rfl ?_
    refine S_aload_0 (q := 18) dX0_lengthenLast_17 rfl ?_
    refine S_getR (q := 21) dX0_lengthenLast_18 fl_X0_9 (by first | assumption | rfl) (by rfl) rfl ?_
    refine S_iload_1 (q := 22) dX0_lengthenLast_21 rfl ?_
    refine S_ialdE (i := i) (q := 23) dX0_lengthenLast_22 (by first | assumption | rfl) (by first | (simp only [nI_add, pk_mul, nI_1]; done) | rfl) hi (by decide) rfl ?_
    refine S_iadd (q := 24) dX0_lengthenLast_23 rfl ?_
    refine S_iconst (q := 25) (nI 1) dX0_lengthenLast_24 (by decide) rfl ?_
    refine S_isub (q := 26) dX0_lengthenLast_25 rfl ?_
    rw [hn, show (nI i * nI 8 + nI (n + 1) - nI 1 : Int32) = nI (i * 8 + n) from by rw [pk_mul, nI_add, pk_sub (by omega)]; rfl]
    refine S_dup2 (q := 27) dX0_lengthenLast_26 rfl rfl rfl ?_
    refine S_ialdE (i := i * 8 + n) (q := 28) dX0_lengthenLast_27 (by first | assumption | rfl) (by first | (simp only [nI_add, pk_mul, nI_1]; done) | rfl) (by omega) (by decide) rfl ?_
    refine S_iconst (q := 29) (nI 1) dX0_lengthenLast_28 (by decide) rfl ?_
    refine S_iadd (q := 30) dX0_lengthenLast_29 rfl ?_
    refine S_iastE (i := i * 8 + n) (q := 31) dX0_lengthenLast_30 (by first | assumption | rfl) (by first | (simp only [nI_add, pk_mul, nI_1]; done) | rfl) (by omega) (by decide) rfl ?_
    exact S_ret (v := 0) rfl dX0_lengthenLast_31 rfl (rfl)
set_option maxHeartbeats 4000000 in
set_option maxRecDepth 100000 in
theorem k_X0_emptyAll {l : Launch} {G : Gd} {b0 : Nat} {lay : Lay} {M : Mem} {c : Nat} (hc : isC lay c) : Ct l G b0 yX0_emptyAll cX0_emptyAll 1 none (rmZ 1 23) lay lay M [.ref (b0 + c)] (fun v M' => (∀ a, a ≠ c + 1 → M' a = M a) ∧ ∀ j, j < 16 → M' (c + 1) j = nI 0) := by
  obtain ⟨hc0, hc1, hc2, hc3⟩ := id hc
  refine Ct.of [some (.ref (b0 + c))] (by decide) (Nat.le_of_ble_eq_true rfl) rfl rfl ?_
  refine S_aload_0 (q := 1) dX0_emptyAll_0 rfl ?_
  refine S_getR (q := 4) dX0_emptyAll_1 fl_X0_9 (by first | assumption | rfl) (by rfl) rfl ?_
  refine S_iconst (q := 5) (nI 0) dX0_emptyAll_4 (by decide) rfl ?_
  refine S_callS2v (q := 8) dX0_emptyAll_5 lk_X0_33 (k_J7_fill_53178 hc1 (by decide)) rfl rfl (Nat.le_of_ble_eq_true rfl) ⟨Nat.le_of_ble_eq_true rfl, Nat.le_of_ble_eq_true rfl⟩ ⟨Nat.le_of_ble_eq_true rfl, Nat.le_of_ble_eq_true rfl⟩ rfl (fun v5 M5 hv5 => ?_)
  exact S_ret (v := 0) rfl dX0_emptyAll_8 rfl (hv5)
theorem cpy0 {f g : Nat → Int32} {n j : Nat} (hn : n < 2 ^ 31) (h : j < n) : va_cpy f g (nI 0).toNatClampNeg (nI 0).toNatClampNeg (nI n).toNatClampNeg j = f j := by
  rw [nI_clamp hn, show (nI 0).toNatClampNeg = 0 from rfl]
  exact sb_cpy0 h
set_option maxHeartbeats 4000000 in
set_option maxRecDepth 100000 in
theorem k_X0_copyFrom {l : Launch} {G : Gd} {b0 : Nat} {lay : Lay} {M : Mem} {c d : Nat} (hc : isC lay c) (hd : isC lay d) (hcd : c + 4 ≤ d ∨ d + 4 ≤ c) : Ct l G b0 yX0_copyFrom cX0_copyFrom 2 none (rmZ 1 60) lay lay M [.ref (b0 + c), .ref (b0 + d)] (fun v M' => (∀ a, a ≠ c + 1 → a ≠ c + 2 → a ≠ c + 3 → M' a = M a) ∧ (∀ j, j < 16 → M' (c + 1) j = M (d + 1) j) ∧ (∀ j, j < 128 → M' (c + 2) j = M (d + 2) j) ∧ (∀ j, j < 128 → M' (c + 3) j = M (d + 3) j)) := by
  obtain ⟨hc0, hc1, hc2, hc3⟩ := id hc
  obtain ⟨hd0, hd1, hd2, hd3⟩ := id hd
  refine Ct.of [some (.ref (b0 + c)), some (.ref (b0 + d))] (by decide) (Nat.le_of_ble_eq_true rfl) rfl rfl ?_
  refine S_aload_1 (q := 1) dX0_copyFrom_0 rfl ?_
  refine S_getR (q := 4) dX0_copyFrom_1 fl_X0_9 (by first | assumption | rfl) (by rfl) rfl ?_
  refine S_iconst (q := 5) (nI 0) dX0_copyFrom_4 (by decide) rfl ?_
  refine S_aload_0 (q := 6) dX0_copyFrom_5 rfl ?_
  refine S_getR (q := 9) dX0_copyFrom_6 fl_X0_9 (by first | assumption | rfl) (by rfl) rfl ?_
  refine S_iconst (q := 10) (nI 0) dX0_copyFrom_9 (by decide) rfl ?_
  refine S_aload_0 (q := 11) dX0_copyFrom_10 rfl ?_
  refine S_getR (q := 14) dX0_copyFrom_11 fl_X0_9 (by first | assumption | rfl) (by rfl) rfl ?_
  refine S_alen (q := 15) dX0_copyFrom_14 (by first | assumption | rfl) rfl ?_
  refine S_copy (q := 18) dX0_copyFrom_15 lc_X0_39 (by first | assumption | rfl) (by first | assumption | rfl) (by decide) (by decide) (by decide) (by decide) (by decide) (Nat.le_of_ble_eq_true rfl) (Nat.le_of_ble_eq_true rfl) rfl ?_
  refine S_aload_1 (q := 19) dX0_copyFrom_18 rfl ?_
  refine S_getR (q := 22) dX0_copyFrom_19 fl_X0_15 (by first | assumption | rfl) (by rfl) rfl ?_
  refine S_iconst (q := 23) (nI 0) dX0_copyFrom_22 (by decide) rfl ?_
  refine S_aload_0 (q := 24) dX0_copyFrom_23 rfl ?_
  refine S_getR (q := 27) dX0_copyFrom_24 fl_X0_15 (by first | assumption | rfl) (by rfl) rfl ?_
  refine S_iconst (q := 28) (nI 0) dX0_copyFrom_27 (by decide) rfl ?_
  refine S_aload_0 (q := 29) dX0_copyFrom_28 rfl ?_
  refine S_getR (q := 32) dX0_copyFrom_29 fl_X0_15 (by first | assumption | rfl) (by rfl) rfl ?_
  refine S_alen (q := 33) dX0_copyFrom_32 (by first | assumption | rfl) rfl ?_
  refine S_copy (q := 36) dX0_copyFrom_33 lc_X0_39 (by first | assumption | rfl) (by first | assumption | rfl) (by decide) (by decide) (by decide) (by decide) (by decide) (Nat.le_of_ble_eq_true rfl) (Nat.le_of_ble_eq_true rfl) rfl ?_
  refine S_aload_1 (q := 37) dX0_copyFrom_36 rfl ?_
  refine S_getR (q := 40) dX0_copyFrom_37 fl_X0_18 (by first | assumption | rfl) (by rfl) rfl ?_
  refine S_iconst (q := 41) (nI 0) dX0_copyFrom_40 (by decide) rfl ?_
  refine S_aload_0 (q := 42) dX0_copyFrom_41 rfl ?_
  refine S_getR (q := 45) dX0_copyFrom_42 fl_X0_18 (by first | assumption | rfl) (by rfl) rfl ?_
  refine S_iconst (q := 46) (nI 0) dX0_copyFrom_45 (by decide) rfl ?_
  refine S_aload_0 (q := 47) dX0_copyFrom_46 rfl ?_
  refine S_getR (q := 50) dX0_copyFrom_47 fl_X0_18 (by first | assumption | rfl) (by rfl) rfl ?_
  refine S_alen (q := 51) dX0_copyFrom_50 (by first | assumption | rfl) rfl ?_
  refine S_copy (q := 54) dX0_copyFrom_51 lc_X0_39 (by first | assumption | rfl) (by first | assumption | rfl) (by decide) (by decide) (by decide) (by decide) (by decide) (Nat.le_of_ble_eq_true rfl) (Nat.le_of_ble_eq_true rfl) rfl ?_
  exact S_ret (v := 0) rfl dX0_copyFrom_54 rfl ((by
      refine ⟨fun a h1 h2 h3 => by rw [upA_n h3, upA_n h2, upA_n h1], fun j hj => ?_, fun j hj => ?_, fun j hj => ?_⟩
      · rw [upA_n (show c + 1 ≠ c + 3 by omega), upA_n (show c + 1 ≠ c + 2 by omega), upA_s, cpy0 (by decide) hj]
      · rw [upA_n (show c + 2 ≠ c + 3 by omega), upA_s, cpy0 (by decide) hj, upA_n (show d + 2 ≠ c + 1 by omega)]
      · rw [upA_s, cpy0 (by decide) hj, upA_n (show d + 3 ≠ c + 2 by omega), upA_n (show d + 3 ≠ c + 1 by omega)]))
set_option maxHeartbeats 4000000 in
set_option maxRecDepth 100000 in
theorem k_X1_cellTotal {l : Launch} {G : Gd} {b0 : Nat} {lay : Lay} {M : Mem} {g r c : Nat} (hg : isG lay g)(hr : M g 0 = nI r) (hcl : M g 1 = nI c)  : Ct l G b0 yX1_cellTotal cX1_cellTotal 1 (some .int) (rmZ 0 0) lay lay M [.ref (b0 + g)] (fun v M' => M' = M ∧ v = nI (r * c)) := by
  obtain ⟨hg0, ⟨hq0, hq1, hq2, hq3⟩, hg5⟩ := id hg
  refine Ct.of [some (.ref (b0 + g))] (by decide) (Nat.le_of_ble_eq_true rfl) rfl rfl ?_
  refine S_aload_0 (q := 1) dX1_cellTotal_0 rfl ?_
  refine S_getI (q := 4) dX1_cellTotal_1 fl_X1_9 (by first | assumption | rfl) (by rfl) rfl ?_
  refine S_aload_0 (q := 5) dX1_cellTotal_4 rfl ?_
  refine S_getI (q := 8) dX1_cellTotal_5 fl_X1_15 (by first | assumption | rfl) (by rfl) rfl ?_
  refine S_imul (q := 9) dX1_cellTotal_8 rfl ?_
  exact S_iret rfl dX1_cellTotal_9 rfl rfl (⟨rfl, by rw [hr, hcl, pk_mul]⟩)
set_option maxHeartbeats 4000000 in
set_option maxRecDepth 100000 in
theorem k_X1_lineTotal {l : Launch} {G : Gd} {b0 : Nat} {lay : Lay} {M : Mem} {g r c : Nat} (hg : isG lay g)(hr : M g 0 = nI r) (hcl : M g 1 = nI c)  : Ct l G b0 yX1_lineTotal cX1_lineTotal 1 (some .int) (rmZ 0 0) lay lay M [.ref (b0 + g)] (fun v M' => M' = M ∧ v = nI (r + c)) := by
  obtain ⟨hg0, ⟨hq0, hq1, hq2, hq3⟩, hg5⟩ := id hg
  refine Ct.of [some (.ref (b0 + g))] (by decide) (Nat.le_of_ble_eq_true rfl) rfl rfl ?_
  refine S_aload_0 (q := 1) dX1_lineTotal_0 rfl ?_
  refine S_getI (q := 4) dX1_lineTotal_1 fl_X1_9 (by first | assumption | rfl) (by rfl) rfl ?_
  refine S_aload_0 (q := 5) dX1_lineTotal_4 rfl ?_
  refine S_getI (q := 8) dX1_lineTotal_5 fl_X1_15 (by first | assumption | rfl) (by rfl) rfl ?_
  refine S_iadd (q := 9) dX1_lineTotal_8 rfl ?_
  exact S_iret rfl dX1_lineTotal_9 rfl rfl (⟨rfl, by rw [hr, hcl, nI_add]⟩)
set_option maxHeartbeats 4000000 in
set_option maxRecDepth 100000 in
theorem k_X1_allLines {l : Launch} {G : Gd} {b0 : Nat} {lay : Lay} {M : Mem} {g r c : Nat} (hg : isG lay g)(hr : M g 0 = nI r) (hcl : M g 1 = nI c) (hr8 : r ≤ 8) (hc8 : c ≤ 8)  : Ct l G b0 yX1_allLines cX1_allLines 1 (some .int) (rmZ 1 20) lay lay M [.ref (b0 + g)] (fun v M' => M' = M ∧ v = nI (2 ^ (r + c) - 1)) := by
  obtain ⟨hg0, ⟨hq0, hq1, hq2, hq3⟩, hg5⟩ := id hg
  refine Ct.of [some (.ref (b0 + g))] (by decide) (Nat.le_of_ble_eq_true rfl) rfl rfl ?_
  refine S_iconst (q := 1) (nI 1) dX1_allLines_0 (by decide) rfl ?_
  refine S_aload_0 (q := 2) dX1_allLines_1 rfl ?_
  refine S_callV0i (q := 5) dX1_allLines_2 lk_X1_54 (by first | assumption | rfl) rfl rfl (k_X1_lineTotal hg hr hcl) rfl rfl (Nat.le_of_ble_eq_true rfl) ⟨Nat.le_of_ble_eq_true rfl, Nat.le_of_ble_eq_true rfl⟩ ⟨Nat.le_of_ble_eq_true rfl, Nat.le_of_ble_eq_true rfl⟩ rfl (fun v2 M2 hv2 => ?_)
  obtain ⟨rfl, rfl⟩ := hv2
  refine S_ishl (q := 6) dX1_allLines_5 rfl ?_
  refine S_iconst (q := 7) (nI 1) dX1_allLines_6 (by decide) rfl ?_
  refine S_isub (q := 8) dX1_allLines_7 rfl ?_
  exact S_iret rfl dX1_allLines_8 rfl rfl (⟨rfl, by
      have h1 : 2 ^ (r + c) ≤ 2 ^ 16 := Nat.pow_le_pow_right (by decide) (by omega)
      have h2 : 1 ≤ 2 ^ (r + c) := Nat.one_le_two_pow
      rw [nI_shl (by omega) (by omega), Nat.one_mul, pk_sub h2]⟩)
set_option maxHeartbeats 4000000 in
set_option maxRecDepth 100000 in
theorem k_X1_hasCell {l : Launch} {G : Gd} {b0 : Nat} {lay : Lay} {M : Mem} {g r c : Nat} {x z : Int32} (hg : isG lay g)(hr : M g 0 = nI r) (hcl : M g 1 = nI c) (hr8 : r ≤ 8) (hc8 : c ≤ 8) (hr1 : 1 ≤ r) (hc1 : 1 ≤ c)  : Ct l G b0 yX1_hasCell cX1_hasCell 3 (some .boolean) (rmZ 1 22) lay lay M [.ref (b0 + g), .int x, .int z] (fun v M' => M' = M ∧ v = bI ((0 ≤ x ∧ x < nI r) ∧ (0 ≤ z ∧ z < nI c))) := by
  obtain ⟨hg0, ⟨hq0, hq1, hq2, hq3⟩, hg5⟩ := id hg
  refine Ct.of [some (.ref (b0 + g)), some (.int x), some (.int z)] (by decide) (Nat.le_of_ble_eq_true rfl) rfl rfl ?_
  refine S_iload_1 (q := 1) dX1_hasCell_0 rfl ?_
  refine S_iconst (q := 2) (nI 0) dX1_hasCell_1 (by decide) rfl ?_
  refine S_aload_0 (q := 3) dX1_hasCell_2 rfl ?_
  refine S_getI (q := 6) dX1_hasCell_3 fl_X1_9 (by first | assumption | rfl) (by rfl) rfl ?_
  refine S_iconst (q := 7) (nI 1) dX1_hasCell_6 (by decide) rfl ?_
  refine S_isub (q := 8) dX1_hasCell_7 rfl ?_
  refine S_callSN3i (q := 11) dX1_hasCell_8 lk_X1_58 (k_X9_isWithin) rfl rfl (Nat.le_of_ble_eq_true rfl) ⟨Nat.le_of_ble_eq_true rfl, Nat.le_of_ble_eq_true rfl⟩ ⟨Nat.le_of_ble_eq_true rfl, Nat.le_of_ble_eq_true rfl⟩ rfl (fun v8 M8 hv8 => ?_)
  obtain ⟨rfl, rfl⟩ := hv8
  rw [hr, bI_c (wI (show 0 < r by omega) (by omega))]
  refine S_if_eq (t := 32) (q := 14) dX1_hasCell_11 (by decide) rfl (fun hb11 => ?_) (fun hb11 => ?_)
  · refine S_iconst (q := 33) (nI 0) dX1_hasCell_32 (by decide) rfl ?_
    exact S_iret rfl dX1_hasCell_33 (by rfl) rfl (⟨rfl, (by first | exact (bI_f (fun h => bI_0.mp hb11 h.1)).symm | exact (bI_f (fun h => bI_0.mp hb25 h.2)).symm | exact (bI_t ⟨bI_n.mp hb11, bI_n.mp hb25⟩).symm)⟩)
  · refine S_iload_2 (q := 15) dX1_hasCell_14 rfl ?_
    refine S_iconst (q := 16) (nI 0) dX1_hasCell_15 (by decide) rfl ?_
    refine S_aload_0 (q := 17) dX1_hasCell_16 rfl ?_
    refine S_getI (q := 20) dX1_hasCell_17 fl_X1_15 (by first | assumption | rfl) (by rfl) rfl ?_
    refine S_iconst (q := 21) (nI 1) dX1_hasCell_20 (by decide) rfl ?_
    refine S_isub (q := 22) dX1_hasCell_21 rfl ?_
    refine S_callSN3i (q := 25) dX1_hasCell_22 lk_X1_58 (k_X9_isWithin) rfl rfl (Nat.le_of_ble_eq_true rfl) ⟨Nat.le_of_ble_eq_true rfl, Nat.le_of_ble_eq_true rfl⟩ ⟨Nat.le_of_ble_eq_true rfl, Nat.le_of_ble_eq_true rfl⟩ rfl (fun v22 M22 hv22 => ?_)
    obtain ⟨rfl, rfl⟩ := hv22
    rw [hcl, bI_c (wI (show 0 < c by omega) (by omega))]
    refine S_if_eq (t := 32) (q := 28) dX1_hasCell_25 (by decide) rfl (fun hb25 => ?_) (fun hb25 => ?_)
    · refine S_iconst (q := 33) (nI 0) dX1_hasCell_32 (by decide) rfl ?_
      exact S_iret rfl dX1_hasCell_33 (by rfl) rfl (⟨rfl, (by first | exact (bI_f (fun h => bI_0.mp hb11 h.1)).symm | exact (bI_f (fun h => bI_0.mp hb25 h.2)).symm | exact (bI_t ⟨bI_n.mp hb11, bI_n.mp hb25⟩).symm)⟩)
    · refine S_iconst (q := 29) (nI 1) dX1_hasCell_28 (by decide) rfl ?_
      refine S_goto (t := 33) dX1_hasCell_29 (by decide) ?_
      exact S_iret rfl dX1_hasCell_33 (by rfl) rfl (⟨rfl, (by first | exact (bI_f (fun h => bI_0.mp hb11 h.1)).symm | exact (bI_f (fun h => bI_0.mp hb25 h.2)).symm | exact (bI_t ⟨bI_n.mp hb11, bI_n.mp hb25⟩).symm)⟩)
set_option maxHeartbeats 4000000 in
set_option maxRecDepth 100000 in
theorem k_X1_cellAt {l : Launch} {G : Gd} {b0 : Nat} {lay : Lay} {M : Mem} {g c i j : Nat} (hg : isG lay g)(hcl : M g 1 = nI c) : Ct l G b0 yX1_cellAt cX1_cellAt 3 (some .int) (rmZ 0 0) lay lay M [.ref (b0 + g), .int (nI i), .int (nI j)] (fun v M' => M' = M ∧ v = nI (i * c + j)) := by
  obtain ⟨hg0, ⟨hq0, hq1, hq2, hq3⟩, hg5⟩ := id hg
  refine Ct.of [some (.ref (b0 + g)), some (.int (nI i)), some (.int (nI j))] (by decide) (Nat.le_of_ble_eq_true rfl) rfl rfl ?_
  refine S_iload_1 (q := 1) dX1_cellAt_0 rfl ?_
  refine S_aload_0 (q := 2) dX1_cellAt_1 rfl ?_
  refine S_getI (q := 5) dX1_cellAt_2 fl_X1_15 (by first | assumption | rfl) (by rfl) rfl ?_
  refine S_imul (q := 6) dX1_cellAt_5 rfl ?_
  refine S_iload_2 (q := 7) dX1_cellAt_6 rfl ?_
  refine S_iadd (q := 8) dX1_cellAt_7 rfl ?_
  exact S_iret rfl dX1_cellAt_8 rfl rfl (⟨rfl, by rw [hcl, pk_mul, nI_add]⟩)
def lnLen (r c i : Nat) : Nat := if i < r then c else r
def lnCell (r c i p : Nat) : Nat := if i < r then i * c + p else p * c + (i - r)
set_option maxHeartbeats 4000000 in
set_option maxRecDepth 100000 in
theorem k_X1_lineLength {l : Launch} {G : Gd} {b0 : Nat} {lay : Lay} {M : Mem} {g r c i : Nat} (hg : isG lay g)(hr : M g 0 = nI r) (hcl : M g 1 = nI c) (hr8 : r ≤ 8) (hc8 : c ≤ 8) (hi : i < 16)  : Ct l G b0 yX1_lineLength cX1_lineLength 2 (some .int) (rmZ 0 0) lay lay M [.ref (b0 + g), .int (nI i)] (fun v M' => M' = M ∧ v = nI (lnLen r c i)) := by
  obtain ⟨hg0, ⟨hq0, hq1, hq2, hq3⟩, hg5⟩ := id hg
  refine Ct.of [some (.ref (b0 + g)), some (.int (nI i))] (by decide) (Nat.le_of_ble_eq_true rfl) rfl rfl ?_
  refine S_iload_1 (q := 1) dX1_lineLength_0 rfl ?_
  refine S_aload_0 (q := 2) dX1_lineLength_1 rfl ?_
  refine S_getI (q := 5) dX1_lineLength_2 fl_X1_9 (by first | assumption | rfl) (by rfl) rfl ?_
  refine S_icmp_ge (t := 15) (q := 8) dX1_lineLength_5 (by decide) rfl (fun hb5 => ?_) (fun hb5 => ?_)
  · have hb5 : ¬ i < r := by rw [hr] at hb5; exact Nat.not_lt.mpr ((nI_leI (by omega) (by omega)).mp hb5)
    refine S_aload_0 (q := 16) dX1_lineLength_15 rfl ?_
    refine S_getI (q := 19) dX1_lineLength_16 fl_X1_9 (by first | assumption | rfl) (by rfl) rfl ?_
    exact S_iret rfl dX1_lineLength_19 rfl rfl (⟨rfl, (by unfold lnLen; first | rw [if_pos hb5, hcl] | rw [if_neg hb5, hr])⟩)
  · have hb5 : i < r := by rw [hr] at hb5; exact Nat.lt_of_not_le (fun h => hb5 ((nI_leI (by omega) (by omega)).mpr h))
    refine S_aload_0 (q := 9) dX1_lineLength_8 rfl ?_
    refine S_getI (q := 12) dX1_lineLength_9 fl_X1_15 (by first | assumption | rfl) (by rfl) rfl ?_
    refine S_goto (t := 19) dX1_lineLength_12 (by decide) ?_
    exact S_iret rfl dX1_lineLength_19 rfl rfl (⟨rfl, (by unfold lnLen; first | rw [if_pos hb5, hcl] | rw [if_neg hb5, hr])⟩)
set_option maxHeartbeats 4000000 in
set_option maxRecDepth 100000 in
theorem k_X1_lineCell {l : Launch} {G : Gd} {b0 : Nat} {lay : Lay} {M : Mem} {g r c i j : Nat} (hg : isG lay g)(hr : M g 0 = nI r) (hcl : M g 1 = nI c) (hr8 : r ≤ 8) (hc8 : c ≤ 8) (hi : i < 16)  : Ct l G b0 yX1_lineCell cX1_lineCell 3 (some .int) (rmZ 0 0) lay lay M [.ref (b0 + g), .int (nI i), .int (nI j)] (fun v M' => M' = M ∧ v = nI (lnCell r c i j)) := by
  obtain ⟨hg0, ⟨hq0, hq1, hq2, hq3⟩, hg5⟩ := id hg
  refine Ct.of [some (.ref (b0 + g)), some (.int (nI i)), some (.int (nI j))] (by decide) (Nat.le_of_ble_eq_true rfl) rfl rfl ?_
  refine S_iload_1 (q := 1) dX1_lineCell_0 rfl ?_
  refine S_aload_0 (q := 2) dX1_lineCell_1 rfl ?_
  refine S_getI (q := 5) dX1_lineCell_2 fl_X1_9 (by first | assumption | rfl) (by rfl) rfl ?_
  refine S_icmp_ge (t := 19) (q := 8) dX1_lineCell_5 (by decide) rfl (fun hb5 => ?_) (fun hb5 => ?_)
  · have hb5 : ¬ i < r := by rw [hr] at hb5; exact Nat.not_lt.mpr ((nI_leI (by omega) (by omega)).mp hb5)
    refine S_iload_2 (q := 20) dX1_lineCell_19 rfl ?_
    refine S_aload_0 (q := 21) dX1_lineCell_20 rfl ?_
    refine S_getI (q := 24) dX1_lineCell_21 fl_X1_15 (by first | assumption | rfl) (by rfl) rfl ?_
    refine S_imul (q := 25) dX1_lineCell_24 rfl ?_
    refine S_iload_1 (q := 26) dX1_lineCell_25 rfl ?_
    refine S_iadd (q := 27) dX1_lineCell_26 rfl ?_
    refine S_aload_0 (q := 28) dX1_lineCell_27 rfl ?_
    refine S_getI (q := 31) dX1_lineCell_28 fl_X1_9 (by first | assumption | rfl) (by rfl) rfl ?_
    refine S_isub (q := 32) dX1_lineCell_31 rfl ?_
    exact S_iret rfl dX1_lineCell_32 rfl rfl (⟨rfl, (by unfold lnCell; first | rw [if_pos hb5, hcl, pk_mul, nI_add] | rw [if_neg hb5, hcl, hr, pk_mul, nI_add, pk_sub (by omega), Nat.add_sub_assoc (by omega)])⟩)
  · have hb5 : i < r := by rw [hr] at hb5; exact Nat.lt_of_not_le (fun h => hb5 ((nI_leI (by omega) (by omega)).mpr h))
    refine S_iload_1 (q := 9) dX1_lineCell_8 rfl ?_
    refine S_aload_0 (q := 10) dX1_lineCell_9 rfl ?_
    refine S_getI (q := 13) dX1_lineCell_10 fl_X1_15 (by first | assumption | rfl) (by rfl) rfl ?_
    refine S_imul (q := 14) dX1_lineCell_13 rfl ?_
    refine S_iload_2 (q := 15) dX1_lineCell_14 rfl ?_
    refine S_iadd (q := 16) dX1_lineCell_15 rfl ?_
    refine S_goto (t := 32) dX1_lineCell_16 (by decide) ?_
    exact S_iret rfl dX1_lineCell_32 rfl rfl (⟨rfl, (by unfold lnCell; first | rw [if_pos hb5, hcl, pk_mul, nI_add] | rw [if_neg hb5, hcl, hr, pk_mul, nI_add, pk_sub (by omega), Nat.add_sub_assoc (by omega)])⟩)
set_option maxHeartbeats 4000000 in
set_option maxRecDepth 100000 in
theorem k_X1_rowLine {l : Launch} {G : Gd} {b0 : Nat} {lay : Lay} {M : Mem} {g c i : Nat} (hg : isG lay g)(hcl : M g 1 = nI c) (hc1 : 1 ≤ c) (hc8 : c ≤ 8) (hi : i < 64) : Ct l G b0 yX1_rowLine cX1_rowLine 2 (some .int) (rmZ 0 0) lay lay M [.ref (b0 + g), .int (nI i)] (fun v M' => M' = M ∧ v = nI (i / c)) := by
  have hne : ¬ M g 1 = 0 := by rw [hcl]; exact nI_ne0 hc1 (by omega)
  obtain ⟨hg0, ⟨hq0, hq1, hq2, hq3⟩, hg5⟩ := id hg
  refine Ct.of [some (.ref (b0 + g)), some (.int (nI i))] (by decide) (Nat.le_of_ble_eq_true rfl) rfl rfl ?_
  refine S_aload_0 (q := 1) dX1_rowLine_0 rfl ?_
  refine S_getI (q := 4) dX1_rowLine_1 fl_X1_15 (by first | assumption | rfl) (by rfl) rfl ?_
  rw [hcl]
  refine S_if_le (t := 16) (q := 7) dX1_rowLine_4 (by decide) rfl (fun hb4 => ?_) (fun hb4 => ?_)
  · exact absurd ((nI_leI (a := c) (b := 0) (by omega) (by decide)).mp hb4) (by omega)
  · refine S_iload_1 (q := 8) dX1_rowLine_7 rfl ?_
    refine S_aload_0 (q := 9) dX1_rowLine_8 rfl ?_
    refine S_getI (q := 12) dX1_rowLine_9 fl_X1_15 (by first | assumption | rfl) (by rfl) rfl ?_
    refine S_idiv (q := 13) dX1_rowLine_12 hne rfl ?_
    refine S_goto (t := 17) dX1_rowLine_13 (by decide) ?_
    exact S_iret rfl dX1_rowLine_17 rfl rfl (⟨rfl, by rw [hcl, pk_div (by omega) hc1 (by omega)]⟩)
set_option maxHeartbeats 4000000 in
set_option maxRecDepth 100000 in
theorem k_X1_columnLine {l : Launch} {G : Gd} {b0 : Nat} {lay : Lay} {M : Mem} {g r c i : Nat} (hg : isG lay g)(hr : M g 0 = nI r) (hcl : M g 1 = nI c) (hc1 : 1 ≤ c) (hc8 : c ≤ 8) (hi : i < 64) : Ct l G b0 yX1_columnLine cX1_columnLine 2 (some .int) (rmZ 0 0) lay lay M [.ref (b0 + g), .int (nI i)] (fun v M' => M' = M ∧ v = nI (r + i % c)) := by
  have hne : ¬ M g 1 = 0 := by rw [hcl]; exact nI_ne0 hc1 (by omega)
  obtain ⟨hg0, ⟨hq0, hq1, hq2, hq3⟩, hg5⟩ := id hg
  refine Ct.of [some (.ref (b0 + g)), some (.int (nI i))] (by decide) (Nat.le_of_ble_eq_true rfl) rfl rfl ?_
  refine S_aload_0 (q := 1) dX1_columnLine_0 rfl ?_
  refine S_getI (q := 4) dX1_columnLine_1 fl_X1_15 (by first | assumption | rfl) (by rfl) rfl ?_
  rw [hcl]
  refine S_if_le (t := 21) (q := 7) dX1_columnLine_4 (by decide) rfl (fun hb4 => ?_) (fun hb4 => ?_)
  · exact absurd ((nI_leI (a := c) (b := 0) (by omega) (by decide)).mp hb4) (by omega)
  · refine S_aload_0 (q := 8) dX1_columnLine_7 rfl ?_
    refine S_getI (q := 11) dX1_columnLine_8 fl_X1_9 (by first | assumption | rfl) (by rfl) rfl ?_
    refine S_iload_1 (q := 12) dX1_columnLine_11 rfl ?_
    refine S_aload_0 (q := 13) dX1_columnLine_12 rfl ?_
    refine S_getI (q := 16) dX1_columnLine_13 fl_X1_15 (by first | assumption | rfl) (by rfl) rfl ?_
    refine S_irem (q := 17) dX1_columnLine_16 hne rfl ?_
    refine S_iadd (q := 18) dX1_columnLine_17 rfl ?_
    refine S_goto (t := 25) dX1_columnLine_18 (by decide) ?_
    exact S_iret rfl dX1_columnLine_25 rfl rfl (⟨rfl, by rw [hcl, hr, pk_rem (by omega) hc1 (by omega), nI_add]⟩)
set_option maxHeartbeats 4000000 in
set_option maxRecDepth 100000 in
theorem k_X1_linesThrough {l : Launch} {G : Gd} {b0 : Nat} {lay : Lay} {M : Mem} {g r c i : Nat} (hg : isG lay g)(hr : M g 0 = nI r) (hcl : M g 1 = nI c) (hr8 : r ≤ 8) (hc8 : c ≤ 8) (hc1 : 1 ≤ c) (hi : i < r * c) : Ct l G b0 yX1_linesThrough cX1_linesThrough 2 (some .int) (rmZ 1 21) lay lay M [.ref (b0 + g), .int (nI i)] (fun v M' => M' = M ∧ v = nI (2 ^ (i / c) ||| 2 ^ (r + i % c))) := by
  have hi64 : i < 64 := Nat.lt_of_lt_of_le hi (Nat.mul_le_mul hr8 hc8)
  have h1 : i / c < r := Nat.div_lt_of_lt_mul (by rw [Nat.mul_comm]; exact hi)
  have h2 : i % c < c := Nat.mod_lt _ hc1
  have h3 : 2 ^ (i / c) ≤ 2 ^ 16 := Nat.pow_le_pow_right (by decide) (by omega)
  have h4 : 2 ^ (r + i % c) ≤ 2 ^ 16 := Nat.pow_le_pow_right (by decide) (by omega)
  obtain ⟨hg0, ⟨hq0, hq1, hq2, hq3⟩, hg5⟩ := id hg
  refine Ct.of [some (.ref (b0 + g)), some (.int (nI i))] (by decide) (Nat.le_of_ble_eq_true rfl) rfl rfl ?_
  refine S_iconst (q := 1) (nI 1) dX1_linesThrough_0 (by decide) rfl ?_
  refine S_aload_0 (q := 2) dX1_linesThrough_1 rfl ?_
  refine S_iload_1 (q := 3) dX1_linesThrough_2 rfl ?_
  refine S_callV1i (q := 6) dX1_linesThrough_3 lk_X1_62 (by first | assumption | rfl) rfl rfl (k_X1_rowLine hg hcl hc1 hc8 hi64) rfl rfl (Nat.le_of_ble_eq_true rfl) ⟨Nat.le_of_ble_eq_true rfl, Nat.le_of_ble_eq_true rfl⟩ ⟨Nat.le_of_ble_eq_true rfl, Nat.le_of_ble_eq_true rfl⟩ rfl (fun v3 M3 hv3 => ?_)
  obtain ⟨rfl, rfl⟩ := hv3
  refine S_ishl (q := 7) dX1_linesThrough_6 rfl ?_
  refine S_iconst (q := 8) (nI 1) dX1_linesThrough_7 (by decide) rfl ?_
  refine S_aload_0 (q := 9) dX1_linesThrough_8 rfl ?_
  refine S_iload_1 (q := 10) dX1_linesThrough_9 rfl ?_
  refine S_callV1i (q := 13) dX1_linesThrough_10 lk_X1_66 (by first | assumption | rfl) rfl rfl (k_X1_columnLine hg hr hcl hc1 hc8 hi64) rfl rfl (Nat.le_of_ble_eq_true rfl) ⟨Nat.le_of_ble_eq_true rfl, Nat.le_of_ble_eq_true rfl⟩ ⟨Nat.le_of_ble_eq_true rfl, Nat.le_of_ble_eq_true rfl⟩ rfl (fun v10 M10 hv10 => ?_)
  obtain ⟨rfl, rfl⟩ := hv10
  refine S_ishl (q := 14) dX1_linesThrough_13 rfl ?_
  refine S_ior (q := 15) dX1_linesThrough_14 rfl ?_
  exact S_iret rfl dX1_linesThrough_15 rfl rfl (⟨rfl, by rw [nI_shl (by omega) (by omega), nI_shl (by omega) (by omega), nI_or (by omega) (by omega), Nat.one_mul, Nat.one_mul]⟩)
set_option maxHeartbeats 4000000 in
set_option maxRecDepth 100000 in
theorem k_X1_hasCandidate {l : Launch} {G : Gd} {b0 : Nat} {lay : Lay} {M : Mem} {g i j m : Nat} (hg : isG lay g)(hi : i < 64) (hm : M (g + 5) i = nI m) (hm16 : m < 16) (hj : j < 32) : Ct l G b0 yX1_hasCandidate cX1_hasCandidate 3 (some .boolean) (rmZ 0 0) lay lay M [.ref (b0 + g), .int (nI i), .int (nI j)] (fun v M' => M' = M ∧ v = bI (m.testBit j = true)) := by
  obtain ⟨hg0, ⟨hq0, hq1, hq2, hq3⟩, hg5⟩ := id hg
  refine Ct.of [some (.ref (b0 + g)), some (.int (nI i)), some (.int (nI j))] (by decide) (Nat.le_of_ble_eq_true rfl) rfl rfl ?_
  refine S_aload_0 (q := 1) dX1_hasCandidate_0 rfl ?_
  refine S_getR (q := 4) dX1_hasCandidate_1 fl_X1_28 (by first | assumption | rfl) (by rfl) rfl ?_
  refine S_iload_1 (q := 5) dX1_hasCandidate_4 rfl ?_
  refine S_ialdE (i := i) (q := 6) dX1_hasCandidate_5 (by first | assumption | rfl) (by first | (simp only [nI_add, pk_mul, nI_1]; done) | rfl) hi (by decide) rfl ?_
  refine S_iload_2 (q := 7) dX1_hasCandidate_6 rfl ?_
  refine S_ishr (q := 8) dX1_hasCandidate_7 rfl ?_
  refine S_iconst (q := 9) (nI 1) dX1_hasCandidate_8 (by decide) rfl ?_
  refine S_iand (q := 10) dX1_hasCandidate_9 rfl ?_
  rw [hm, tb_if (by omega) hj]
  refine S_if_eq (t := 17) (q := 13) dX1_hasCandidate_10 (by decide) rfl (fun hb10 => ?_) (fun hb10 => ?_)
  · have hb10 : ¬ m.testBit j = true := fun h => by rw [if_pos h] at hb10; exact absurd hb10 (by decide)
    refine S_iconst (q := 18) (nI 0) dX1_hasCandidate_17 (by decide) rfl ?_
    exact S_iret rfl dX1_hasCandidate_18 (by rfl) rfl (⟨rfl, (by first | exact (bI_f hb10).symm | exact (bI_t hb10).symm)⟩)
  · have hb10 : m.testBit j = true := by
      by_cases h : m.testBit j = true
      · exact h
      · rw [if_neg h] at hb10; exact absurd rfl hb10
    refine S_iconst (q := 14) (nI 1) dX1_hasCandidate_13 (by decide) rfl ?_
    refine S_goto (t := 18) dX1_hasCandidate_14 (by decide) ?_
    exact S_iret rfl dX1_hasCandidate_18 (by rfl) rfl (⟨rfl, (by first | exact (bI_f hb10).symm | exact (bI_t hb10).symm)⟩)
set_option maxHeartbeats 4000000 in
set_option maxRecDepth 100000 in
theorem k_X1_isDecided {l : Launch} {G : Gd} {b0 : Nat} {lay : Lay} {M : Mem} {g i m : Nat} (hg : isG lay g)(hi : i < 64) (hm : M (g + 5) i = nI m) (hm16 : m < 16)  : Ct l G b0 yX1_isDecided cX1_isDecided 2 (some .boolean) (rmZ 1 20) lay lay M [.ref (b0 + g), .int (nI i)] (fun v M' => M' = M ∧ v = bI (pc4 m = 1)) := by
  obtain ⟨hg0, ⟨hq0, hq1, hq2, hq3⟩, hg5⟩ := id hg
  refine Ct.of [some (.ref (b0 + g)), some (.int (nI i))] (by decide) (Nat.le_of_ble_eq_true rfl) rfl rfl ?_
  refine S_aload_0 (q := 1) dX1_isDecided_0 rfl ?_
  refine S_getR (q := 4) dX1_isDecided_1 fl_X1_28 (by first | assumption | rfl) (by rfl) rfl ?_
  refine S_iload_1 (q := 5) dX1_isDecided_4 rfl ?_
  refine S_ialdE (i := i) (q := 6) dX1_isDecided_5 (by first | assumption | rfl) (by first | (simp only [nI_add, pk_mul, nI_1]; done) | rfl) hi (by decide) rfl ?_
  rw [hm]
  refine S_callS1i (q := 9) dX1_isDecided_6 lk_X1_69 (k_J6_bitCount_0f7a4 hm16) rfl rfl (Nat.le_of_ble_eq_true rfl) ⟨Nat.le_of_ble_eq_true rfl, Nat.le_of_ble_eq_true rfl⟩ ⟨Nat.le_of_ble_eq_true rfl, Nat.le_of_ble_eq_true rfl⟩ rfl (fun v6 M6 hv6 => ?_)
  obtain ⟨rfl, rfl⟩ := hv6
  refine S_iconst (q := 10) (nI 1) dX1_isDecided_9 (by decide) rfl ?_
  refine S_icmp_ne (t := 17) (q := 13) dX1_isDecided_10 (by decide) rfl (fun hb10 => ?_) (fun hb10 => ?_)
  · have hb10 : ¬ pc4 m = 1 := fun h => hb10 (by rw [h])
    refine S_iconst (q := 18) (nI 0) dX1_isDecided_17 (by decide) rfl ?_
    exact S_iret rfl dX1_isDecided_18 (by rfl) rfl (⟨rfl, (by first | exact (bI_f hb10).symm | exact (bI_t hb10).symm)⟩)
  · have hb10 : pc4 m = 1 := nI_inj (Nat.lt_of_le_of_lt (pc4_le m) (by decide)) (by decide) hb10
    refine S_iconst (q := 14) (nI 1) dX1_isDecided_13 (by decide) rfl ?_
    refine S_goto (t := 18) dX1_isDecided_14 (by decide) ?_
    exact S_iret rfl dX1_isDecided_18 (by rfl) rfl (⟨rfl, (by first | exact (bI_f hb10).symm | exact (bI_t hb10).symm)⟩)
set_option maxHeartbeats 4000000 in
set_option maxRecDepth 100000 in
theorem k_X1_decidedColor {l : Launch} {G : Gd} {b0 : Nat} {lay : Lay} {M : Mem} {g i m : Nat} (hg : isG lay g)(hi : i < 64) (hm : M (g + 5) i = nI m) (hm16 : m < 16) (hm1 : 1 ≤ m) : Ct l G b0 yX1_decidedColor cX1_decidedColor 2 (some .int) (rmZ 1 20) lay lay M [.ref (b0 + g), .int (nI i)] (fun v M' => M' = M ∧ v = nI (pc4 (m - 1))) := by
  obtain ⟨hg0, ⟨hq0, hq1, hq2, hq3⟩, hg5⟩ := id hg
  refine Ct.of [some (.ref (b0 + g)), some (.int (nI i))] (by decide) (Nat.le_of_ble_eq_true rfl) rfl rfl ?_
  refine S_aload_0 (q := 1) dX1_decidedColor_0 rfl ?_
  refine S_getR (q := 4) dX1_decidedColor_1 fl_X1_28 (by first | assumption | rfl) (by rfl) rfl ?_
  refine S_iload_1 (q := 5) dX1_decidedColor_4 rfl ?_
  refine S_ialdE (i := i) (q := 6) dX1_decidedColor_5 (by first | assumption | rfl) (by first | (simp only [nI_add, pk_mul, nI_1]; done) | rfl) hi (by decide) rfl ?_
  refine S_iconst (q := 7) (nI 1) dX1_decidedColor_6 (by decide) rfl ?_
  refine S_isub (q := 8) dX1_decidedColor_7 rfl ?_
  rw [hm, pk_sub hm1]
  refine S_callS1i (q := 11) dX1_decidedColor_8 lk_X1_69 (k_J6_bitCount_0f7a4 (show m - 1 < 16 by omega)) rfl rfl (Nat.le_of_ble_eq_true rfl) ⟨Nat.le_of_ble_eq_true rfl, Nat.le_of_ble_eq_true rfl⟩ ⟨Nat.le_of_ble_eq_true rfl, Nat.le_of_ble_eq_true rfl⟩ rfl (fun v8 M8 hv8 => ?_)
  obtain ⟨rfl, rfl⟩ := hv8
  exact S_iret rfl dX1_decidedColor_11 rfl rfl (⟨rfl, rfl⟩)
