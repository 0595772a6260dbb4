theorem up_eq {M : Mem} {k j a i : Nat} {v : Int32} : up M k j v a i = if a = k ∧ i = j then v else M a i := by
  unfold up upA upd
  by_cases h : a = k
  · subst h
    by_cases h2 : i = j
    · simp [h2]
    · simp [h2]
  · simp [h]
theorem upd_lt {f : Nat → Int32} {i : Nat} {x : Int32} (h : ∀ j, j < i → f j = x) : ∀ j, j < i + 1 → upd f i x j = x := by
  intro j hj
  by_cases e : j = i
  · rw [e, upd_s]
  · rw [upd_n e]; exact h j (by omega)
set_option maxHeartbeats 4000000 in
set_option maxRecDepth 100000 in
theorem k_X9_isWithin {l : Launch} {G : Gd} {b0 : Nat} {lay : Lay} {M : Mem} {x a b : Int32}  : Ct l G b0 yX9_isWithin cX9_isWithin 3 (some .boolean) (rmZ 0 0) lay lay M [.int x, .int a, .int b] (fun v M' => M' = M ∧ v = bI (a ≤ x ∧ x ≤ b)) := by
  refine Ct.of [some (.int x), some (.int a), some (.int b)] (by decide) (Nat.le_of_ble_eq_true rfl) rfl rfl ?_
  refine S_iload_0 (q := 1) dX9_isWithin_0 rfl ?_
  refine S_iload_1 (q := 2) dX9_isWithin_1 rfl ?_
  refine S_icmp_lt (t := 14) (q := 5) dX9_isWithin_2 (by decide) rfl (fun hb2 => ?_) (fun hb2 => ?_)
  · refine S_iconst (q := 15) (nI 0) dX9_isWithin_14 (by decide) rfl ?_
    refine S_iret rfl dX9_isWithin_15 (by rfl) rfl ⟨rfl, (by first | exact (bI_f (fun h => absurd h.1 (Int32.not_le.mpr hb2))).symm | exact (bI_f (fun h => absurd h.2 (Int32.not_le.mpr hb7))).symm | exact (bI_t ⟨Int32.not_lt.mp hb2, Int32.not_lt.mp hb7⟩).symm)⟩
  · refine S_iload_0 (q := 6) dX9_isWithin_5 rfl ?_
    refine S_iload_2 (q := 7) dX9_isWithin_6 rfl ?_
    refine S_icmp_gt (t := 14) (q := 10) dX9_isWithin_7 (by decide) rfl (fun hb7 => ?_) (fun hb7 => ?_)
    · refine S_iconst (q := 15) (nI 0) dX9_isWithin_14 (by decide) rfl ?_
      refine S_iret rfl dX9_isWithin_15 (by rfl) rfl ⟨rfl, (by first | exact (bI_f (fun h => absurd h.1 (Int32.not_le.mpr hb2))).symm | exact (bI_f (fun h => absurd h.2 (Int32.not_le.mpr hb7))).symm | exact (bI_t ⟨Int32.not_lt.mp hb2, Int32.not_lt.mp hb7⟩).symm)⟩
    · refine S_iconst (q := 11) (nI 1) dX9_isWithin_10 (by decide) rfl ?_
      refine S_goto (t := 15) dX9_isWithin_11 (by decide) ?_
      refine S_iret rfl dX9_isWithin_15 (by rfl) rfl ⟨rfl, (by first | exact (bI_f (fun h => absurd h.1 (Int32.not_le.mpr hb2))).symm | exact (bI_f (fun h => absurd h.2 (Int32.not_le.mpr hb7))).symm | exact (bI_t ⟨Int32.not_lt.mp hb2, Int32.not_lt.mp hb7⟩).symm)⟩
set_option maxHeartbeats 4000000 in
set_option maxRecDepth 100000 in
theorem k_J7_fill_53178 {l : Launch} {G : Gd} {b0 : Nat} {lay : Lay} {M : Mem} {k n : Nat} {x : Int32} (hk : lay[k]? = some (.inr (.inl n))) (hn : n < 2 ^ 31) : Ct l G b0 yJ7_fill_53178 cJ7_fill_53178 4 none (rmZ 0 0) lay lay M [.ref (b0 + k), .int x] (fun v M' => (∀ a, a ≠ k → M' a = M a) ∧ ∀ j, j < n → M' k j = x) := by
  refine Ct.of [some (.ref (b0 + k)), some (.int x), none, none] (by decide) (Nat.le_of_ble_eq_true rfl) rfl rfl ?_
  refine S_iconst (q := 1) (nI 0) dJ7_fill_53178_0 (by decide) rfl ?_
  refine S_istore_2 (q := 2) dJ7_fill_53178_1 rfl ?_
  refine S_aload_0 (q := 3) dJ7_fill_53178_2 rfl ?_
  refine S_alen (q := 4) dJ7_fill_53178_3 (by first | assumption | rfl) rfl ?_
  refine S_istore_3 (q := 5) dJ7_fill_53178_4 rfl ?_
  suffices H : ∀ d i M', n - i = d → i ≤ n → (∀ a, a ≠ k → M' a = M a) → (∀ j, j < i → M' k j = x) → S l G b0 yJ7_fill_53178 cJ7_fill_53178 4 none (rmZ 0 0) lay (fun v M' => (∀ a, a ≠ k → M' a = M a) ∧ ∀ j, j < n → M' k j = x) 0 0 0 0 lay 5 [some (.ref (b0 + k)), some (.int x), some (.int (nI i)), some (.int (nI n))] [] M' from H n 0 M rfl (Nat.zero_le n) (fun _ _ => rfl) (fun j h => absurd h (Nat.not_lt_zero j))
  intro d
  induction d with
  | zero =>
    intro i M' hd hi h1 h2
    have e : i = n := by omega
    subst e
    refine S_iload_2 (q := 6) dJ7_fill_53178_5 rfl ?_
    refine S_iload_3 (q := 7) dJ7_fill_53178_6 rfl ?_
    refine S_icmp_ge (t := 20) (q := 10) dJ7_fill_53178_7 (by decide) rfl (fun hb7 => ?_) (fun hb7 => ?_)
    · exact S_ret (v := 0) rfl dJ7_fill_53178_20 rfl ⟨h1, h2⟩
    · exact absurd (Int32.le_refl _) hb7
  | succ d ih =>
    intro i M' hd hi h1 h2
    have hlt : i < n := by omega
    refine S_iload_2 (q := 6) dJ7_fill_53178_5 rfl ?_
    refine S_iload_3 (q := 7) dJ7_fill_53178_6 rfl ?_
    refine S_icmp_ge (t := 20) (q := 10) dJ7_fill_53178_7 (by decide) rfl (fun hb7 => ?_) (fun hb7 => ?_)
    · exact absurd hb7 (nI_ge hlt hn)
    · refine S_aload_0 (q := 11) dJ7_fill_53178_10 rfl ?_
      refine S_iload_2 (q := 12) dJ7_fill_53178_11 rfl ?_
      refine S_iload_1 (q := 13) dJ7_fill_53178_12 rfl ?_
      refine S_iastE (i := i) (q := 14) dJ7_fill_53178_13 (by first | assumption | rfl) rfl hlt hn rfl ?_
      refine S_iinc_2 (q := 17) (nI (i + 1)) dJ7_fill_53178_14 (inc1 _) rfl ?_
      refine S_goto (t := 5) dJ7_fill_53178_17 (by decide) ?_
      exact ih (i + 1) _ (by omega) hlt (fun a ha => by rw [up_n ha]; exact h1 a ha) (by rw [up_a]; exact upd_lt h2)
set_option maxHeartbeats 4000000 in
set_option maxRecDepth 100000 in
theorem k_X0_runsOf {l : Launch} {G : Gd} {b0 : Nat} {lay : Lay} {M : Mem} {c i : Nat} (hc : isC lay c) (hi : i < 16) : Ct l G b0 yX0_runsOf cX0_runsOf 2 (some .int) (rmZ 0 0) lay lay M [.ref (b0 + c), .int (nI i)] (fun v M' => M' = M ∧ v = M (c + 1) i) := by
  obtain ⟨hc0, hc1, hc2, hc3⟩ := hc
  refine Ct.of [some (.ref (b0 + c)), some (.int (nI i))] (by decide) (Nat.le_of_ble_eq_true rfl) rfl rfl ?_
  refine S_aload_0 (q := 1) dX0_runsOf_0 rfl ?_
  refine S_getR (q := 4) dX0_runsOf_1 fl_X0_9 (by first | assumption | rfl) (by rfl) rfl ?_
  refine S_iload_1 (q := 5) dX0_runsOf_4 rfl ?_
  refine S_ialdE (i := i) (q := 6) dX0_runsOf_5 (by first | assumption | rfl) (by first | rfl | (simp only [nI_add, pk_mul, nI_1]; done)) hi (by decide) rfl ?_
  exact S_iret rfl dX0_runsOf_6 rfl rfl ⟨rfl, rfl⟩
set_option maxHeartbeats 4000000 in
set_option maxRecDepth 100000 in
theorem k_X0_isFull {l : Launch} {G : Gd} {b0 : Nat} {lay : Lay} {M : Mem} {c i : Nat} (hc : isC lay c) (hi : i < 16) : Ct l G b0 yX0_isFull cX0_isFull 2 (some .boolean) (rmZ 0 0) lay lay M [.ref (b0 + c), .int (nI i)] (fun v M' => M' = M ∧ v = bI (nI 8 ≤ M (c + 1) i)) := by
  obtain ⟨hc0, hc1, hc2, hc3⟩ := hc
  refine Ct.of [some (.ref (b0 + c)), some (.int (nI i))] (by decide) (Nat.le_of_ble_eq_true rfl) rfl rfl ?_
  refine S_aload_0 (q := 1) dX0_isFull_0 rfl ?_
  refine S_getR (q := 4) dX0_isFull_1 fl_X0_9 (by first | assumption | rfl) (by rfl) rfl ?_
  refine S_iload_1 (q := 5) dX0_isFull_4 rfl ?_
  refine S_ialdE (i := i) (q := 6) dX0_isFull_5 (by first | assumption | rfl) (by first | rfl | (simp only [nI_add, pk_mul, nI_1]; done)) hi (by decide) rfl ?_
  refine S_bipush (q := 8) (nI 8) dX0_isFull_6 (by decide) rfl ?_
  refine S_icmp_lt (t := 15) (q := 11) dX0_isFull_8 (by decide) rfl (fun hb8 => ?_) (fun hb8 => ?_)
  · refine S_iconst (q := 16) (nI 0) dX0_isFull_15 (by decide) rfl ?_
    exact S_iret rfl dX0_isFull_16 (by rfl) rfl ⟨rfl, (by first | exact (bI_f (Int32.not_le.mpr hb8)).symm | exact (bI_t (Int32.not_lt.mp hb8)).symm)⟩
  · refine S_iconst (q := 12) (nI 1) dX0_isFull_11 (by decide) rfl ?_
    refine S_goto (t := 16) dX0_isFull_12 (by decide) ?_
    exact S_iret rfl dX0_isFull_16 (by rfl) rfl ⟨rfl, (by first | exact (bI_f (Int32.not_le.mpr hb8)).symm | exact (bI_t (Int32.not_lt.mp hb8)).symm)⟩
set_option maxHeartbeats 4000000 in
set_option maxRecDepth 100000 in
theorem k_X0_lengthOf {l : Launch} {G : Gd} {b0 : Nat} {lay : Lay} {M : Mem} {c i j : Nat} (hc : isC lay c) (hi : i * 8 + j < 128) : Ct l G b0 yX0_lengthOf cX0_lengthOf 3 (some .int) (rmZ 0 0) lay lay M [.ref (b0 + c), .int (nI i), .int (nI j)] (fun v M' => M' = M ∧ v = M (c + 2) (i * 8 + j)) := by
  obtain ⟨hc0, hc1, hc2, hc3⟩ := hc
  refine Ct.of [some (.ref (b0 + c)), some (.int (nI i)), some (.int (nI j))] (by decide) (Nat.le_of_ble_eq_true rfl) rfl rfl ?_
  refine S_aload_0 (q := 1) dX0_lengthOf_0 rfl ?_
  refine S_getR (q := 4) dX0_lengthOf_1 fl_X0_15 (by first | assumption | rfl) (by rfl) rfl ?_
  refine S_iload_1 (q := 5) dX0_lengthOf_4 rfl ?_
  refine S_bipush (q := 7) (nI 8) dX0_lengthOf_5 (by decide) rfl ?_
  refine S_imul (q := 8) dX0_lengthOf_7 rfl ?_
  refine S_iload_2 (q := 9) dX0_lengthOf_8 rfl ?_
  refine S_iadd (q := 10) dX0_lengthOf_9 rfl ?_
  refine S_ialdE (i := i * 8 + j) (q := 11) dX0_lengthOf_10 (by first | assumption | rfl) (by first | rfl | (simp only [nI_add, pk_mul, nI_1]; done)) hi (by decide) rfl ?_
  exact S_iret rfl dX0_lengthOf_11 rfl rfl ⟨rfl, rfl⟩
set_option maxHeartbeats 4000000 in
set_option maxRecDepth 100000 in
theorem k_X0_colorOf {l : Launch} {G : Gd} {b0 : Nat} {lay : Lay} {M : Mem} {c i j : Nat} (hc : isC lay c) (hi : i * 8 + j < 128) : Ct l G b0 yX0_colorOf cX0_colorOf 3 (some .int) (rmZ 0 0) lay lay M [.ref (b0 + c), .int (nI i), .int (nI j)] (fun v M' => M' = M ∧ v = M (c + 3) (i * 8 + j)) := by
  obtain ⟨hc0, hc1, hc2, hc3⟩ := hc
  refine Ct.of [some (.ref (b0 + c)), some (.int (nI i)), some (.int (nI j))] (by decide) (Nat.le_of_ble_eq_true rfl) rfl rfl ?_
  refine S_aload_0 (q := 1) dX0_colorOf_0 rfl ?_
  refine S_getR (q := 4) dX0_colorOf_1 fl_X0_18 (by first | assumption | rfl) (by rfl) rfl ?_
  refine S_iload_1 (q := 5) dX0_colorOf_4 rfl ?_
  refine S_bipush (q := 7) (nI 8) dX0_colorOf_5 (by decide) rfl ?_
  refine S_imul (q := 8) dX0_colorOf_7 rfl ?_
  refine S_iload_2 (q := 9) dX0_colorOf_8 rfl ?_
  refine S_iadd (q := 10) dX0_colorOf_9 rfl ?_
  refine S_ialdE (i := i * 8 + j) (q := 11) dX0_colorOf_10 (by first | assumption | rfl) (by first | rfl | (simp only [nI_add, pk_mul, nI_1]; done)) hi (by decide) rfl ?_
  exact S_iret rfl dX0_colorOf_11 rfl rfl ⟨rfl, rfl⟩
set_option maxHeartbeats 4000000 in
set_option maxRecDepth 100000 in
theorem k_X0_needsGapBehind {l : Launch} {G : Gd} {b0 : Nat} {lay : Lay} {M : Mem} {c i j n : Nat} (hc : isC lay c) (hi : i < 16) (hn : M (c + 1) i = nI n) (hn8 : n ≤ 8) (hj : j < 8) : Ct l G b0 yX0_needsGapBehind cX0_needsGapBehind 4 (some .boolean) (rmZ 0 0) lay lay M [.ref (b0 + c), .int (nI i), .int (nI j)] (fun v M' => M' = M ∧ v = bI (j + 1 < n ∧ M (c + 3) (i * 8 + j) = M (c + 3) (i * 8 + j + 1))) := by
  obtain ⟨hc0, hc1, hc2, hc3⟩ := hc
  refine Ct.of [some (.ref (b0 + c)), some (.int (nI i)), some (.int (nI j)), none] (by decide) (Nat.le_of_ble_eq_true rfl) rfl rfl ?_
  refine S_iload_1 (q := 1) dX0_needsGapBehind_0 rfl ?_
  refine S_bipush (q := 3) (nI 8) dX0_needsGapBehind_1 (by decide) rfl ?_
  refine S_imul (q := 4) dX0_needsGapBehind_3 rfl ?_
  refine S_iload_2 (q := 5) dX0_needsGapBehind_4 rfl ?_
  refine S_iadd (q := 6) dX0_needsGapBehind_5 rfl ?_
  refine S_istore_3 (q := 7) dX0_needsGapBehind_6 rfl ?_
  refine S_iload_2 (q := 8) dX0_needsGapBehind_7 rfl ?_
  refine S_iconst (q := 9) (nI 1) dX0_needsGapBehind_8 (by decide) rfl ?_
  refine S_iadd (q := 10) dX0_needsGapBehind_9 rfl ?_
  refine S_aload_0 (q := 11) dX0_needsGapBehind_10 rfl ?_
  refine S_getR (q := 14) dX0_needsGapBehind_11 fl_X0_9 (by first | assumption | rfl) (by rfl) rfl ?_
  refine S_iload_1 (q := 15) dX0_needsGapBehind_14 rfl ?_
  refine S_ialdE (i := i) (q := 16) dX0_needsGapBehind_15 (by first | assumption | rfl) (by first | rfl | (simp only [nI_add, pk_mul, nI_1]; done)) hi (by decide) rfl ?_
  rw [hn, show (nI j + nI 1 : Int32) = nI (j + 1) from nI_1 j]
  refine S_icmp_ge (t := 40) (q := 19) dX0_needsGapBehind_16 (by decide) rfl (fun hb16 => ?_) (fun hb16 => ?_)
  · have hb16 : ¬ j + 1 < n := fun h => nI_ge h (by omega) hb16
    refine S_iconst (q := 41) (nI 0) dX0_needsGapBehind_40 (by decide) rfl ?_
    exact S_iret rfl dX0_needsGapBehind_41 (by rfl) rfl ⟨rfl, (by first | exact (bI_f (fun h => hb16 h.1)).symm | exact (bI_f (fun h => hb33 h.2)).symm | exact (bI_t ⟨hb16, hb33⟩).symm)⟩
  · have hb16 : j + 1 < n := by
      rcases Nat.lt_or_ge (j + 1) n with h | h
      · exact h
      · exact absurd (nI_le h (by omega)) hb16
    refine S_aload_0 (q := 20) dX0_needsGapBehind_19 rfl ?_
    refine S_getR (q := 23) dX0_needsGapBehind_20 fl_X0_18 (by first | assumption | rfl) (by rfl) rfl ?_
    refine S_iload_3 (q := 24) dX0_needsGapBehind_23 rfl ?_
    refine S_ialdE (i := i * 8 + j) (q := 25) dX0_needsGapBehind_24 (by first | assumption | rfl) (by first | rfl | (simp only [nI_add, pk_mul, nI_1]; done)) (by omega) (by decide) rfl ?_
    refine S_aload_0 (q := 26) dX0_needsGapBehind_25 rfl ?_
    refine S_getR (q := 29) dX0_needsGapBehind_26 fl_X0_18 (by first | assumption | rfl) (by rfl) rfl ?_
    refine S_iload_3 (q := 30) dX0_needsGapBehind_29 rfl ?_
    refine S_iconst (q := 31) (nI 1) dX0_needsGapBehind_30 (by decide) rfl ?_
    refine S_iadd (q := 32) dX0_needsGapBehind_31 rfl ?_
    refine S_ialdE (i := i * 8 + j + 1) (q := 33) dX0_needsGapBehind_32 (by first | assumption | rfl) (by first | rfl | (simp only [nI_add, pk_mul, nI_1]; done)) (by omega) (by decide) rfl ?_
    refine S_icmp_ne (t := 40) (q := 36) dX0_needsGapBehind_33 (by decide) rfl (fun hb33 => ?_) (fun hb33 => ?_)
    · refine S_iconst (q := 41) (nI 0) dX0_needsGapBehind_40 (by decide) rfl ?_
      exact S_iret rfl dX0_needsGapBehind_41 (by rfl) rfl ⟨rfl, (by first | exact (bI_f (fun h => hb16 h.1)).symm | exact (bI_f (fun h => hb33 h.2)).symm | exact (bI_t ⟨hb16, hb33⟩).symm)⟩
    · refine S_iconst (q := 37) (nI 1) dX0_needsGapBehind_36 (by decide) rfl ?_
      refine S_goto (t := 41) dX0_needsGapBehind_37 (by decide) ?_
      exact S_iret rfl dX0_needsGapBehind_41 (by rfl) rfl ⟨rfl, (by first | exact (bI_f (fun h => hb16 h.1)).symm | exact (bI_f (fun h => hb33 h.2)).symm | exact (bI_t ⟨hb16, hb33⟩).symm)⟩
