/-- the cells that a clue needs -/
def ndL (R : Nat) (len col : Nat → Nat) (j : Nat) : Nat := sm (fun j => len j + (if gp R col j then 1 else 0)) j
set_option maxHeartbeats 4000000 in
set_option maxRecDepth 100000 in
theorem k_X0_cellsNeeded {l : Launch} {G : Gd} {b0 : Nat} {lay : Lay} {M : Mem} {c i0 R : Nat} {len col : Nat → Nat} (hc : isC lay c) (hi0 : i0 < 16) (hu : CU M c i0 R len col)  : Ct l G b0 yX0_cellsNeeded cX0_cellsNeeded 4 (some .int) (rmZ 1 23) lay lay M [.ref (b0 + c), .int (nI i0)] (fun v M' => M' = M ∧ v = nI (ndL R len col R)) := by
  have hR8 := hu.2.1
  obtain ⟨hc0, hc1, hc2, hc3⟩ := id hc
  refine Ct.of [some (.ref (b0 + c)), some (.int (nI i0)), none, none] (by decide) (Nat.le_of_ble_eq_true rfl) rfl rfl ?_
  refine S_iconst (q := 1) (nI 0) dX0_cellsNeeded_0 (by decide) rfl ?_
  refine S_istore_2 (q := 2) dX0_cellsNeeded_1 rfl ?_
  refine S_iconst (q := 3) (nI 0) dX0_cellsNeeded_2 (by decide) rfl ?_
  refine S_istore_3 (q := 4) dX0_cellsNeeded_3 rfl ?_
  suffices H : ∀ (d : Nat) (i : Nat), R - i = d → i ≤ R → S l G b0 yX0_cellsNeeded cX0_cellsNeeded 4 (some .int) (rmZ 1 23) lay (fun v M' => M' = M ∧ v = nI (ndL R len col R)) 0 0 0 0 lay 4 [some (.ref (b0 + c)), some (.int (nI i0)), some (.int (nI (ndL R len col (i)))), some (.int (nI (i)))] [] M from H _ 0 rfl (by omega)
  intro d
  induction d with
  | zero =>
    intro i hd hi
    have e : R = i := by omega
    subst e
    refine S_iload_3 (q := 5) dX0_cellsNeeded_4 rfl ?_
    refine S_aload_0 (q := 6) dX0_cellsNeeded_5 rfl ?_
    refine S_getR (q := 9) dX0_cellsNeeded_6 fl_X0_9 (by first | assumption | rfl) (by rfl) rfl ?_
    refine S_iload_1 (q := 10) dX0_cellsNeeded_9 rfl ?_
    refine S_ialdV (i := i0) (val := nI R) (q := 11) dX0_cellsNeeded_10 (by first | assumption | rfl) (by first | (simp only [nI_add, pk_mul, nI_1]; done) | rfl) (by omega) (by decide) hu.1 rfl ?_
    refine S_icmp_ge (t := 44) (q := 14) dX0_cellsNeeded_11 (by decide) rfl (fun hb11 => ?_) (fun hb11 => ?_)
    · refine S_iload_2 (q := 45) dX0_cellsNeeded_44 rfl ?_
      exact S_iret rfl dX0_cellsNeeded_45 rfl rfl ⟨rfl, rfl⟩
    · exact absurd (Int32.le_refl _) hb11
  | succ d ih =>
    intro i hd hi
    have hlt : i < R := by omega
    refine S_iload_3 (q := 5) dX0_cellsNeeded_4 rfl ?_
    refine S_aload_0 (q := 6) dX0_cellsNeeded_5 rfl ?_
    refine S_getR (q := 9) dX0_cellsNeeded_6 fl_X0_9 (by first | assumption | rfl) (by rfl) rfl ?_
    refine S_iload_1 (q := 10) dX0_cellsNeeded_9 rfl ?_
    refine S_ialdV (i := i0) (val := nI R) (q := 11) dX0_cellsNeeded_10 (by first | assumption | rfl) (by first | (simp only [nI_add, pk_mul, nI_1]; done) | rfl) (by omega) (by decide) hu.1 rfl ?_
    refine S_icmp_ge (t := 44) (q := 14) dX0_cellsNeeded_11 (by decide) rfl (fun hb11 => ?_) (fun hb11 => ?_)
    · exact absurd hb11 (nI_ge hlt (by omega))
    · refine S_iload_2 (q := 15) dX0_cellsNeeded_14 rfl ?_
      refine S_aload_0 (q := 16) dX0_cellsNeeded_15 rfl ?_
      refine S_iload_1 (q := 17) dX0_cellsNeeded_16 rfl ?_
      refine S_iload_3 (q := 18) dX0_cellsNeeded_17 rfl ?_
      refine S_callV2i (q := 21) dX0_cellsNeeded_18 lk_X0_21 (by first | assumption | rfl) rfl rfl (k_X0_lengthOf hc (show i0 * 8 + i < 128 by omega)) rfl rfl (Nat.le_of_ble_eq_true rfl) ⟨Nat.le_of_ble_eq_true rfl, Nat.le_of_ble_eq_true rfl⟩ ⟨Nat.le_of_ble_eq_true rfl, Nat.le_of_ble_eq_true rfl⟩ rfl (fun v18 M18 hv18 => ?_)
      obtain ⟨rfl, rfl⟩ := hv18
      rw [(hu.2.2 i hlt).1]
      refine S_aload_0 (q := 22) dX0_cellsNeeded_21 rfl ?_
      refine S_iload_1 (q := 23) dX0_cellsNeeded_22 rfl ?_
      refine S_iload_3 (q := 24) dX0_cellsNeeded_23 rfl ?_
      refine S_callV2i (q := 27) dX0_cellsNeeded_24 lk_X0_25 (by first | assumption | rfl) rfl rfl (k_X0_needsGapBehind hc hi0 hu.1 hR8 (show i < 8 by omega)) rfl rfl (Nat.le_of_ble_eq_true rfl) ⟨Nat.le_of_ble_eq_true rfl, Nat.le_of_ble_eq_true rfl⟩ ⟨Nat.le_of_ble_eq_true rfl, Nat.le_of_ble_eq_true rfl⟩ rfl (fun v24 M24 hv24 => ?_)
      obtain ⟨rfl, rfl⟩ := hv24
      refine S_if_eq (t := 34) (q := 30) dX0_cellsNeeded_27 (by decide) rfl (fun hb27 => ?_) (fun hb27 => ?_)
      · have hg : ¬ gp R col i = true := fun z => bI_0.mp hb27 ((hu.gap hlt).mpr z)
        have hs : ndL R len col (i + 1) = ndL R len col i + (len i + 0) := by show ndL R len col i + (len i + if gp R col i = true then 1 else 0) = _; rw [if_neg hg]
        refine S_iconst (q := 35) (nI 0) dX0_cellsNeeded_34 (by decide) rfl ?_
        refine S_iadd (q := 36) dX0_cellsNeeded_35 rfl ?_
        refine S_iadd (q := 37) dX0_cellsNeeded_36 rfl ?_
        rw [nI_add, nI_add, ← hs]
        refine S_istore_2 (q := 38) dX0_cellsNeeded_37 rfl ?_
        refine S_iinc_3 (q := 41) (nI (i + 1)) dX0_cellsNeeded_38 (inc1 _) rfl ?_
        refine S_goto (t := 4) dX0_cellsNeeded_41 (by decide) ?_
        exact ih (i + 1) (by omega) hlt
      · have hg : gp R col i = true := (hu.gap hlt).mp (bI_n.mp hb27)
        have hs : ndL R len col (i + 1) = ndL R len col i + (len i + 1) := by show ndL R len col i + (len i + if gp R col i = true then 1 else 0) = _; rw [if_pos hg]
        refine S_iconst (q := 31) (nI 1) dX0_cellsNeeded_30 (by decide) rfl ?_
        refine S_goto (t := 35) dX0_cellsNeeded_31 (by decide) ?_
        refine S_iadd (q := 36) dX0_cellsNeeded_35 rfl ?_
        refine S_iadd (q := 37) dX0_cellsNeeded_36 rfl ?_
        rw [nI_add, nI_add, ← hs]
        refine S_istore_2 (q := 38) dX0_cellsNeeded_37 rfl ?_
        refine S_iinc_3 (q := 41) (nI (i + 1)) dX0_cellsNeeded_38 (inc1 _) rfl ?_
        refine S_goto (t := 4) dX0_cellsNeeded_41 (by decide) ?_
        exact ih (i + 1) (by omega) hlt
set_option maxHeartbeats 4000000 in
set_option maxRecDepth 100000 in
theorem k_X0_runTotal {l : Launch} {G : Gd} {b0 : Nat} {lay : Lay} {M : Mem} {c : Nat} {R : Nat → Nat} (hc : isC lay c) (hu : ∀ i, i < 16 → M (c + 1) i = nI (R i))  : Ct l G b0 yX0_runTotal cX0_runTotal 3 (some .int) (rmZ 0 0) lay lay M [.ref (b0 + c)] (fun v M' => M' = M ∧ v = nI (sm R 16)) := by
  obtain ⟨hc0, hc1, hc2, hc3⟩ := id hc
  refine Ct.of [some (.ref (b0 + c)), none, none] (by decide) (Nat.le_of_ble_eq_true rfl) rfl rfl ?_
  refine S_iconst (q := 1) (nI 0) dX0_runTotal_0 (by decide) rfl ?_
  refine S_istore_1 (q := 2) dX0_runTotal_1 rfl ?_
  refine S_iconst (q := 3) (nI 0) dX0_runTotal_2 (by decide) rfl ?_
  refine S_istore_2 (q := 4) dX0_runTotal_3 rfl ?_
  suffices H : ∀ (d : Nat) (i : Nat), 16 - i = d → i ≤ 16 → S l G b0 yX0_runTotal cX0_runTotal 3 (some .int) (rmZ 0 0) lay (fun v M' => M' = M ∧ v = nI (sm R 16)) 0 0 0 0 lay 4 [some (.ref (b0 + c)), some (.int (nI (sm R (i)))), some (.int (nI (i)))] [] M from H _ 0 rfl (by omega)
  intro d
  induction d with
  | zero =>
    intro i hd hi
    have e : 16 = i := by omega
    subst e
    refine S_iload_2 (q := 5) dX0_runTotal_4 rfl ?_
    refine S_bipush (q := 7) (nI 16) dX0_runTotal_5 (by decide) rfl ?_
    refine S_icmp_ge (t := 25) (q := 10) dX0_runTotal_7 (by decide) rfl (fun hb7 => ?_) (fun hb7 => ?_)
    · refine S_iload_1 (q := 26) dX0_runTotal_25 rfl ?_
      exact S_iret rfl dX0_runTotal_26 rfl rfl ⟨rfl, rfl⟩
    · exact absurd (by decide) hb7
  | succ d ih =>
    intro i hd hi
    have hlt : i < 16 := by omega
    refine S_iload_2 (q := 5) dX0_runTotal_4 rfl ?_
    refine S_bipush (q := 7) (nI 16) dX0_runTotal_5 (by decide) rfl ?_
    refine S_icmp_ge (t := 25) (q := 10) dX0_runTotal_7 (by decide) rfl (fun hb7 => ?_) (fun hb7 => ?_)
    · exact absurd ((nI_leI (by omega) (by omega)).mp hb7) (by omega)
    · refine S_iload_1 (q := 11) dX0_runTotal_10 rfl ?_
      refine S_aload_0 (q := 12) dX0_runTotal_11 rfl ?_
      refine S_getR (q := 15) dX0_runTotal_12 fl_X0_9 (by first | assumption | rfl) (by rfl) rfl ?_
      refine S_iload_2 (q := 16) dX0_runTotal_15 rfl ?_
      refine S_ialdV (i := i) (val := nI (R i)) (q := 17) dX0_runTotal_16 (by first | assumption | rfl) (by first | (simp only [nI_add, pk_mul, nI_1]; done) | rfl) (by omega) (by decide) (hu i hlt) rfl ?_
      refine S_iadd (q := 18) dX0_runTotal_17 rfl ?_
      rw [nI_add]
      refine S_istore_1 (q := 19) dX0_runTotal_18 rfl ?_
      refine S_iinc_2 (q := 22) (nI (i + 1)) dX0_runTotal_19 (inc1 _) rfl ?_
      refine S_goto (t := 4) dX0_runTotal_22 (by decide) ?_
      exact ih (i + 1) (by omega) hlt
/-- the history grows, to 8 -/
def cnt8 (n : Nat) : Nat := if n < 8 then n + 1 else 8
/-- History at 19 -/
def hst (j : Nat) : Nat := 21 + 6 * j
theorem hst_at : ∀ j, j < 8 → ([some 21, some 27, some 33, some 39, some 45, some 51, some 57, some 63] : List (Option Nat))[j]? = some (some (hst j)) := by decide
theorem hst_g : ∀ j, j < 8 → isG LAY (hst j) := by
  intro j hj
  rcases (show j = 0 ∨ j = 1 ∨ j = 2 ∨ j = 3 ∨ j = 4 ∨ j = 5 ∨ j = 6 ∨ j = 7 by omega) with rfl | rfl | rfl | rfl | rfl | rfl | rfl | rfl
  · exact gO_21
  · exact gO_27
  · exact gO_33
  · exact gO_39
  · exact gO_45
  · exact gO_51
  · exact gO_57
  · exact gO_63
/-- a grid is copied -/
def CPY (M M1 : Mem) (d s : Nat) : Prop := (∀ j, j < 3 → M1 d j = M s j) ∧ (∀ j, j < 16 → M1 (d + 2) j = M (s + 2) j) ∧ (∀ j, j < 128 → M1 (d + 3) j = M (s + 3) j) ∧ (∀ j, j < 128 → M1 (d + 4) j = M (s + 4) j) ∧ ∀ j, j < 64 → M1 (d + 5) j = M (s + 5) j
def HK (lay : Lay) : Prop := lay[19]? = some (.inl (2, [some (some 20), none, none])) ∧ lay[20]? = some (.inr (.inr (0, [some 21, some 27, some 33, some 39, some 45, some 51, some 57, some 63])))
theorem HK_O : HK LAY := ⟨rfl, rfl⟩
set_option maxHeartbeats 4000000 in
set_option maxRecDepth 100000 in
theorem k_X2_forget {l : Launch} {G : Gd} {b0 : Nat} {M : Mem}   : Ct l G b0 yX2_forget cX2_forget 1 none (rmZ 0 0) LAY LAY M [.ref (b0 + 19)] (fun v M' => M' = up M 19 2 (nI 0)) := by
  obtain ⟨hh0, hh1⟩ := HK_O
  refine Ct.of [some (.ref (b0 + 19))] (by decide) (Nat.le_of_ble_eq_true rfl) rfl rfl ?_
  refine S_aload_0 (q := 1) dX2_forget_0 rfl ?_
  refine S_iconst (q := 2) (nI 0) dX2_forget_1 (by decide) rfl ?_
  refine S_putI (q := 5) dX2_forget_2 fp_X2_21 (by first | assumption | rfl) (by rfl) rfl (by rfl) rfl ?_
  exact S_ret (v := 0) rfl dX2_forget_5 rfl rfl
set_option maxHeartbeats 4000000 in
set_option maxRecDepth 100000 in
theorem k_X2_push {l : Launch} {G : Gd} {b0 : Nat} {M : Mem} {g nx n : Nat} (hg : isG LAY g) (hgs : g + 6 ≤ 19 ∨ 69 ≤ g) (hnx : M 19 1 = nI nx) (hx8 : nx < 8) (hn : M 19 2 = nI n) (hn8 : n ≤ 8)  : Ct l G b0 yX2_push cX2_push 2 none (rmZ 3 102) LAY LAY M [.ref (b0 + 19), .ref (b0 + g)] (fun v M' => (∀ a, (a < hst nx ∨ hst nx + 6 ≤ a) → a ≠ 19 → M' a = M a) ∧ CPY M M' (hst nx) g ∧ M' 19 1 = nI ((nx + 1) % 8) ∧ M' 19 2 = nI (cnt8 n)) := by
  obtain ⟨hh0, hh1⟩ := HK_O
  have hgx0 := (hst_g nx hx8).1
  have hsx : hst nx = 21 + 6 * nx := rfl
  have hmin : (if nI 8 < nI (n + 1) then nI 8 else nI (n + 1)) = nI (cnt8 n) := by
    unfold cnt8
    by_cases h : n < 8
    · rw [if_pos h, if_neg (fun z => by have := (nI_ltI (by omega) (by omega)).mp z; omega)]
    · rw [if_neg h, if_pos ((nI_ltI (by omega) (by omega)).mpr (by omega))]
  refine Ct.of [some (.ref (b0 + 19)), some (.ref (b0 + g))] (by decide) (Nat.le_of_ble_eq_true rfl) rfl rfl ?_
  refine S_aload_0 (q := 1) dX2_push_0 rfl ?_
  refine S_getR (q := 4) dX2_push_1 fl_X2_11 (by first | assumption | rfl) (by rfl) rfl ?_
  refine S_aload_0 (q := 5) dX2_push_4 rfl ?_
  refine S_getI (q := 8) dX2_push_5 fl_X2_17 (by first | assumption | rfl) (by rfl) rfl ?_
  rw [hnx]
  refine S_aald (q := 9) dX2_push_8 (by first | assumption | rfl) (by decide) (by exact vp_in_nI (N := 8) hx8 (by decide)) (by rw [nI_clamp (by omega)]; exact hst_at nx hx8) rfl ?_
  refine S_aload_1 (q := 10) dX2_push_9 rfl ?_
  refine S_callV1v (q := 13) dX2_push_10 lk_X2_25 (by first | assumption | rfl) rfl rfl (k_X1_copyFrom (hst_g nx hx8) hg (by omega)) rfl rfl (Nat.le_of_ble_eq_true rfl) ⟨Nat.le_of_ble_eq_true rfl, Nat.le_of_ble_eq_true rfl⟩ ⟨Nat.le_of_ble_eq_true rfl, Nat.le_of_ble_eq_true rfl⟩ rfl (fun v10 M10 hv10 => ?_)
  obtain ⟨k1, k2, k3, k4, k5, k6⟩ := hv10
  refine S_aload_0 (q := 14) dX2_push_13 rfl ?_
  refine S_aload_0 (q := 15) dX2_push_14 rfl ?_
  refine S_getI (q := 18) dX2_push_15 fl_X2_17 (by first | assumption | rfl) (by rfl) rfl ?_
  refine S_iconst (q := 19) (nI 1) dX2_push_18 (by decide) rfl ?_
  rw [k1 19 (by omega), hnx]
  refine S_iadd (q := 20) dX2_push_19 rfl ?_
  refine S_bipush (q := 22) (nI 8) dX2_push_20 (by decide) rfl ?_
  rw [nI_add]
  refine S_irem (q := 23) dX2_push_22 (by decide) rfl ?_
  rw [pk_rem (by omega) (by decide) (by decide)]
  refine S_putI (q := 26) dX2_push_23 fp_X2_17 (by first | assumption | rfl) (by rfl) rfl (by rfl) rfl ?_
  refine S_aload_0 (q := 27) dX2_push_26 rfl ?_
  refine S_aload_0 (q := 28) dX2_push_27 rfl ?_
  refine S_getI (q := 31) dX2_push_28 fl_X2_21 (by first | assumption | rfl) (by rfl) rfl ?_
  refine S_iconst (q := 32) (nI 1) dX2_push_31 (by decide) rfl ?_
  rw [up_eq, if_neg (by omega), k1 19 (by omega), hn]
  refine S_iadd (q := 33) dX2_push_32 rfl ?_
  refine S_bipush (q := 35) (nI 8) dX2_push_33 (by decide) rfl ?_
  rw [nI_add]
  refine S_mmin (q := 38) dX2_push_35 lm_X2_29 (Nat.le_of_ble_eq_true rfl) (Nat.le_of_ble_eq_true rfl) ⟨Nat.le_of_ble_eq_true rfl, Nat.le_of_ble_eq_true rfl⟩ rfl ?_
  rw [hmin]
  refine S_putI (q := 41) dX2_push_38 fp_X2_21 (by first | assumption | rfl) (by rfl) rfl (by rfl) rfl ?_
  exact S_ret (v := 0) rfl dX2_push_41 rfl ⟨fun a h1 h2 => (by rw [up_n h2, up_n h2]; exact k1 a h1), ⟨fun j hj => (by rw [up_n (by omega), up_n (by omega)]; exact k2 j hj), fun j hj => (by rw [up_n (by omega), up_n (by omega)]; exact k3 j hj), fun j hj => (by rw [up_n (by omega), up_n (by omega)]; exact k4 j hj), fun j hj => (by rw [up_n (by omega), up_n (by omega)]; exact k5 j hj), fun j hj => (by rw [up_n (by omega), up_n (by omega)]; exact k6 j hj)⟩, (by rw [up_eq, if_neg (by omega), up_s]), up_s⟩
set_option maxHeartbeats 4000000 in
set_option maxRecDepth 100000 in
theorem k_X2_pop {l : Launch} {G : Gd} {b0 : Nat} {M : Mem} {g nx n : Nat} (hg : isG LAY g) (hgs : g + 6 ≤ 19 ∨ 69 ≤ g) (hnx : M 19 1 = nI nx) (hx8 : nx < 8) (hn : M 19 2 = nI n) (hn8 : n ≤ 8)  : Ct l G b0 yX2_pop cX2_pop 2 (some .boolean) (rmZ 3 102) LAY LAY M [.ref (b0 + 19), .ref (b0 + g)] (fun v M' => (n = 0 → v = nI 0 ∧ M' = M) ∧ (n ≠ 0 → v = nI 1 ∧ (∀ a, (a < g ∨ g + 6 ≤ a) → a ≠ 19 → M' a = M a) ∧ CPY M M' g (hst ((nx + 7) % 8)) ∧ M' 19 1 = nI ((nx + 7) % 8) ∧ M' 19 2 = nI (n - 1))) := by
  obtain ⟨hh0, hh1⟩ := HK_O
  have hgg0 := hg.1
  have hy8 : (nx + 7) % 8 < 8 := Nat.mod_lt _ (by decide)
  have hsx : hst ((nx + 7) % 8) = 21 + 6 * ((nx + 7) % 8) := rfl
  refine Ct.of [some (.ref (b0 + 19)), some (.ref (b0 + g))] (by decide) (Nat.le_of_ble_eq_true rfl) rfl rfl ?_
  refine S_aload_0 (q := 1) dX2_pop_0 rfl ?_
  refine S_getI (q := 4) dX2_pop_1 fl_X2_21 (by first | assumption | rfl) (by rfl) rfl ?_
  rw [hn]
  refine S_if_ne (t := 9) (q := 7) dX2_pop_4 (by decide) rfl (fun hb4 => ?_) (fun hb4 => ?_)
  · have h0 : n ≠ 0 := fun z => hb4 (by rw [z]; rfl)
    refine S_aload_0 (q := 10) dX2_pop_9 rfl ?_
    refine S_dup (q := 11) dX2_pop_10 rfl rfl ?_
    refine S_getI (q := 14) dX2_pop_11 fl_X2_21 (by first | assumption | rfl) (by rfl) rfl ?_
    rw [hn]
    refine S_iconst (q := 15) (nI 1) dX2_pop_14 (by decide) rfl ?_
    refine S_isub (q := 16) dX2_pop_15 rfl ?_
    rw [pk_sub (show 1 ≤ n by omega)]
    refine S_putI (q := 19) dX2_pop_16 fp_X2_21 (by first | assumption | rfl) (by rfl) rfl (by rfl) rfl ?_
    refine S_aload_0 (q := 20) dX2_pop_19 rfl ?_
    refine S_aload_0 (q := 21) dX2_pop_20 rfl ?_
    refine S_getI (q := 24) dX2_pop_21 fl_X2_17 (by first | assumption | rfl) (by rfl) rfl ?_
    rw [up_eq, if_neg (by omega), hnx]
    refine S_bipush (q := 26) (nI 8) dX2_pop_24 (by decide) rfl ?_
    refine S_iadd (q := 27) dX2_pop_26 rfl ?_
    refine S_iconst (q := 28) (nI 1) dX2_pop_27 (by decide) rfl ?_
    refine S_isub (q := 29) dX2_pop_28 rfl ?_
    refine S_bipush (q := 31) (nI 8) dX2_pop_29 (by decide) rfl ?_
    refine S_irem (q := 32) dX2_pop_31 (by decide) rfl ?_
    rw [nI_add, pk_sub (show 1 ≤ nx + 8 by omega), pk_rem (by omega) (by decide) (by decide), show nx + 8 - 1 = nx + 7 from rfl]
    refine S_putI (q := 35) dX2_pop_32 fp_X2_17 (by first | assumption | rfl) (by rfl) rfl (by rfl) rfl ?_
    refine S_aload_1 (q := 36) dX2_pop_35 rfl ?_
    refine S_aload_0 (q := 37) dX2_pop_36 rfl ?_
    refine S_getR (q := 40) dX2_pop_37 fl_X2_11 (by first | assumption | rfl) (by rfl) rfl ?_
    refine S_aload_0 (q := 41) dX2_pop_40 rfl ?_
    refine S_getI (q := 44) dX2_pop_41 fl_X2_17 (by first | assumption | rfl) (by rfl) rfl ?_
    rw [up_s]
    refine S_aald (q := 45) dX2_pop_44 (by first | assumption | rfl) (by decide) (by exact vp_in_nI (N := 8) hy8 (by decide)) (by rw [nI_clamp (by omega)]; exact hst_at _ hy8) rfl ?_
    refine S_callV1v (q := 48) dX2_pop_45 lk_X2_25 (by first | assumption | rfl) rfl rfl (k_X1_copyFrom hg (hst_g _ hy8) (by omega)) rfl rfl (Nat.le_of_ble_eq_true rfl) ⟨Nat.le_of_ble_eq_true rfl, Nat.le_of_ble_eq_true rfl⟩ ⟨Nat.le_of_ble_eq_true rfl, Nat.le_of_ble_eq_true rfl⟩ rfl (fun v45 M45 hv45 => ?_)
    obtain ⟨k1, k2, k3, k4, k5, k6⟩ := hv45
    refine S_iconst (q := 49) (nI 1) dX2_pop_48 (by decide) rfl ?_
    exact S_iret rfl dX2_pop_49 (by rfl) rfl ⟨fun h => absurd h h0, fun _ => ⟨rfl, fun a h1 h2 => (by rw [k1 a h1, up_n h2, up_n h2]), ⟨fun j hj => (by rw [k2 j hj, up_n (by omega), up_n (by omega)]), fun j hj => (by rw [k3 j hj, up_n (by omega), up_n (by omega)]), fun j hj => (by rw [k4 j hj, up_n (by omega), up_n (by omega)]), fun j hj => (by rw [k5 j hj, up_n (by omega), up_n (by omega)]), fun j hj => (by rw [k6 j hj, up_n (by omega), up_n (by omega)])⟩, (by rw [k1 19 (by omega), up_s]), (by rw [k1 19 (by omega), up_eq, if_neg (by omega), up_s])⟩⟩
  · have h0 : n = 0 := nI_inj (by omega) (by decide) hb4
    refine S_iconst (q := 8) (nI 0) dX2_pop_7 (by decide) rfl ?_
    exact S_iret rfl dX2_pop_8 (by rfl) rfl ⟨fun _ => ⟨rfl, rfl⟩, fun h => absurd h0 h⟩
/-- Table at t, Text at t -/
def isT (lay : Lay) (t : Nat) : Prop := lay[t]? = some (.inl (7, [some (some (t + 1)), none, none])) ∧ lay[t + 1]? = some (.inr (.inl 64))
def isX (lay : Lay) (t n : Nat) : Prop := lay[t]? = some (.inl (8, [some (some (t + 1)), none])) ∧ lay[t + 1]? = some (.inr (.inl n))
theorem tO_134 : isT LAY 134 := ⟨rfl, rfl⟩
theorem tO_136 : isT LAY 136 := ⟨rfl, rfl⟩
theorem tO_138 : isT LAY 138 := ⟨rfl, rfl⟩
theorem xO_125 : isX LAY 125 120 := ⟨rfl, rfl⟩
theorem xO_127 : isX LAY 127 271 := ⟨rfl, rfl⟩
/-- what a table of a type keeps of a number -/
def kpV (ty : Nat) (x : Int32) : Int32 := if ty = 0 then x.toInt8.toInt32 else if ty = 2 then (if x = 0 then nI 0 else nI 1) else x
set_option maxHeartbeats 4000000 in
set_option maxRecDepth 100000 in
theorem k_X7_start {l : Launch} {G : Gd} {b0 : Nat} {lay : Lay} {M : Mem} {t : Nat} {x z : Int32} (ht : isT lay t)  : Ct l G b0 yX7_start cX7_start 3 none (rmZ 1 23) lay lay M [.ref (b0 + t), .int x, .int z] (fun v M' => (∀ a, a ≠ t → a ≠ t + 1 → M' a = M a) ∧ M' t 1 = x ∧ M' t 2 = z ∧ ∀ j, j < 64 → M' (t + 1) j = nI 0) := by
  obtain ⟨ht0, ht1⟩ := id ht
  refine Ct.of [some (.ref (b0 + t)), some (.int x), some (.int z)] (by decide) (Nat.le_of_ble_eq_true rfl) rfl rfl ?_
  refine S_aload_0 (q := 1) dX7_start_0 rfl ?_
  refine S_iload_1 (q := 2) dX7_start_1 rfl ?_
  refine S_putI (q := 5) dX7_start_2 fp_X7_15 (by first | assumption | rfl) (by rfl) rfl (by rfl) rfl ?_
  refine S_aload_0 (q := 6) dX7_start_5 rfl ?_
  refine S_iload_2 (q := 7) dX7_start_6 rfl ?_
  refine S_putI (q := 10) dX7_start_7 fp_X7_19 (by first | assumption | rfl) (by rfl) rfl (by rfl) rfl ?_
  refine S_aload_0 (q := 11) dX7_start_10 rfl ?_
  refine S_getR (q := 14) dX7_start_11 fl_X7_9 (by first | assumption | rfl) (by rfl) rfl ?_
  refine S_iconst (q := 15) (nI 0) dX7_start_14 (by decide) rfl ?_
  refine S_callS2v (q := 18) dX7_start_15 lk_X7_22 (k_J7_fill_53178 ht1 (by decide)) rfl rfl (Nat.le_of_ble_eq_true rfl) ⟨Nat.le_of_ble_eq_true rfl, Nat.le_of_ble_eq_true rfl⟩ ⟨Nat.le_of_ble_eq_true rfl, Nat.le_of_ble_eq_true rfl⟩ rfl (fun v15 M15 hv15 => ?_)
  obtain ⟨k1, k2⟩ := hv15
  exact S_ret (v := 0) rfl dX7_start_18 rfl ⟨fun a h1 h2 => (by rw [k1 a h2, up_n h1, up_n h1]), (by rw [k1 t (by omega), up_eq, if_neg (by omega), up_s]), (by rw [k1 t (by omega), up_s]), k2⟩
set_option maxHeartbeats 4000000 in
set_option maxRecDepth 100000 in
theorem k_X7_store {l : Launch} {G : Gd} {b0 : Nat} {lay : Lay} {M : Mem} {t i ty : Nat} {x : Int32} (ht : isT lay t) (hi : i < 64) (hty : M t 1 = nI ty) (ht2 : ty ≤ 2)  : Ct l G b0 yX7_store cX7_store 3 none (rmZ 0 0) lay lay M [.ref (b0 + t), .int (nI i), .int x] (fun v M' => M' = up M (t + 1) i (kpV ty x)) := by
  obtain ⟨ht0, ht1⟩ := id ht
  refine Ct.of [some (.ref (b0 + t)), some (.int (nI i)), some (.int x)] (by decide) (Nat.le_of_ble_eq_true rfl) rfl rfl ?_
  refine S_aload_0 (q := 1) dX7_store_0 rfl ?_
  refine S_getI (q := 4) dX7_store_1 fl_X7_15 (by first | assumption | rfl) (by rfl) rfl ?_
  rw [hty]
  refine S_if_ne (t := 18) (q := 7) dX7_store_4 (by decide) rfl (fun hb4 => ?_) (fun hb4 => ?_)
  · have h0 : ty ≠ 0 := fun z => hb4 (by rw [z]; rfl)
    refine S_aload_0 (q := 19) dX7_store_18 rfl ?_
    refine S_getI (q := 22) dX7_store_19 fl_X7_15 (by first | assumption | rfl) (by rfl) rfl ?_
    refine S_iconst (q := 23) (nI 2) dX7_store_22 (by decide) rfl ?_
    rw [hty]
    refine S_icmp_ne (t := 44) (q := 26) dX7_store_23 (by decide) rfl (fun hb23 => ?_) (fun hb23 => ?_)
    · have h2 : ty ≠ 2 := fun z => hb23 (by rw [z])
      refine S_aload_0 (q := 45) dX7_store_44 rfl ?_
      refine S_getR (q := 48) dX7_store_45 fl_X7_9 (by first | assumption | rfl) (by rfl) rfl ?_
      refine S_iload_1 (q := 49) dX7_store_48 rfl ?_
      refine S_iload_2 (q := 50) dX7_store_49 rfl ?_
      refine S_iastE (i := i) (q := 51) dX7_store_50 (by first | assumption | rfl) (by first | (simp only [nI_add, pk_mul, nI_1]; done) | rfl) (by omega) (by decide) rfl ?_
      exact S_ret (v := 0) rfl dX7_store_51 rfl (by unfold kpV; rw [if_neg h0, if_neg h2])
    · have h2 : ty = 2 := nI_inj (by omega) (by decide) hb23
      subst h2
      refine S_aload_0 (q := 27) dX7_store_26 rfl ?_
      refine S_getR (q := 30) dX7_store_27 fl_X7_9 (by first | assumption | rfl) (by rfl) rfl ?_
      refine S_iload_1 (q := 31) dX7_store_30 rfl ?_
      refine S_iload_2 (q := 32) dX7_store_31 rfl ?_
      refine S_if_eq (t := 39) (q := 35) dX7_store_32 (by decide) rfl (fun hb32 => ?_) (fun hb32 => ?_)
      · have hx : x = 0 := hb32
        refine S_iconst (q := 40) (nI 0) dX7_store_39 (by decide) rfl ?_
        refine S_iastE (i := i) (q := 41) dX7_store_40 (by first | assumption | rfl) (by first | (simp only [nI_add, pk_mul, nI_1]; done) | rfl) (by omega) (by decide) rfl ?_
        refine S_goto (t := 51) dX7_store_41 (by decide) ?_
        exact S_ret (v := 0) rfl dX7_store_51 rfl (by unfold kpV; rw [if_neg (by decide), if_pos rfl, if_pos hx])
      · have hx : ¬ x = 0 := hb32
        refine S_iconst (q := 36) (nI 1) dX7_store_35 (by decide) rfl ?_
        refine S_goto (t := 40) dX7_store_36 (by decide) ?_
        refine S_iastE (i := i) (q := 41) dX7_store_40 (by first | assumption | rfl) (by first | (simp only [nI_add, pk_mul, nI_1]; done) | rfl) (by omega) (by decide) rfl ?_
        refine S_goto (t := 51) dX7_store_41 (by decide) ?_
        exact S_ret (v := 0) rfl dX7_store_51 rfl (by unfold kpV; rw [if_neg (by decide), if_pos rfl, if_neg hx])
  · have h0 : ty = 0 := nI_inj (by omega) (by decide) hb4
    subst h0
    refine S_aload_0 (q := 8) dX7_store_7 rfl ?_
    refine S_getR (q := 11) dX7_store_8 fl_X7_9 (by first | assumption | rfl) (by rfl) rfl ?_
    refine S_iload_1 (q := 12) dX7_store_11 rfl ?_
    refine S_iload_2 (q := 13) dX7_store_12 rfl ?_
    refine S_i2b (q := 14) dX7_store_13 rfl ?_
    refine S_iastE (i := i) (q := 15) dX7_store_14 (by first | assumption | rfl) (by first | (simp only [nI_add, pk_mul, nI_1]; done) | rfl) (by omega) (by decide) rfl ?_
    refine S_goto (t := 51) dX7_store_15 (by decide) ?_
    exact S_ret (v := 0) rfl dX7_store_51 rfl (by unfold kpV; rw [if_pos rfl])
set_option maxHeartbeats 4000000 in
set_option maxRecDepth 100000 in
theorem k_X8_append {l : Launch} {G : Gd} {b0 : Nat} {lay : Lay} {M : Mem} {t n k : Nat} {x : Int32} (ht : isX lay t n) (hn : n < 2 ^ 31) (hk : M t 1 = nI k) (hkn : k ≤ n)  : Ct l G b0 yX8_append cX8_append 2 (some .boolean) (rmZ 0 0) lay lay M [.ref (b0 + t), .int x] (fun v M' => (k = n → v = nI 0 ∧ M' = M) ∧ (k < n → v = nI 1 ∧ M' = up (up M (t + 1) k x) t 1 (nI (k + 1)))) := by
  obtain ⟨ht0, ht1⟩ := id ht
  refine Ct.of [some (.ref (b0 + t)), some (.int x)] (by decide) (Nat.le_of_ble_eq_true rfl) rfl rfl ?_
  refine S_aload_0 (q := 1) dX8_append_0 rfl ?_
  refine S_getI (q := 4) dX8_append_1 fl_X8_7 (by first | assumption | rfl) (by rfl) rfl ?_
  rw [hk]
  refine S_aload_0 (q := 5) dX8_append_4 rfl ?_
  refine S_getR (q := 8) dX8_append_5 fl_X8_19 (by first | assumption | rfl) (by rfl) rfl ?_
  refine S_alen (q := 9) dX8_append_8 (by first | assumption | rfl) rfl ?_
  refine S_icmp_lt (t := 14) (q := 12) dX8_append_9 (by decide) rfl (fun hb9 => ?_) (fun hb9 => ?_)
  · have h1 : k < n := (nI_ltI (by omega) (by omega)).mp hb9
    refine S_aload_0 (q := 15) dX8_append_14 rfl ?_
    refine S_getR (q := 18) dX8_append_15 fl_X8_19 (by first | assumption | rfl) (by rfl) rfl ?_
    refine S_aload_0 (q := 19) dX8_append_18 rfl ?_
    refine S_getI (q := 22) dX8_append_19 fl_X8_7 (by first | assumption | rfl) (by rfl) rfl ?_
    rw [hk]
    refine S_iload_1 (q := 23) dX8_append_22 rfl ?_
    refine S_iastE (i := k) (q := 24) dX8_append_23 (by first | assumption | rfl) (by first | (simp only [nI_add, pk_mul, nI_1]; done) | rfl) (by omega) hn rfl ?_
    refine S_aload_0 (q := 25) dX8_append_24 rfl ?_
    refine S_dup (q := 26) dX8_append_25 rfl rfl ?_
    refine S_getI (q := 29) dX8_append_26 fl_X8_7 (by first | assumption | rfl) (by rfl) rfl ?_
    rw [up_n (by omega), hk]
    refine S_iconst (q := 30) (nI 1) dX8_append_29 (by decide) rfl ?_
    refine S_iadd (q := 31) dX8_append_30 rfl ?_
    rw [nI_add]
    refine S_putI (q := 34) dX8_append_31 fp_X8_7 (by first | assumption | rfl) (by rfl) rfl (by rfl) rfl ?_
    refine S_iconst (q := 35) (nI 1) dX8_append_34 (by decide) rfl ?_
    exact S_iret rfl dX8_append_35 (by rfl) rfl ⟨fun h => absurd h (by omega), fun _ => ⟨rfl, rfl⟩⟩
  · have h1 : k = n := by
      have := mt (nI_ltI (a := k) (b := n) (by omega) (by omega)).mpr hb9
      omega
    refine S_iconst (q := 13) (nI 0) dX8_append_12 (by decide) rfl ?_
    exact S_iret rfl dX8_append_13 (by rfl) rfl ⟨fun _ => ⟨rfl, rfl⟩, fun h => absurd h (by omega)⟩
set_option maxHeartbeats 4000000 in
set_option maxRecDepth 100000 in
theorem k_X8_clear {l : Launch} {G : Gd} {b0 : Nat} {lay : Lay} {M : Mem} {t n : Nat} (ht : isX lay t n)  : Ct l G b0 yX8_clear cX8_clear 1 none (rmZ 0 0) lay lay M [.ref (b0 + t)] (fun v M' => M' = up M t 1 (nI 0)) := by
  obtain ⟨ht0, ht1⟩ := id ht
  refine Ct.of [some (.ref (b0 + t))] (by decide) (Nat.le_of_ble_eq_true rfl) rfl rfl ?_
  refine S_aload_0 (q := 1) dX8_clear_0 rfl ?_
  refine S_iconst (q := 2) (nI 0) dX8_clear_1 (by decide) rfl ?_
  refine S_putI (q := 5) dX8_clear_2 fp_X8_7 (by first | assumption | rfl) (by rfl) rfl (by rfl) rfl ?_
  exact S_ret (v := 0) rfl dX8_clear_5 rfl rfl
