/-! THE REFERENCE: its place is 140; its grids lie in 141, a cell at base + 8 * row + column -/
def gx (c x : Nat) : Nat := 8 * (x / c) + x % c
def lnG (r c i p : Nat) : Nat := if i < r then 8 * i + p else 8 * p + (i - r)
theorem gx_at {c i j : Nat} (hj : j < c) : gx c (i * c + j) = 8 * i + j := by
  obtain ⟨h1, h2⟩ := div_eq (a := i * c + j) hj rfl
  unfold gx
  rw [h1, h2]
theorem gx_ln {r c i p : Nat} (hi : i < r + c) (hp : p < lnLen r c i) : gx c (lnCell r c i p) = lnG r c i p := by
  unfold lnCell lnG
  unfold lnLen at hp
  by_cases h : i < r
  · rw [if_pos h] at hp ⊢; rw [if_pos h]; exact gx_at hp
  · rw [if_neg h] at hp ⊢; rw [if_neg h]; exact gx_at (by omega)
theorem gx_64 {r c x : Nat} (hr8 : r ≤ 8) (hc8 : c ≤ 8) (hc1 : 1 ≤ c) (hx : x < r * c) : gx c x < 64 ∧ x / c < r ∧ x % c < c := by
  have h1 : x / c < r := (Nat.div_lt_iff_lt_mul (by omega)).mpr hx
  have h2 := Nat.mod_lt x (show 0 < c by omega)
  unfold gx
  omega
theorem gx_inj {r c x z : Nat} (hr8 : r ≤ 8) (hc8 : c ≤ 8) (hc1 : 1 ≤ c) (hx : x < r * c) (hz : z < r * c) (h : gx c x = gx c z) : x = z := by
  obtain ⟨-, -, h1⟩ := gx_64 hr8 hc8 hc1 hx
  obtain ⟨-, -, h2⟩ := gx_64 hr8 hc8 hc1 hz
  unfold gx at h
  have e1 : x / c = z / c := by omega
  have e2 : x % c = z % c := by omega
  rw [← Nat.div_add_mod x c, ← Nat.div_add_mod z c, e1, e2]
/-- the candidates in a grid of the reference -/
def RCE (M : Mem) (b : Nat) (P : Pz) (f : Nat → Nat) : Prop := ∀ x, x < P.r * P.c → M 141 (b + gx P.c x) = nI (f x) ∧ 1 ≤ f x ∧ f x < 16
theorem RCE.gf {M : Mem} {b : Nat} {P : Pz} {f : Nat → Nat} (h : RCE M b P f) : GF P f := fun x hx => (h x hx).2
theorem RCE.fr {M M1 : Mem} {b : Nat} {P : Pz} {f : Nat → Nat} (h : RCE M b P f) (hP : P.ok) (e : ∀ x, x < 64 → M1 141 (b + x) = M 141 (b + x)) : RCE M1 b P f := fun x hx => by rw [e _ (gx_64 hP.r8 hP.c8 hP.c1 hx).1]; exact h x hx
theorem RCE.at {M : Mem} {b i j : Nat} {P : Pz} {f : Nat → Nat} (h : RCE M b P f) (hi : i < P.r) (hj : j < P.c) : M 141 (b + (8 * i + j)) = nI (f (i * P.c + j)) ∧ 1 ≤ f (i * P.c + j) ∧ f (i * P.c + j) < 16 := by
  have := h (i * P.c + j) (cel_lt hi hj)
  rw [gx_at hj] at this
  exact this
theorem RCE.ln {M : Mem} {b i q : Nat} {P : Pz} {f : Nat → Nat} (h : RCE M b P f) (hi : i < P.r + P.c) (hq : q < lnLen P.r P.c i) : M 141 (b + lnG P.r P.c i q) = nI (f (lnCell P.r P.c i q)) ∧ 1 ≤ f (lnCell P.r P.c i q) ∧ f (lnCell P.r P.c i q) < 16 := by
  have := h _ (lnCell_lt hi hq)
  rw [gx_ln hi hq] at this
  exact this
theorem RCE.up {M : Mem} {b x v : Nat} {P : Pz} {f : Nat → Nat} (h : RCE M b P f) (hP : P.ok) (hx : x < P.r * P.c) (h1 : 1 ≤ v) (h2 : v < 16) : RCE (up M 141 (b + gx P.c x) (nI v)) b P (upf f x v) := fun z hz => by
  by_cases e : z = x
  · rw [e, up_s, upf_s]; exact ⟨rfl, h1, h2⟩
  · rw [up_eq, if_neg (fun y => e (gx_inj hP.r8 hP.c8 hP.c1 hz hx (by omega))), upf_n e]; exact h z hz
theorem RCE.cp {M M1 : Mem} {s d : Nat} {P : Pz} {f : Nat → Nat} (h : RCE M s P f) (hP : P.ok) (e : ∀ x, x < 64 → M1 141 (d + x) = M 141 (s + x)) : RCE M1 d P f := fun x hx => by rw [e _ (gx_64 hP.r8 hP.c8 hP.c1 hx).1]; exact h x hx
theorem lnG_64 {r c i p : Nat} (hr8 : r ≤ 8) (hc8 : c ≤ 8) (hi : i < r + c) (hp : p < lnLen r c i) : lnG r c i p < 64 := by
  unfold lnG
  unfold lnLen at hp
  split at hp
  · rename_i h; rw [if_pos h]; omega
  · rename_i h; rw [if_neg h]; omega
theorem sm_s {g : Nat → Nat} {n : Nat} : sm g (n + 1) = sm g n + g n := rfl
theorem dc1_0 {f : Nat → Nat} {x : Nat} (h : ¬ pc4 (f x) = 1) : dc1 f x = 0 := if_neg h
theorem dc1_1 {f : Nat → Nat} {x : Nat} (h : pc4 (f x) = 1) : dc1 f x = 1 := if_pos h
theorem ones_s : ∀ m, m < 16 → 0 < m → nI m &&& (nI m - nI 1) = nI (m &&& (m - 1)) ∧ m &&& (m - 1) < m ∧ pc4 (m &&& (m - 1)) + 1 = pc4 m := by decide +kernel
theorem dec_s : ∀ m, m < 16 → 1 ≤ m → (nI m &&& (nI m - nI 1) = 0 ↔ pc4 m = 1) := by decide +kernel
theorem clo_s : ∀ m, m < 16 → pc4 m = 1 → ∀ k, k ≤ clo m → (nI m >>> (nI k &&& 31) = nI 1 ↔ k = clo m) := by decide +kernel
set_option maxHeartbeats 4000000 in
set_option maxRecDepth 100000 in
theorem k_X10_within {l : Launch} {G : Gd} {b0 : Nat} {M : Mem} {x a b : Int32}  : Ct l G b0 yX10_within cX10_within 4 (some .boolean) (rmZ 0 0) LAY LAY M [.ref (b0 + 140), .int x, .int a, .int b] (fun v M' => M' = M ∧ v = bI (a ≤ x ∧ x ≤ b)) := by
  refine Ct.of [some (.ref (b0 + 140)), some (.int x), some (.int a), some (.int b)] (by decide) (Nat.le_of_ble_eq_true rfl) rfl rfl ?_
  refine S_iload_1 (q := 1) dX10_within_0 rfl ?_
  refine S_iload_2 (q := 2) dX10_within_1 rfl ?_
  refine S_icmp_lt (t := 14) (q := 5) dX10_within_2 (by decide) rfl (fun hb2 => ?_) (fun hb2 => ?_)
  · refine S_iconst (q := 15) (nI 0) dX10_within_14 (by decide) rfl ?_
    exact S_iret rfl dX10_within_15 (by rfl) rfl (⟨rfl, (bI_f (fun y => Int32.not_lt.mpr y.1 hb2)).symm⟩)
  · have h1 := Int32.not_lt.mp hb2
    refine S_iload_1 (q := 6) dX10_within_5 rfl ?_
    refine S_iload_3 (q := 7) dX10_within_6 rfl ?_
    refine S_icmp_gt (t := 14) (q := 10) dX10_within_7 (by decide) rfl (fun hb7 => ?_) (fun hb7 => ?_)
    · refine S_iconst (q := 15) (nI 0) dX10_within_14 (by decide) rfl ?_
      exact S_iret rfl dX10_within_15 (by rfl) rfl (⟨rfl, (bI_f (fun y => Int32.not_lt.mpr y.2 hb7)).symm⟩)
    · have h2 := Int32.not_lt.mp hb7
      refine S_iconst (q := 11) (nI 1) dX10_within_10 (by decide) rfl ?_
      refine S_goto (t := 15) dX10_within_11 (by decide) ?_
      exact S_iret rfl dX10_within_15 (by rfl) rfl (⟨rfl, (bI_t ⟨h1, h2⟩).symm⟩)
set_option maxHeartbeats 4000000 in
set_option maxRecDepth 100000 in
theorem k_X10_lines {l : Launch} {G : Gd} {b0 : Nat} {M : Mem} {r c : Nat} (g0 : M 140 0 = nI r) (g1 : M 140 1 = nI c)  : Ct l G b0 yX10_lines cX10_lines 1 (some .int) (rmZ 0 0) LAY LAY M [.ref (b0 + 140)] (fun v M' => M' = M ∧ v = nI (r + c)) := by
  refine Ct.of [some (.ref (b0 + 140))] (by decide) (Nat.le_of_ble_eq_true rfl) rfl rfl ?_
  refine S_aload_0 (q := 1) dX10_lines_0 rfl ?_
  refine S_getI (q := 4) dX10_lines_1 fl_X10_7 (by first | assumption | rfl) (by rfl) rfl ?_
  refine S_aload_0 (q := 5) dX10_lines_4 rfl ?_
  refine S_getI (q := 8) dX10_lines_5 fl_X10_13 (by first | assumption | rfl) (by rfl) rfl ?_
  refine S_iadd (q := 9) dX10_lines_8 rfl ?_
  exact S_iret rfl dX10_lines_9 rfl rfl (⟨rfl, by rw [g0, g1, nI_add]⟩)
set_option maxHeartbeats 4000000 in
set_option maxRecDepth 100000 in
theorem k_X10_isLine {l : Launch} {G : Gd} {b0 : Nat} {M : Mem} {r c : Nat} {x : Int32} (g0 : M 140 0 = nI r) (g1 : M 140 1 = nI c) (hr8 : r ≤ 8) (hc8 : c ≤ 8) (hr1 : 1 ≤ r) (hc1 : 1 ≤ c)  : Ct l G b0 yX10_isLine cX10_isLine 2 (some .boolean) (rmZ 1 23) LAY LAY M [.ref (b0 + 140), .int x] (fun v M' => M' = M ∧ v = bI (0 ≤ x ∧ x < nI (r + c))) := by
  refine Ct.of [some (.ref (b0 + 140)), some (.int x)] (by decide) (Nat.le_of_ble_eq_true rfl) rfl rfl ?_
  refine S_aload_0 (q := 1) dX10_isLine_0 rfl ?_
  refine S_iload_1 (q := 2) dX10_isLine_1 rfl ?_
  refine S_iconst (q := 3) (nI 0) dX10_isLine_2 (by decide) rfl ?_
  refine S_aload_0 (q := 4) dX10_isLine_3 rfl ?_
  refine S_callV0i (q := 7) dX10_isLine_4 lk_X10_168 (by first | assumption | rfl) rfl rfl (k_X10_lines g0 g1) rfl rfl (Nat.le_of_ble_eq_true rfl) ⟨Nat.le_of_ble_eq_true rfl, Nat.le_of_ble_eq_true rfl⟩ ⟨Nat.le_of_ble_eq_true rfl, Nat.le_of_ble_eq_true rfl⟩ rfl (fun v4 M4 hv4 => ?_)
  obtain ⟨e4, rfl⟩ := hv4
  rw [e4]
  refine S_iconst (q := 8) (nI 1) dX10_isLine_7 (by decide) rfl ?_
  refine S_isub (q := 9) dX10_isLine_8 rfl ?_
  refine S_callV3i (q := 12) dX10_isLine_9 lk_X10_172 (by first | assumption | rfl) rfl rfl (k_X10_within) rfl rfl (Nat.le_of_ble_eq_true rfl) ⟨Nat.le_of_ble_eq_true rfl, Nat.le_of_ble_eq_true rfl⟩ ⟨Nat.le_of_ble_eq_true rfl, Nat.le_of_ble_eq_true rfl⟩ rfl (fun v9 M9 hv9 => ?_)
  obtain ⟨e9, rfl⟩ := hv9
  rw [e9]
  exact S_iret rfl dX10_isLine_12 bI_nar rfl (⟨rfl, bI_c (ix_iw (by omega))⟩)
set_option maxHeartbeats 4000000 in
set_option maxRecDepth 100000 in
theorem k_X10_isCell {l : Launch} {G : Gd} {b0 : Nat} {M : Mem} {r c : Nat} {x z : Int32} (g0 : M 140 0 = nI r) (g1 : M 140 1 = nI c) (hr8 : r ≤ 8) (hc8 : c ≤ 8) (hr1 : 1 ≤ r) (hc1 : 1 ≤ c)  : Ct l G b0 yX10_isCell cX10_isCell 3 (some .boolean) (rmZ 1 23) LAY LAY M [.ref (b0 + 140), .int x, .int z] (fun v M' => M' = M ∧ v = bI ((0 ≤ x ∧ x < nI r) ∧ (0 ≤ z ∧ z < nI c))) := by
  refine Ct.of [some (.ref (b0 + 140)), some (.int x), some (.int z)] (by decide) (Nat.le_of_ble_eq_true rfl) rfl rfl ?_
  refine S_aload_0 (q := 1) dX10_isCell_0 rfl ?_
  refine S_iload_1 (q := 2) dX10_isCell_1 rfl ?_
  refine S_iconst (q := 3) (nI 0) dX10_isCell_2 (by decide) rfl ?_
  refine S_aload_0 (q := 4) dX10_isCell_3 rfl ?_
  refine S_getI (q := 7) dX10_isCell_4 fl_X10_7 (by first | assumption | rfl) (by rfl) rfl ?_
  rw [g0]
  refine S_iconst (q := 8) (nI 1) dX10_isCell_7 (by decide) rfl ?_
  refine S_isub (q := 9) dX10_isCell_8 rfl ?_
  refine S_callV3i (q := 12) dX10_isCell_9 lk_X10_172 (by first | assumption | rfl) rfl rfl (k_X10_within) rfl rfl (Nat.le_of_ble_eq_true rfl) ⟨Nat.le_of_ble_eq_true rfl, Nat.le_of_ble_eq_true rfl⟩ ⟨Nat.le_of_ble_eq_true rfl, Nat.le_of_ble_eq_true rfl⟩ rfl (fun v9 M9 hv9 => ?_)
  obtain ⟨e9, rfl⟩ := hv9
  rw [e9]
  refine S_if_eq (t := 34) (q := 15) dX10_isCell_12 (by decide) rfl (fun hb12 => ?_) (fun hb12 => ?_)
  · have h1 := fun y => bI_0.mp hb12 ((ix_iw (by omega)).mpr y)
    refine S_iconst (q := 35) (nI 0) dX10_isCell_34 (by decide) rfl ?_
    exact S_iret rfl dX10_isCell_35 (by rfl) rfl (⟨rfl, (bI_f (fun y => h1 y.1)).symm⟩)
  · have h1 := (ix_iw (by omega)).mp (bI_n.mp hb12)
    refine S_aload_0 (q := 16) dX10_isCell_15 rfl ?_
    refine S_iload_2 (q := 17) dX10_isCell_16 rfl ?_
    refine S_iconst (q := 18) (nI 0) dX10_isCell_17 (by decide) rfl ?_
    refine S_aload_0 (q := 19) dX10_isCell_18 rfl ?_
    refine S_getI (q := 22) dX10_isCell_19 fl_X10_13 (by first | assumption | rfl) (by rfl) rfl ?_
    rw [g1]
    refine S_iconst (q := 23) (nI 1) dX10_isCell_22 (by decide) rfl ?_
    refine S_isub (q := 24) dX10_isCell_23 rfl ?_
    refine S_callV3i (q := 27) dX10_isCell_24 lk_X10_172 (by first | assumption | rfl) rfl rfl (k_X10_within) rfl rfl (Nat.le_of_ble_eq_true rfl) ⟨Nat.le_of_ble_eq_true rfl, Nat.le_of_ble_eq_true rfl⟩ ⟨Nat.le_of_ble_eq_true rfl, Nat.le_of_ble_eq_true rfl⟩ rfl (fun v24 M24 hv24 => ?_)
    obtain ⟨e24, rfl⟩ := hv24
    rw [e24]
    refine S_if_eq (t := 34) (q := 30) dX10_isCell_27 (by decide) rfl (fun hb27 => ?_) (fun hb27 => ?_)
    · have h2 := fun y => bI_0.mp hb27 ((ix_iw (by omega)).mpr y)
      refine S_iconst (q := 35) (nI 0) dX10_isCell_34 (by decide) rfl ?_
      exact S_iret rfl dX10_isCell_35 (by rfl) rfl (⟨rfl, (bI_f (fun y => h2 y.2)).symm⟩)
    · have h2 := (ix_iw (by omega)).mp (bI_n.mp hb27)
      refine S_iconst (q := 31) (nI 1) dX10_isCell_30 (by decide) rfl ?_
      refine S_goto (t := 35) dX10_isCell_31 (by decide) ?_
      exact S_iret rfl dX10_isCell_35 (by rfl) rfl (⟨rfl, (bI_t ⟨h1, h2⟩).symm⟩)
set_option maxHeartbeats 4000000 in
set_option maxRecDepth 100000 in
theorem k_X10_isColor {l : Launch} {G : Gd} {b0 : Nat} {M : Mem} {k : Nat} {x : Int32} (g2 : M 140 2 = nI k) : Ct l G b0 yX10_isColor cX10_isColor 2 (some .boolean) (rmZ 1 23) LAY LAY M [.ref (b0 + 140), .int x] (fun v M' => M' = M ∧ v = bI (nI 0 ≤ x ∧ x ≤ nI k)) := by
  refine Ct.of [some (.ref (b0 + 140)), some (.int x)] (by decide) (Nat.le_of_ble_eq_true rfl) rfl rfl ?_
  refine S_aload_0 (q := 1) dX10_isColor_0 rfl ?_
  refine S_iload_1 (q := 2) dX10_isColor_1 rfl ?_
  refine S_iconst (q := 3) (nI 0) dX10_isColor_2 (by decide) rfl ?_
  refine S_aload_0 (q := 4) dX10_isColor_3 rfl ?_
  refine S_getI (q := 7) dX10_isColor_4 fl_X10_16 (by first | assumption | rfl) (by rfl) rfl ?_
  rw [g2]
  refine S_callV3i (q := 10) dX10_isColor_7 lk_X10_172 (by first | assumption | rfl) rfl rfl (k_X10_within) rfl rfl (Nat.le_of_ble_eq_true rfl) ⟨Nat.le_of_ble_eq_true rfl, Nat.le_of_ble_eq_true rfl⟩ ⟨Nat.le_of_ble_eq_true rfl, Nat.le_of_ble_eq_true rfl⟩ rfl (fun v7 M7 hv7 => ?_)
  obtain ⟨e7, rfl⟩ := hv7
  rw [e7]
  exact S_iret rfl dX10_isColor_10 bI_nar rfl (⟨rfl, rfl⟩)
set_option maxHeartbeats 4000000 in
set_option maxRecDepth 100000 in
theorem k_X10_size {l : Launch} {G : Gd} {b0 : Nat} {M : Mem} {r c i : Nat} (g0 : M 140 0 = nI r) (g1 : M 140 1 = nI c) (hr8 : r ≤ 8) (hc8 : c ≤ 8) (hr1 : 1 ≤ r) (hc1 : 1 ≤ c) (hi : i < 16) : Ct l G b0 yX10_size cX10_size 2 (some .int) (rmZ 0 0) LAY LAY M [.ref (b0 + 140), .int (nI i)] (fun v M' => M' = M ∧ v = nI (lnLen r c i)) := by
  refine Ct.of [some (.ref (b0 + 140)), some (.int (nI i))] (by decide) (Nat.le_of_ble_eq_true rfl) rfl rfl ?_
  refine S_iload_1 (q := 1) dX10_size_0 rfl ?_
  refine S_aload_0 (q := 2) dX10_size_1 rfl ?_
  refine S_getI (q := 5) dX10_size_2 fl_X10_7 (by first | assumption | rfl) (by rfl) rfl ?_
  rw [g0]
  refine S_icmp_ge (t := 15) (q := 8) dX10_size_5 (by decide) rfl (fun hb5 => ?_) (fun hb5 => ?_)
  · have h : ¬ i < r := fun y => nI_ge y (by omega) hb5
    refine S_aload_0 (q := 16) dX10_size_15 rfl ?_
    refine S_getI (q := 19) dX10_size_16 fl_X10_7 (by first | assumption | rfl) (by rfl) rfl ?_
    exact S_iret rfl dX10_size_19 rfl rfl (⟨rfl, by unfold lnLen; rw [if_neg h, g0]⟩)
  · have h : i < r := Nat.lt_of_not_le (fun y => hb5 ((nI_leI (by omega) (by omega)).mpr y))
    refine S_aload_0 (q := 9) dX10_size_8 rfl ?_
    refine S_getI (q := 12) dX10_size_9 fl_X10_13 (by first | assumption | rfl) (by rfl) rfl ?_
    refine S_goto (t := 19) dX10_size_12 (by decide) ?_
    exact S_iret rfl dX10_size_19 rfl rfl (⟨rfl, by unfold lnLen; rw [if_pos h, g1]⟩)
set_option maxHeartbeats 4000000 in
set_option maxRecDepth 100000 in
theorem k_X10_cellOf {l : Launch} {G : Gd} {b0 : Nat} {M : Mem} {r c i q : Nat} (g0 : M 140 0 = nI r) (g1 : M 140 1 = nI c) (hr8 : r ≤ 8) (hc8 : c ≤ 8) (hr1 : 1 ≤ r) (hc1 : 1 ≤ c) (hi : i < 16) : Ct l G b0 yX10_cellOf cX10_cellOf 3 (some .int) (rmZ 0 0) LAY LAY M [.ref (b0 + 140), .int (nI i), .int (nI q)] (fun v M' => M' = M ∧ v = nI (lnG r c i q)) := by
  refine Ct.of [some (.ref (b0 + 140)), some (.int (nI i)), some (.int (nI q))] (by decide) (Nat.le_of_ble_eq_true rfl) rfl rfl ?_
  refine S_iload_1 (q := 1) dX10_cellOf_0 rfl ?_
  refine S_aload_0 (q := 2) dX10_cellOf_1 rfl ?_
  refine S_getI (q := 5) dX10_cellOf_2 fl_X10_7 (by first | assumption | rfl) (by rfl) rfl ?_
  rw [g0]
  refine S_icmp_ge (t := 17) (q := 8) dX10_cellOf_5 (by decide) rfl (fun hb5 => ?_) (fun hb5 => ?_)
  · have h : ¬ i < r := fun y => nI_ge y (by omega) hb5
    refine S_bipush (q := 19) (nI 8) dX10_cellOf_17 (by decide) rfl ?_
    refine S_iload_2 (q := 20) dX10_cellOf_19 rfl ?_
    refine S_imul (q := 21) dX10_cellOf_20 rfl ?_
    refine S_iload_1 (q := 22) dX10_cellOf_21 rfl ?_
    refine S_iadd (q := 23) dX10_cellOf_22 rfl ?_
    refine S_aload_0 (q := 24) dX10_cellOf_23 rfl ?_
    refine S_getI (q := 27) dX10_cellOf_24 fl_X10_7 (by first | assumption | rfl) (by rfl) rfl ?_
    refine S_isub (q := 28) dX10_cellOf_27 rfl ?_
    exact S_iret rfl dX10_cellOf_28 rfl rfl (⟨rfl, by unfold lnG; rw [if_neg h, g0, pk_mul, nI_add, pk_sub (by omega)]; exact congrArg nI (by omega)⟩)
  · have h : i < r := Nat.lt_of_not_le (fun y => hb5 ((nI_leI (by omega) (by omega)).mpr y))
    refine S_bipush (q := 10) (nI 8) dX10_cellOf_8 (by decide) rfl ?_
    refine S_iload_1 (q := 11) dX10_cellOf_10 rfl ?_
    refine S_imul (q := 12) dX10_cellOf_11 rfl ?_
    refine S_iload_2 (q := 13) dX10_cellOf_12 rfl ?_
    refine S_iadd (q := 14) dX10_cellOf_13 rfl ?_
    refine S_goto (t := 28) dX10_cellOf_14 (by decide) ?_
    exact S_iret rfl dX10_cellOf_28 rfl rfl (⟨rfl, by unfold lnG; rw [if_pos h, pk_mul, nI_add]⟩)
set_option maxHeartbeats 4000000 in
set_option maxRecDepth 100000 in
theorem k_X10_ones {l : Launch} {G : Gd} {b0 : Nat} {M : Mem} {m0 : Nat} (hm : m0 < 16) : Ct l G b0 yX10_ones cX10_ones 4 (some .int) (rmZ 0 0) LAY LAY M [.ref (b0 + 140), .int (nI m0)] (fun v M' => M' = M ∧ v = nI (pc4 m0)) := by
  refine Ct.of [some (.ref (b0 + 140)), some (.int (nI m0)), none, none] (by decide) (Nat.le_of_ble_eq_true rfl) rfl rfl ?_
  refine S_iconst (q := 1) (nI 0) dX10_ones_0 (by decide) rfl ?_
  refine S_istore_2 (q := 2) dX10_ones_1 rfl ?_
  refine S_iload_1 (q := 3) dX10_ones_2 rfl ?_
  refine S_istore_3 (q := 4) dX10_ones_3 rfl ?_
  suffices H : ∀ m, m < 16 → ∀ n, n + pc4 m = pc4 m0 → S l G b0 yX10_ones cX10_ones 4 (some .int) (rmZ 0 0) LAY (fun v M' => M' = M ∧ v = nI (pc4 m0)) 0 0 0 0 LAY 4 [some (.ref (b0 + 140)), some (.int (nI m0)), some (.int (nI n)), some (.int (nI m))] [] M from H m0 hm 0 (Nat.zero_add _)
  intro m
  induction m using Nat.strongRecOn with
  | ind m ih =>
    intro hm n hn
    refine S_iload_3 (q := 5) dX10_ones_4 rfl ?_
    refine S_if_eq (t := 20) (q := 8) dX10_ones_5 (by decide) rfl (fun hb5 => ?_) (fun hb5 => ?_)
    · have h0 : m = 0 := nI_inj (by omega) (by decide) hb5
      subst h0
      refine S_iload_2 (q := 21) dX10_ones_20 rfl ?_
      exact S_iret rfl dX10_ones_21 rfl rfl (⟨rfl, by rw [← hn]; rfl⟩)
    · have h0 : 0 < m := Nat.pos_of_ne_zero (fun e => hb5 (by rw [e]; rfl))
      obtain ⟨o1, o2, o3⟩ := ones_s m hm h0
      refine S_iinc_2 (q := 11) (nI (n + 1)) dX10_ones_8 (inc1 _) rfl ?_
      refine S_iload_3 (q := 12) dX10_ones_11 rfl ?_
      refine S_iload_3 (q := 13) dX10_ones_12 rfl ?_
      refine S_iconst (q := 14) (nI 1) dX10_ones_13 (by decide) rfl ?_
      refine S_isub (q := 15) dX10_ones_14 rfl ?_
      refine S_iand (q := 16) dX10_ones_15 rfl ?_
      rw [o1]
      refine S_istore_3 (q := 17) dX10_ones_16 rfl ?_
      refine S_goto (t := 4) dX10_ones_17 (by decide) ?_
      exact ih _ o2 (by omega) (n + 1) (by omega)
set_option maxHeartbeats 4000000 in
set_option maxRecDepth 100000 in
theorem k_X10_isDecided {l : Launch} {G : Gd} {b0 : Nat} {M : Mem} {x m : Nat} (hx : x < 4160) (hm : M 141 x = nI m) (hm1 : 1 ≤ m) (hm16 : m < 16) : Ct l G b0 yX10_isDecided cX10_isDecided 2 (some .boolean) (rmZ 0 0) LAY LAY M [.ref (b0 + 140), .int (nI x)] (fun v M' => M' = M ∧ v = bI (pc4 m = 1)) := by
  refine Ct.of [some (.ref (b0 + 140)), some (.int (nI x))] (by decide) (Nat.le_of_ble_eq_true rfl) rfl rfl ?_
  refine S_aload_0 (q := 1) dX10_isDecided_0 rfl ?_
  refine S_getR (q := 4) dX10_isDecided_1 fl_X10_22 (by first | assumption | rfl) (by rfl) rfl ?_
  refine S_iload_1 (q := 5) dX10_isDecided_4 rfl ?_
  refine S_ialdV (i := x) (val := nI m) (q := 6) dX10_isDecided_5 (by first | assumption | rfl) (by first | (simp only [nI_add, pk_mul, nI_1]; done) | rfl) hx (by decide) hm rfl ?_
  refine S_aload_0 (q := 7) dX10_isDecided_6 rfl ?_
  refine S_getR (q := 10) dX10_isDecided_7 fl_X10_22 (by first | assumption | rfl) (by rfl) rfl ?_
  refine S_iload_1 (q := 11) dX10_isDecided_10 rfl ?_
  refine S_ialdV (i := x) (val := nI m) (q := 12) dX10_isDecided_11 (by first | assumption | rfl) (by first | (simp only [nI_add, pk_mul, nI_1]; done) | rfl) hx (by decide) hm rfl ?_
  refine S_iconst (q := 13) (nI 1) dX10_isDecided_12 (by decide) rfl ?_
  refine S_isub (q := 14) dX10_isDecided_13 rfl ?_
  refine S_iand (q := 15) dX10_isDecided_14 rfl ?_
  refine S_if_ne (t := 22) (q := 18) dX10_isDecided_15 (by decide) rfl (fun hb15 => ?_) (fun hb15 => ?_)
  · have h : ¬ pc4 m = 1 := fun y => hb15 ((dec_s m hm16 hm1).mpr y)
    refine S_iconst (q := 23) (nI 0) dX10_isDecided_22 (by decide) rfl ?_
    exact S_iret rfl dX10_isDecided_23 (by rfl) rfl (⟨rfl, (bI_f h).symm⟩)
  · have h : pc4 m = 1 := (dec_s m hm16 hm1).mp hb15
    refine S_iconst (q := 19) (nI 1) dX10_isDecided_18 (by decide) rfl ?_
    refine S_goto (t := 23) dX10_isDecided_19 (by decide) ?_
    exact S_iret rfl dX10_isDecided_23 (by rfl) rfl (⟨rfl, (bI_t h).symm⟩)
set_option maxHeartbeats 4000000 in
set_option maxRecDepth 100000 in
theorem k_X10_colorAt {l : Launch} {G : Gd} {b0 : Nat} {M : Mem} {x m : Nat} (hx : x < 4160) (hm : M 141 x = nI m) (hpd : pc4 m = 1) (hm16 : m < 16) : Ct l G b0 yX10_colorAt cX10_colorAt 3 (some .int) (rmZ 0 0) LAY LAY M [.ref (b0 + 140), .int (nI x)] (fun v M' => M' = M ∧ v = nI (clo m)) := by
  refine Ct.of [some (.ref (b0 + 140)), some (.int (nI x)), none] (by decide) (Nat.le_of_ble_eq_true rfl) rfl rfl ?_
  refine S_iconst (q := 1) (nI 0) dX10_colorAt_0 (by decide) rfl ?_
  refine S_istore_2 (q := 2) dX10_colorAt_1 rfl ?_
  suffices H : ∀ (d : Nat) (i : Nat), (clo m) - i = d → i ≤ (clo m) → S l G b0 yX10_colorAt cX10_colorAt 3 (some .int) (rmZ 0 0) LAY (fun v M' => M' = M ∧ v = nI (clo m)) 0 0 0 0 LAY 2 [some (.ref (b0 + 140)), some (.int (nI x)), some (.int (nI (i)))] [] M from H _ 0 rfl (by omega)
  intro d
  induction d with
  | zero =>
    intro i hd hi
    have e : (clo m) = i := by omega
    subst e
    refine S_aload_0 (q := 3) dX10_colorAt_2 rfl ?_
    refine S_getR (q := 6) dX10_colorAt_3 fl_X10_22 (by first | assumption | rfl) (by rfl) rfl ?_
    refine S_iload_1 (q := 7) dX10_colorAt_6 rfl ?_
    refine S_ialdV (i := x) (val := nI m) (q := 8) dX10_colorAt_7 (by first | assumption | rfl) (by first | (simp only [nI_add, pk_mul, nI_1]; done) | rfl) hx (by decide) hm rfl ?_
    refine S_iload_2 (q := 9) dX10_colorAt_8 rfl ?_
    refine S_ishr (q := 10) dX10_colorAt_9 rfl ?_
    refine S_iconst (q := 11) (nI 1) dX10_colorAt_10 (by decide) rfl ?_
    refine S_icmp_eq (t := 20) (q := 14) dX10_colorAt_11 (by decide) rfl (fun hb11 => ?_) (fun hb11 => ?_)
    · refine S_iload_2 (q := 21) dX10_colorAt_20 rfl ?_
      exact S_iret rfl dX10_colorAt_21 rfl rfl (⟨rfl, rfl⟩)
    · exact absurd ((clo_s m hm16 hpd _ (Nat.le_refl _)).mpr rfl) hb11
  | succ d ih =>
    intro i hd hi
    have hlt : i < (clo m) := by omega
    refine S_aload_0 (q := 3) dX10_colorAt_2 rfl ?_
    refine S_getR (q := 6) dX10_colorAt_3 fl_X10_22 (by first | assumption | rfl) (by rfl) rfl ?_
    refine S_iload_1 (q := 7) dX10_colorAt_6 rfl ?_
    refine S_ialdV (i := x) (val := nI m) (q := 8) dX10_colorAt_7 (by first | assumption | rfl) (by first | (simp only [nI_add, pk_mul, nI_1]; done) | rfl) hx (by decide) hm rfl ?_
    refine S_iload_2 (q := 9) dX10_colorAt_8 rfl ?_
    refine S_ishr (q := 10) dX10_colorAt_9 rfl ?_
    refine S_iconst (q := 11) (nI 1) dX10_colorAt_10 (by decide) rfl ?_
    refine S_icmp_eq (t := 20) (q := 14) dX10_colorAt_11 (by decide) rfl (fun hb11 => ?_) (fun hb11 => ?_)
    · exact absurd ((clo_s m hm16 hpd i (by omega)).mp hb11) (by omega)
    · refine S_iinc_2 (q := 17) (nI (i + 1)) dX10_colorAt_14 (inc1 _) rfl ?_
      refine S_goto (t := 2) dX10_colorAt_17 (by decide) ?_
      exact ih (i + 1) (by omega) hlt
set_option maxHeartbeats 4000000 in
set_option maxRecDepth 100000 in
theorem k_X10_copy {l : Launch} {G : Gd} {b0 : Nat} {M : Mem} {s t : Nat} (hs : s + 64 ≤ 4160) (ht : t + 64 ≤ 4160) (hst : s + 64 ≤ t ∨ t + 64 ≤ s) : Ct l G b0 yX10_copy cX10_copy 4 none (rmZ 0 0) LAY LAY M [.ref (b0 + 140), .int (nI s), .int (nI t)] (fun v M' => (∀ a, a ≠ 141 → M' a = M a) ∧ (∀ x, (x < t ∨ t + 64 ≤ x) → M' 141 x = M 141 x) ∧ ∀ x, x < 64 → M' 141 (t + x) = M 141 (s + x)) := by
  refine Ct.of [some (.ref (b0 + 140)), some (.int (nI s)), some (.int (nI t)), none] (by decide) (Nat.le_of_ble_eq_true rfl) rfl rfl ?_
  refine S_iconst (q := 1) (nI 0) dX10_copy_0 (by decide) rfl ?_
  refine S_istore_3 (q := 2) dX10_copy_1 rfl ?_
  suffices H : ∀ (d : Nat) (i : Nat) (M1 : Mem), 64 - i = d → i ≤ 64 → ((∀ a, a ≠ 141 → M1 a = M a) ∧ (∀ x, (x < t ∨ t + 64 ≤ x) → M1 141 x = M 141 x) ∧ ∀ x, x < i → M1 141 (t + x) = M 141 (s + x)) → S l G b0 yX10_copy cX10_copy 4 none (rmZ 0 0) LAY (fun v M' => (∀ a, a ≠ 141 → M' a = M a) ∧ (∀ x, (x < t ∨ t + 64 ≤ x) → M' 141 x = M 141 x) ∧ ∀ x, x < 64 → M' 141 (t + x) = M 141 (s + x)) 0 0 0 0 LAY 2 [some (.ref (b0 + 140)), some (.int (nI s)), some (.int (nI t)), some (.int (nI (i)))] [] M1 from H _ 0 _ rfl (by omega) ⟨fun _ _ => rfl, fun _ _ => rfl, fun x hx => absurd hx (Nat.not_lt_zero x)⟩
  intro d
  induction d with
  | zero =>
    intro i M1 hd hi hI
    have e : 64 = i := by omega
    subst e
    refine S_iload_3 (q := 3) dX10_copy_2 rfl ?_
    refine S_bipush (q := 5) (nI 64) dX10_copy_3 (by decide) rfl ?_
    refine S_icmp_ge (t := 30) (q := 8) dX10_copy_5 (by decide) rfl (fun hb5 => ?_) (fun hb5 => ?_)
    · exact S_ret (v := 0) rfl dX10_copy_30 rfl (hI)
    · exact absurd (Int32.le_refl _) hb5
  | succ d ih =>
    intro i M1 hd hi hI
    have hlt : i < 64 := by omega
    refine S_iload_3 (q := 3) dX10_copy_2 rfl ?_
    refine S_bipush (q := 5) (nI 64) dX10_copy_3 (by decide) rfl ?_
    refine S_icmp_ge (t := 30) (q := 8) dX10_copy_5 (by decide) rfl (fun hb5 => ?_) (fun hb5 => ?_)
    · exact absurd hb5 (nI_ge hlt (by omega))
    · refine S_aload_0 (q := 9) dX10_copy_8 rfl ?_
      refine S_getR (q := 12) dX10_copy_9 fl_X10_22 (by first | assumption | rfl) (by rfl) rfl ?_
      refine S_iload_2 (q := 13) dX10_copy_12 rfl ?_
      refine S_iload_3 (q := 14) dX10_copy_13 rfl ?_
      refine S_iadd (q := 15) dX10_copy_14 rfl ?_
      refine S_aload_0 (q := 16) dX10_copy_15 rfl ?_
      refine S_getR (q := 19) dX10_copy_16 fl_X10_22 (by first | assumption | rfl) (by rfl) rfl ?_
      refine S_iload_1 (q := 20) dX10_copy_19 rfl ?_
      refine S_iload_3 (q := 21) dX10_copy_20 rfl ?_
      refine S_iadd (q := 22) dX10_copy_21 rfl ?_
      refine S_ialdE (i := s + i) (q := 23) dX10_copy_22 (by first | assumption | rfl) (by first | (simp only [nI_add, pk_mul, nI_1]; done) | rfl) (by omega) (by decide) rfl ?_
      refine S_iastE (i := t + i) (q := 24) dX10_copy_23 (by first | assumption | rfl) (by first | (simp only [nI_add, pk_mul, nI_1]; done) | rfl) (by omega) (by decide) rfl ?_
      refine S_iinc_3 (q := 27) (nI (i + 1)) dX10_copy_24 (inc1 _) rfl ?_
      refine S_goto (t := 2) dX10_copy_27 (by decide) ?_
      exact ih (i + 1) _ (by omega) hlt ⟨fun a ha => by rw [up_n ha]; exact hI.1 a ha, fun x hx => by rw [up_eq, if_neg (by omega)]; exact hI.2.1 x hx, fun x hx => by
        rw [up_eq]
        by_cases e : x = i
        · rw [if_pos ⟨rfl, by omega⟩, e]; exact hI.2.1 _ (by omega)
        · rw [if_neg (by omega)]; exact hI.2.2 x (by omega)⟩
theorem opn_s : ∀ k, k ≤ 3 → (nI 2 <<< (nI k &&& 31)) - nI 1 = nI (2 ^ (k + 1) - 1) := by
  intro k hk
  rcases (show k = 0 ∨ k = 1 ∨ k = 2 ∨ k = 3 by omega) with rfl | rfl | rfl | rfl <;> decide
set_option maxHeartbeats 4000000 in
set_option maxRecDepth 100000 in
theorem k_X10_open {l : Launch} {G : Gd} {b0 : Nat} {M : Mem} {k : Nat} (g2 : M 140 2 = nI k) (hk3 : k ≤ 3) : Ct l G b0 yX10_open cX10_open 2 none (rmZ 0 0) LAY LAY M [.ref (b0 + 140)] (fun v M' => (∀ a, a ≠ 141 → M' a = M a) ∧ (∀ x, 64 ≤ x → M' 141 x = M 141 x) ∧ ∀ x, x < 64 → M' 141 x = nI (2 ^ (k + 1) - 1)) := by
  refine Ct.of [some (.ref (b0 + 140)), none] (by decide) (Nat.le_of_ble_eq_true rfl) rfl rfl ?_
  refine S_iconst (q := 1) (nI 0) dX10_open_0 (by decide) rfl ?_
  refine S_istore_1 (q := 2) dX10_open_1 rfl ?_
  suffices H : ∀ (d : Nat) (i : Nat) (M1 : Mem), 64 - i = d → i ≤ 64 → ((∀ a, a ≠ 141 → M1 a = M a) ∧ (∀ x, 64 ≤ x → M1 141 x = M 141 x) ∧ ∀ x, x < i → M1 141 x = nI (2 ^ (k + 1) - 1)) → S l G b0 yX10_open cX10_open 2 none (rmZ 0 0) LAY (fun v M' => (∀ a, a ≠ 141 → M' a = M a) ∧ (∀ x, 64 ≤ x → M' 141 x = M 141 x) ∧ ∀ x, x < 64 → M' 141 x = nI (2 ^ (k + 1) - 1)) 0 0 0 0 LAY 2 [some (.ref (b0 + 140)), some (.int (nI (i)))] [] M1 from H _ 0 _ rfl (by omega) ⟨fun _ _ => rfl, fun _ _ => rfl, fun x hx => absurd hx (Nat.not_lt_zero x)⟩
  intro d
  induction d with
  | zero =>
    intro i M1 hd hi hI
    have e : 64 = i := by omega
    subst e
    refine S_iload_1 (q := 3) dX10_open_2 rfl ?_
    refine S_bipush (q := 5) (nI 64) dX10_open_3 (by decide) rfl ?_
    refine S_icmp_ge (t := 28) (q := 8) dX10_open_5 (by decide) rfl (fun hb5 => ?_) (fun hb5 => ?_)
    · exact S_ret (v := 0) rfl dX10_open_28 rfl (hI)
    · exact absurd (Int32.le_refl _) hb5
  | succ d ih =>
    intro i M1 hd hi hI
    have hlt : i < 64 := by omega
    refine S_iload_1 (q := 3) dX10_open_2 rfl ?_
    refine S_bipush (q := 5) (nI 64) dX10_open_3 (by decide) rfl ?_
    refine S_icmp_ge (t := 28) (q := 8) dX10_open_5 (by decide) rfl (fun hb5 => ?_) (fun hb5 => ?_)
    · exact absurd hb5 (nI_ge hlt (by omega))
    · refine S_aload_0 (q := 9) dX10_open_8 rfl ?_
      refine S_getR (q := 12) dX10_open_9 fl_X10_22 (by first | assumption | rfl) (by rfl) rfl ?_
      refine S_iload_1 (q := 13) dX10_open_12 rfl ?_
      refine S_iconst (q := 14) (nI 2) dX10_open_13 (by decide) rfl ?_
      refine S_aload_0 (q := 15) dX10_open_14 rfl ?_
      refine S_getI (q := 18) dX10_open_15 fl_X10_16 (by first | assumption | rfl) (by rfl) rfl ?_
      rw [hI.1 140 (by omega), g2]
      refine S_ishl (q := 19) dX10_open_18 rfl ?_
      refine S_iconst (q := 20) (nI 1) dX10_open_19 (by decide) rfl ?_
      refine S_isub (q := 21) dX10_open_20 rfl ?_
      rw [opn_s k hk3]
      refine S_iastE (i := i) (q := 22) dX10_open_21 (by first | assumption | rfl) (by first | (simp only [nI_add, pk_mul, nI_1]; done) | rfl) (by omega) (by decide) rfl ?_
      refine S_iinc_1 (q := 25) (nI (i + 1)) dX10_open_22 (inc1 _) rfl ?_
      refine S_goto (t := 2) dX10_open_25 (by decide) ?_
      exact ih (i + 1) _ (by omega) hlt ⟨fun a ha => by rw [up_n ha]; exact hI.1 a ha, fun x hx => by rw [up_eq, if_neg (by omega)]; exact hI.2.1 x hx, fun x hx => by
        rw [up_eq]
        by_cases e : x = i
        · rw [if_pos ⟨rfl, e⟩]
        · rw [if_neg (by omega)]; exact hI.2.2 x (by omega)⟩
set_option maxHeartbeats 4000000 in
set_option maxRecDepth 100000 in
theorem q_decidedRow {l : Launch} {G : Gd} {b0 : Nat} {M : Mem} {Post : PT} {P : Pz} {f : Nat → Nat} {b i0 : Nat} (g0 : M 140 0 = nI P.r) (g1 : M 140 1 = nI P.c) (hP : P.ok) (hb : b + 64 ≤ 4160) (hce : RCE M b P f) (hi0 : i0 < P.r) (k : S l G b0 yX10_decidedIn cX10_decidedIn 5 (some .int) (rmZ 1 21) LAY Post 0 0 0 0 LAY 54 [some (.ref (b0 + 140)), some (.int (nI b)), some (.int (nI (sm (dc1 f) (i0 * P.c + P.c)))), some (.int (nI i0)), some (.int (nI P.c))] [] M) : S l G b0 yX10_decidedIn cX10_decidedIn 5 (some .int) (rmZ 1 21) LAY Post 0 0 0 0 LAY 15 [some (.ref (b0 + 140)), some (.int (nI b)), some (.int (nI (sm (dc1 f) (i0 * P.c + 0)))), some (.int (nI i0)), some (.int (nI 0))] [] M := by
  have hr8 := hP.r8
  have hc8 := hP.c8
  suffices H : ∀ (d : Nat) (i : Nat), P.c - i = d → i ≤ P.c → S l G b0 yX10_decidedIn cX10_decidedIn 5 (some .int) (rmZ 1 21) LAY Post 0 0 0 0 LAY 15 [some (.ref (b0 + 140)), some (.int (nI b)), some (.int (nI (sm (dc1 f) (i0 * P.c + (i))))), some (.int (nI i0)), some (.int (nI (i)))] [] M from H _ 0 rfl (by omega)
  intro d
  induction d with
  | zero =>
    intro i hd hi
    have e : P.c = i := by omega
    subst e
    refine S_iload_4 (q := 17) dX10_decidedIn_15 rfl ?_
    refine S_aload_0 (q := 18) dX10_decidedIn_17 rfl ?_
    refine S_getI (q := 21) dX10_decidedIn_18 fl_X10_13 (by first | assumption | rfl) (by rfl) rfl ?_
    rw [g1]
    refine S_icmp_ge (t := 54) (q := 24) dX10_decidedIn_21 (by decide) rfl (fun hb21 => ?_) (fun hb21 => ?_)
    · exact k
    · exact absurd (Int32.le_refl _) hb21
  | succ d ih =>
    intro i hd hi
    have hlt : i < P.c := by omega
    refine S_iload_4 (q := 17) dX10_decidedIn_15 rfl ?_
    refine S_aload_0 (q := 18) dX10_decidedIn_17 rfl ?_
    refine S_getI (q := 21) dX10_decidedIn_18 fl_X10_13 (by first | assumption | rfl) (by rfl) rfl ?_
    rw [g1]
    refine S_icmp_ge (t := 54) (q := 24) dX10_decidedIn_21 (by decide) rfl (fun hb21 => ?_) (fun hb21 => ?_)
    · exact absurd hb21 (nI_ge hlt (by omega))
    · refine S_iload_2 (q := 25) dX10_decidedIn_24 rfl ?_
      refine S_aload_0 (q := 26) dX10_decidedIn_25 rfl ?_
      refine S_iload_1 (q := 27) dX10_decidedIn_26 rfl ?_
      refine S_bipush (q := 29) (nI 8) dX10_decidedIn_27 (by decide) rfl ?_
      refine S_iload_3 (q := 30) dX10_decidedIn_29 rfl ?_
      refine S_imul (q := 31) dX10_decidedIn_30 rfl ?_
      refine S_iadd (q := 32) dX10_decidedIn_31 rfl ?_
      refine S_iload_4 (q := 34) dX10_decidedIn_32 rfl ?_
      refine S_iadd (q := 35) dX10_decidedIn_34 rfl ?_
      rw [pk_mul, nI_add, nI_add, Nat.add_assoc]
      refine S_callV1i (q := 38) dX10_decidedIn_35 lk_X10_198 (by first | assumption | rfl) rfl rfl (k_X10_isDecided (x := b + (8 * i0 + i)) (by omega) (hce.at hi0 hlt).1 (hce.at hi0 hlt).2.1 (hce.at hi0 hlt).2.2) rfl rfl (Nat.le_of_ble_eq_true rfl) ⟨Nat.le_of_ble_eq_true rfl, Nat.le_of_ble_eq_true rfl⟩ ⟨Nat.le_of_ble_eq_true rfl, Nat.le_of_ble_eq_true rfl⟩ rfl (fun v35 M35 hv35 => ?_)
      obtain ⟨e35, rfl⟩ := hv35
      rw [e35]
      refine S_if_eq (t := 45) (q := 41) dX10_decidedIn_38 (by decide) rfl (fun hb38 => ?_) (fun hb38 => ?_)
      · have hz : ¬ pc4 (f (i0 * P.c + i)) = 1 := bI_0.mp hb38
        have es : sm (dc1 f) (i0 * P.c + (i + 1)) = sm (dc1 f) (i0 * P.c + i) := by rw [← Nat.add_assoc, sm_s, dc1_0 hz]; rfl
        refine S_iconst (q := 46) (nI 0) dX10_decidedIn_45 (by decide) rfl ?_
        skip
        refine S_iadd (q := 47) dX10_decidedIn_46 rfl ?_
        refine S_istore_2 (q := 48) dX10_decidedIn_47 rfl ?_
        refine S_iinc_4 (q := 51) (nI (i + 1)) dX10_decidedIn_48 (inc1 _) rfl ?_
        refine S_goto (t := 15) dX10_decidedIn_51 (by decide) ?_
        rw [show nI (sm (dc1 f) (i0 * P.c + i)) + nI 0 = nI (sm (dc1 f) (i0 * P.c + i)) from nI_add _ 0, ← es]
        exact ih (i + 1) (by omega) hlt
      · have hz : pc4 (f (i0 * P.c + i)) = 1 := bI_n.mp hb38
        have es : sm (dc1 f) (i0 * P.c + (i + 1)) = sm (dc1 f) (i0 * P.c + i) + 1 := by rw [← Nat.add_assoc, sm_s, dc1_1 hz]
        refine S_iconst (q := 42) (nI 1) dX10_decidedIn_41 (by decide) rfl ?_
        refine S_goto (t := 46) dX10_decidedIn_42 (by decide) ?_
        skip
        refine S_iadd (q := 47) dX10_decidedIn_46 rfl ?_
        refine S_istore_2 (q := 48) dX10_decidedIn_47 rfl ?_
        refine S_iinc_4 (q := 51) (nI (i + 1)) dX10_decidedIn_48 (inc1 _) rfl ?_
        refine S_goto (t := 15) dX10_decidedIn_51 (by decide) ?_
        rw [nI_add, ← es]
        exact ih (i + 1) (by omega) hlt
set_option maxHeartbeats 4000000 in
set_option maxRecDepth 100000 in
theorem k_X10_decidedIn {l : Launch} {G : Gd} {b0 : Nat} {M : Mem} {P : Pz} {f : Nat → Nat} {b : Nat} (g0 : M 140 0 = nI P.r) (g1 : M 140 1 = nI P.c) (hP : P.ok) (hb : b + 64 ≤ 4160) (hce : RCE M b P f)  : Ct l G b0 yX10_decidedIn cX10_decidedIn 5 (some .int) (rmZ 1 21) LAY LAY M [.ref (b0 + 140), .int (nI b)] (fun v M' => M' = M ∧ v = nI (sm (dc1 f) (P.r * P.c))) := by
  have hr8 := hP.r8
  have hc8 := hP.c8
  refine Ct.of [some (.ref (b0 + 140)), some (.int (nI b)), none, none, none] (by decide) (Nat.le_of_ble_eq_true rfl) rfl rfl ?_
  refine S_iconst (q := 1) (nI 0) dX10_decidedIn_0 (by decide) rfl ?_
  refine S_istore_2 (q := 2) dX10_decidedIn_1 rfl ?_
  refine S_iconst (q := 3) (nI 0) dX10_decidedIn_2 (by decide) rfl ?_
  refine S_istore_3 (q := 4) dX10_decidedIn_3 rfl ?_
  suffices H : ∀ (d : Nat) (i : Nat), P.r - i = d → i ≤ P.r → S l G b0 yX10_decidedIn cX10_decidedIn 5 (some .int) (rmZ 1 21) LAY (fun v M' => M' = M ∧ v = nI (sm (dc1 f) (P.r * P.c))) 0 0 0 0 LAY 4 [some (.ref (b0 + 140)), some (.int (nI b)), some (.int (nI (sm (dc1 f) (P.c * (i))))), some (.int (nI (i))), none] [] M from H _ 0 rfl (by omega)
  intro d
  induction d with
  | zero =>
    intro i hd hi
    have e : P.r = i := by omega
    subst e
    refine S_iload_3 (q := 5) dX10_decidedIn_4 rfl ?_
    refine S_aload_0 (q := 6) dX10_decidedIn_5 rfl ?_
    refine S_getI (q := 9) dX10_decidedIn_6 fl_X10_7 (by first | assumption | rfl) (by rfl) rfl ?_
    rw [g0]
    refine S_icmp_ge (t := 60) (q := 12) dX10_decidedIn_9 (by decide) rfl (fun hb9 => ?_) (fun hb9 => ?_)
    · refine S_iload_2 (q := 61) dX10_decidedIn_60 rfl ?_
      exact S_iret rfl dX10_decidedIn_61 rfl rfl (⟨rfl, by rw [Nat.mul_comm]⟩)
    · exact absurd (Int32.le_refl _) hb9
  | succ d ih =>
    intro i hd hi
    have hlt : i < P.r := by omega
    refine S_iload_3 (q := 5) dX10_decidedIn_4 rfl ?_
    refine S_aload_0 (q := 6) dX10_decidedIn_5 rfl ?_
    refine S_getI (q := 9) dX10_decidedIn_6 fl_X10_7 (by first | assumption | rfl) (by rfl) rfl ?_
    rw [g0]
    refine S_icmp_ge (t := 60) (q := 12) dX10_decidedIn_9 (by decide) rfl (fun hb9 => ?_) (fun hb9 => ?_)
    · exact absurd hb9 (nI_ge hlt (by omega))
    · refine S_iconst (q := 13) (nI 0) dX10_decidedIn_12 (by decide) rfl ?_
      refine S_istore_4 (q := 15) dX10_decidedIn_13 rfl ?_
      rw [show P.c * i = i * P.c + 0 from Nat.mul_comm _ _]
      refine q_decidedRow g0 g1 hP hb hce hlt ?_
      refine S_iinc_3 (q := 57) (nI (i + 1)) dX10_decidedIn_54 (inc1 _) rfl ?_
      refine S_goto (t := 4) dX10_decidedIn_57 (by decide) ?_
      refine S_fgt4 ?_
      rw [show i * P.c + P.c = P.c * (i + 1) by rw [← Nat.succ_mul, Nat.mul_comm]]
      exact ih (i + 1) (by omega) hlt
