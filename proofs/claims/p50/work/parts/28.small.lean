/-- the cells that a clue needs -/
def ndL (R : Nat) (len col : Nat → Nat) (j : Nat) : Nat := sm (fun j => len j + (if gp R col j then 1 else 0)) j
/-- the history grows, to 8 -/
def cnt8 (n : Nat) : Nat := if n < 8 then n + 1 else 8
/-- History at 19 -/
def hst (j : Nat) : Nat := 21 + 6 * j
theorem hst_at : ∀ j, j < 8 → ([some 21, some 27, some 33, some 39, some 45, some 51, some 57, some 63] : List (Option Nat))[j]? = some (some (hst j)) := by decide
theorem hst_g {Z : Lay} : ∀ j, j < 8 → isG (LYZ Z) (hst j) := by
  intro j hj
  rcases (show j = 0 ∨ j = 1 ∨ j = 2 ∨ j = 3 ∨ j = 4 ∨ j = 5 ∨ j = 6 ∨ j = 7 by omega) with rfl | rfl | rfl | rfl | rfl | rfl | rfl | rfl
  · exact (gO_21 (Z := Z))
  · exact (gO_27 (Z := Z))
  · exact (gO_33 (Z := Z))
  · exact (gO_39 (Z := Z))
  · exact (gO_45 (Z := Z))
  · exact (gO_51 (Z := Z))
  · exact (gO_57 (Z := Z))
  · exact (gO_63 (Z := Z))
/-- a grid is copied -/
def CPY (M M1 : Mem) (d s : Nat) : Prop := (∀ j, j < 3 → M1 d j = M s j) ∧ (∀ j, j < 16 → M1 (d + 2) j = M (s + 2) j) ∧ (∀ j, j < 128 → M1 (d + 3) j = M (s + 3) j) ∧ (∀ j, j < 128 → M1 (d + 4) j = M (s + 4) j) ∧ ∀ j, j < 64 → M1 (d + 5) j = M (s + 5) j
def HK (lay : Lay) : Prop := lay[19]? = some (.inl (2, [some (some 20), none, none])) ∧ lay[20]? = some (.inr (.inr (0, [some 21, some 27, some 33, some 39, some 45, some 51, some 57, some 63])))
theorem HK_O {Z : Lay} : HK (LYZ Z) := ⟨rfl, rfl⟩
set_option maxHeartbeats 4000000 in
set_option maxRecDepth 100000 in
theorem k_X2_forget {Z : Lay} {l : Launch} {G : Gd} {b0 : Nat} {M : Mem}   : Ct l G b0 yX2_forget cX2_forget 1 none (rmZ 0 0) (LYZ Z) (LYZ Z) M [.ref (b0 + 19)] (fun v M' => M' = up M 19 2 (nI 0)) := by
  obtain ⟨hh0, hh1⟩ := (HK_O (Z := Z))
  refine Ct.of [some (.ref (b0 + 19))] (by decide) (Nat.le_of_ble_eq_true rfl) rfl rfl ?_
  refine S_aload_0 (q := 1) dX2_forget_0 rfl ?_
  refine S_iconst (q := 2) (nI 0) dX2_forget_1 (by decide) rfl ?_
  refine S_putI (q := 5) dX2_forget_2 fp_X2_21 (by first | assumption | rfl) (by rfl) rfl (by rfl) rfl ?_
  exact S_ret (v := 0) rfl dX2_forget_5 rfl rfl
set_option maxHeartbeats 4000000 in
set_option maxRecDepth 100000 in
theorem k_X2_push {Z : Lay} {l : Launch} {G : Gd} {b0 : Nat} {M : Mem} {g nx n : Nat} (hg : isG (LYZ Z) g) (hgs : g + 6 ≤ 19 ∨ 69 ≤ g) (hnx : M 19 1 = nI nx) (hx8 : nx < 8) (hn : M 19 2 = nI n) (hn8 : n ≤ 8)  : Ct l G b0 yX2_push cX2_push 2 none (rmZ 3 102) (LYZ Z) (LYZ Z) M [.ref (b0 + 19), .ref (b0 + g)] (fun v M' => (∀ a, (a < hst nx ∨ hst nx + 6 ≤ a) → a ≠ 19 → M' a = M a) ∧ CPY M M' (hst nx) g ∧ M' 19 1 = nI ((nx + 1) % 8) ∧ M' 19 2 = nI (cnt8 n)) := by
  obtain ⟨hh0, hh1⟩ := (HK_O (Z := Z))
  have hgx0 := ((hst_g (Z := Z)) nx hx8).1
  have hsx : hst nx = 21 + 6 * nx := rfl
  have hmin : (if nI 8 < nI (n + 1) then nI 8 else nI (n + 1)) = nI (cnt8 n) := by
    unfold cnt8
    by_cases h : n < 8
    · rw [if_pos h, if_neg (fun z => by have := (nI_ltI (by omega) (by omega)).mp z; omega)]
    · rw [if_neg h, if_pos ((nI_ltI (by omega) (by omega)).mpr (by omega))]
  refine Ct.of [some (.ref (b0 + 19)), some (.ref (b0 + g))] (by decide) (Nat.le_of_ble_eq_true rfl) rfl rfl ?_
  refine S_aload_0 (q := 1) dX2_push_0 rfl ?_
  refine S_getR (q := 4) dX2_push_1 fl_X2_11 (by first | assumption | rfl) (by rfl) rfl ?_
  refine S_aload_0 (q := 5) dX2_push_4 rfl ?_
  refine S_getI (q := 8) dX2_push_5 fl_X2_17 (by first | assumption | rfl) (by rfl) rfl ?_
  rw [hnx]
  refine S_aald (q := 9) dX2_push_8 (by first | assumption | rfl) (by decide) (by exact vp_in_nI (N := 8) hx8 (by decide)) (by rw [nI_clamp (by omega)]; exact hst_at nx hx8) rfl ?_
  refine S_aload_1 (q := 10) dX2_push_9 rfl ?_
  refine S_callV1v (q := 13) dX2_push_10 lk_X2_25 (by first | assumption | rfl) rfl rfl (k_X1_copyFrom ((hst_g (Z := Z)) nx hx8) hg (by omega)) rfl rfl (Nat.le_of_ble_eq_true rfl) ⟨Nat.le_of_ble_eq_true rfl, Nat.le_of_ble_eq_true rfl⟩ ⟨Nat.le_of_ble_eq_true rfl, Nat.le_of_ble_eq_true rfl⟩ rfl (fun v10 M10 hv10 => ?_)
  obtain ⟨k1, k2, k3, k4, k5, k6⟩ := hv10
  refine S_aload_0 (q := 14) dX2_push_13 rfl ?_
  refine S_aload_0 (q := 15) dX2_push_14 rfl ?_
  refine S_getI (q := 18) dX2_push_15 fl_X2_17 (by first | assumption | rfl) (by rfl) rfl ?_
  refine S_iconst (q := 19) (nI 1) dX2_push_18 (by decide) rfl ?_
  rw [k1 19 (by omega), hnx]
  refine S_iadd (q := 20) dX2_push_19 rfl ?_
  refine S_bipush (q := 22) (nI 8) dX2_push_20 (by decide) rfl ?_
  rw [nI_add]
  refine S_irem (q := 23) dX2_push_22 (by decide) rfl ?_
  rw [pk_rem (by omega) (by decide) (by decide)]
  refine S_putI (q := 26) dX2_push_23 fp_X2_17 (by first | assumption | rfl) (by rfl) rfl (by rfl) rfl ?_
  refine S_aload_0 (q := 27) dX2_push_26 rfl ?_
  refine S_aload_0 (q := 28) dX2_push_27 rfl ?_
  refine S_getI (q := 31) dX2_push_28 fl_X2_21 (by first | assumption | rfl) (by rfl) rfl ?_
  refine S_iconst (q := 32) (nI 1) dX2_push_31 (by decide) rfl ?_
  rw [up_eq, if_neg (by omega), k1 19 (by omega), hn]
  refine S_iadd (q := 33) dX2_push_32 rfl ?_
  refine S_bipush (q := 35) (nI 8) dX2_push_33 (by decide) rfl ?_
  rw [nI_add]
  refine S_mmin (q := 38) dX2_push_35 lm_X2_29 (Nat.le_of_ble_eq_true rfl) (Nat.le_of_ble_eq_true rfl) ⟨Nat.le_of_ble_eq_true rfl, Nat.le_of_ble_eq_true rfl⟩ rfl ?_
  rw [hmin]
  refine S_putI (q := 41) dX2_push_38 fp_X2_21 (by first | assumption | rfl) (by rfl) rfl (by rfl) rfl ?_
  exact S_ret (v := 0) rfl dX2_push_41 rfl ⟨fun a h1 h2 => (by rw [up_n h2, up_n h2]; exact k1 a h1), ⟨fun j hj => (by rw [up_n (by omega), up_n (by omega)]; exact k2 j hj), fun j hj => (by rw [up_n (by omega), up_n (by omega)]; exact k3 j hj), fun j hj => (by rw [up_n (by omega), up_n (by omega)]; exact k4 j hj), fun j hj => (by rw [up_n (by omega), up_n (by omega)]; exact k5 j hj), fun j hj => (by rw [up_n (by omega), up_n (by omega)]; exact k6 j hj)⟩, (by rw [up_eq, if_neg (by omega), up_s]), up_s⟩
/-- Table at t, Text at t -/
def isT (lay : Lay) (t : Nat) : Prop := lay[t]? = some (.inl (7, [some (some (t + 1)), none, none])) ∧ lay[t + 1]? = some (.inr (.inl 64))
def isX (lay : Lay) (t n : Nat) : Prop := lay[t]? = some (.inl (8, [some (some (t + 1)), none])) ∧ lay[t + 1]? = some (.inr (.inl n))
theorem tO_134 {Z : Lay} : isT (LYZ Z) 134 := ⟨rfl, rfl⟩
theorem tO_136 {Z : Lay} : isT (LYZ Z) 136 := ⟨rfl, rfl⟩
theorem tO_138 {Z : Lay} : isT (LYZ Z) 138 := ⟨rfl, rfl⟩
theorem xO_125 {Z : Lay} : isX (LYZ Z) 125 120 := ⟨rfl, rfl⟩
theorem xO_127 {Z : Lay} : isX (LYZ Z) 127 271 := ⟨rfl, rfl⟩
/-- what a table of a type keeps of a number -/
def kpV (ty : Nat) (x : Int32) : Int32 := if ty = 0 then x.toInt8.toInt32 else if ty = 2 then (if x = 0 then nI 0 else nI 1) else x