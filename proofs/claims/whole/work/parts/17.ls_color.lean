section LINE2
variable {n R : Nat} {len col mk : Nat → Nat}
/-- how many assignments go on with a white cell -/
def wfi (n R : Nat) (len col mk : Nat → Nat) (j p : Nat) : Nat := if (pos n mk 0).testBit p then wy n R len col mk j (p + 1) else 0
theorem asg_lt {j p : Nat} (hp : p < n) : asg n R len col mk j p = (if (pos n mk 0).testBit p then (asg n R len col mk j (p + 1)).map (fun t => 0 :: t) else []) ++ (if j < R ∧ (stt n R len col mk j).testBit p = true ∧ 1 ≤ len j then (asg n R len col mk (j + 1) (p + spn R len col j)).map (fun t => blk R len col j ++ t) else []) := by
  rw [asg, dif_pos hp]
  congr 1
theorem getD_map {α β : Type} {f : α → β} {l : List α} {i : Nat} {d : α} {e : β} (h : i < l.length) : (l.map f).getD i e = f (l.getD i d) := by
  rw [List.getD_eq_getElem?_getD, List.getElem?_map, List.getD_eq_getElem?_getD, List.getElem?_eq_getElem h]
  rfl
theorem getD_app1 {α : Type} {l k : List α} {i : Nat} {d : α} (h : i < l.length) : (l ++ k).getD i d = l.getD i d := by
  rw [List.getD_eq_getElem?_getD, List.getElem?_append_left h, List.getD_eq_getElem?_getD]
theorem getD_app2 {α : Type} {l k : List α} {i : Nat} {d : α} (h : l.length ≤ i) : (l ++ k).getD i d = k.getD (i - l.length) d := by
  rw [List.getD_eq_getElem?_getD, List.getElem?_append_right h, List.getD_eq_getElem?_getD]
theorem asg_white {j p t : Nat} (hp : p < n) (ht : t < wfi n R len col mk j p) : (asg n R len col mk j p).getD t [] = 0 :: (asg n R len col mk j (p + 1)).getD t [] ∧ t < wy n R len col mk j (p + 1) := by
  unfold wfi at ht
  by_cases hb : (pos n mk 0).testBit p = true
  · rw [if_pos hb] at ht
    rw [asg_lt hp, if_pos hb, getD_app1 (by rw [List.length_map]; exact ht), getD_map (d := []) ht]
    exact ⟨rfl, ht⟩
  · rw [if_neg hb] at ht
    exact absurd ht (Nat.not_lt_zero t)
theorem asg_run {j p t : Nat} (hp : p < n) (h1 : wfi n R len col mk j p ≤ t) (h2 : t < wy n R len col mk j p) : j < R ∧ (stt n R len col mk j).testBit p = true ∧ 1 ≤ len j ∧ (asg n R len col mk j p).getD t [] = blk R len col j ++ (asg n R len col mk (j + 1) (p + spn R len col j)).getD (t - wfi n R len col mk j p) [] ∧ t - wfi n R len col mk j p < wy n R len col mk (j + 1) (p + spn R len col j) := by
  have hlen : (if (pos n mk 0).testBit p then (asg n R len col mk j (p + 1)).map (fun t => 0 :: t) else []).length = wfi n R len col mk j p := by
    unfold wfi wy
    split
    · rw [List.length_map]
    · rfl
  unfold wy at h2
  rw [asg_lt hp, List.length_append, hlen] at h2
  by_cases hc : j < R ∧ (stt n R len col mk j).testBit p = true ∧ 1 ≤ len j
  · rw [if_pos hc, List.length_map] at h2
    refine ⟨hc.1, hc.2.1, hc.2.2, ?_, by unfold wy; omega⟩
    rw [asg_lt hp, getD_app2 (by rw [hlen]; exact h1), hlen, if_pos hc, getD_map (d := []) (by omega)]
  · rw [if_neg hc] at h2
    simp at h2
    omega
theorem asg_len {j p : Nat} : ∀ (d : Nat), n - p = d → ∀ j, p ≤ n → ∀ t ∈ asg n R len col mk j p, t.length = n - p := by
  intro d
  induction d using Nat.strongRecOn generalizing p with
  | _ d ih =>
    intro hd j hp t ht
    by_cases h : p < n
    · rw [asg_lt h] at ht
      rcases List.mem_append.mp ht with ht | ht
      · split at ht
        · obtain ⟨u, hu, rfl⟩ := List.mem_map.mp ht
          have := ih (n - (p + 1)) (by omega) rfl j (by omega) u hu
          simp only [List.length_cons]
          omega
        · cases ht
      · split at ht
        · rename_i hc
          obtain ⟨u, hu, rfl⟩ := List.mem_map.mp ht
          have h2 := spn_fit hc.2.2 hc.2.1
          have := ih (n - (p + spn R len col j)) (by omega) rfl (j + 1) (by omega) u hu
          have hb : (blk R len col j).length = spn R len col j := by
            unfold blk spn
            rw [List.length_append, List.length_replicate]
            split <;> rfl
          rw [List.length_append, hb, this]
          omega
        · cases ht
    · have e : p = n := by omega
      subst e
      rw [asg, dif_neg (Nat.lt_irrefl p)] at ht
      split at ht
      · rw [List.mem_singleton] at ht
        subst ht
        simp
      · cases ht
/-- behind the last run all is white -/
theorem asg_tail {p : Nat} : ∀ (d : Nat), n - p = d → p ≤ n → ∀ t ∈ asg n R len col mk R p, ∀ k, t.getD k 0 = 0 := by
  intro d
  induction d generalizing p with
  | zero =>
    intro hd hp t ht k
    have e : p = n := by omega
    subst e
    rw [asg, dif_neg (Nat.lt_irrefl p)] at ht
    rw [if_pos ⟨rfl, rfl⟩, List.mem_singleton] at ht
    subst ht
    simp
  | succ d ih =>
    intro hd hp t ht k
    rw [asg_lt (by omega), if_neg (show ¬ (R < R ∧ _) from fun z => Nat.lt_irrefl _ z.1), List.append_nil] at ht
    split at ht
    · obtain ⟨u, hu, rfl⟩ := List.mem_map.mp ht
      have h := ih (by omega) (by omega) u hu
      cases k with
      | zero => rfl
      | succ k => rw [List.getD_cons_succ]; exact h k
    · cases ht
theorem getD_mem {α : Type} {l : List α} {i : Nat} {d : α} (h : i < l.length) : l.getD i d ∈ l := by
  rw [List.getD_eq_getElem?_getD, List.getElem?_eq_getElem h]
  exact List.getElem_mem h
theorem blk_col {j k : Nat} {t : List Nat} (h : k < len j) : (blk R len col j ++ t).getD k 0 = col j := by
  unfold blk
  rw [List.append_assoc, getD_app1 (by rw [List.length_replicate]; exact h), List.getD_eq_getElem?_getD, List.getElem?_replicate, if_pos h]
  rfl
theorem blk_len {j : Nat} : (blk R len col j).length = spn R len col j := by
  unfold blk spn
  rw [List.length_append, List.length_replicate]
  split <;> rfl
theorem blk_gap {j k : Nat} {t : List Nat} (h : len j ≤ k) (h2 : k < spn R len col j) : (blk R len col j ++ t).getD k 0 = 0 := by
  have h3 := h2
  unfold spn at h3
  by_cases hg : gp R col j = true
  · rw [if_pos hg] at h3
    have e : k = len j := by omega
    subst e
    unfold blk
    rw [if_pos hg, List.append_assoc, getD_app2 (by simp), List.length_replicate, Nat.sub_self]
    rfl
  · rw [if_neg hg] at h3
    omega
theorem blk_rest {j k : Nat} {t : List Nat} (h : spn R len col j ≤ k) : (blk R len col j ++ t).getD k 0 = t.getD (k - spn R len col j) 0 := by
  rw [getD_app2 (by rw [blk_len]; exact h), blk_len]
/-- where colorIn stands: C is the color sought -/
def CI (n R : Nat) (len col mk : Nat → Nat) (C q i rest run start : Nat) : Prop := i ≤ start ∧ start ≤ n ∧ run ≤ R ∧ rest < wy n R len col mk run start ∧ (start ≤ q → C = ((asg n R len col mk run start).getD rest []).getD (q - start) 0) ∧ (q < start → C = 0)
theorem CI.end {C q i rest run start : Nat} (h : CI n R len col mk C q i rest run start) (hx : q < start ∨ R ≤ run) : C = 0 := by
  obtain ⟨h1, h2, h3, h4, h5, h6⟩ := h
  rcases Nat.lt_or_ge q start with z | z
  · exact h6 z
  · rcases hx with hx | hx
    · omega
    · have e : run = R := by omega
      subst e
      rw [h5 z]
      exact asg_tail _ rfl h2 _ (getD_mem h4) _
theorem CI.white {C q i rest run start : Nat} (h : CI n R len col mk C q i rest run start) (hq : start ≤ q) (hqn : q < n) (hw : rest < wfi n R len col mk run start) : CI n R len col mk C q (i + 1) rest run (start + 1) := by
  obtain ⟨h1, h2, h3, h4, h5, h6⟩ := h
  obtain ⟨e1, e2⟩ := asg_white (by omega) hw
  have h7 := h5 hq
  rw [e1] at h7
  refine ⟨by omega, by omega, h3, e2, fun z => ?_, fun z => ?_⟩
  · rw [h7, show q - start = (q - (start + 1)) + 1 by omega, List.getD_cons_succ]
  · rw [h7, show q - start = 0 by omega]
    rfl
theorem CI.run {C q i rest run start : Nat} (h : CI n R len col mk C q i rest run start) (hq : start ≤ q) (hqn : q < n) (hw : ¬ rest < wfi n R len col mk run start) : run < R ∧ (stt n R len col mk run).testBit start = true ∧ (q < start + len run → C = col run) ∧ (start + len run ≤ q → CI n R len col mk C q (i + 1) (rest - wfi n R len col mk run start) (run + 1) (start + spn R len col run)) := by
  obtain ⟨h1, h2, h3, h4, h5, h6⟩ := h
  obtain ⟨e1, e2, e3, e4, e5⟩ := asg_run (by omega) (Nat.not_lt.mp hw) h4
  have h7 := h5 hq
  rw [e4] at h7
  have hf := spn_fit e3 e2
  refine ⟨e1, e2, fun z => ?_, fun z => ⟨by omega, hf.1, e1, e5, fun y => ?_, fun y => ?_⟩⟩
  · rw [h7, blk_col (by omega)]
  · rw [h7, blk_rest (by omega)]
    congr 1
    omega
  · rw [h7, blk_gap (by omega) (by omega)]
theorem wy_le (hlc : ∀ j, j < R → 1 ≤ len j) : ∀ (d p j : Nat), n - p = d → p ≤ n → wy n R len col mk j p ≤ 2 ^ d := by
  intro d
  induction d using Nat.strongRecOn with
  | _ d ih =>
    intro p j hd hp
    by_cases h : p < n
    · rw [wy_step h (hlc j)]
      have e : (2 : Nat) ^ d = 2 ^ (d - 1) + 2 ^ (d - 1) := by
        rw [show d = (d - 1) + 1 by omega, Nat.pow_succ, show d - 1 + 1 - 1 = d - 1 by omega]
        omega
      rw [e]
      refine Nat.add_le_add ?_ ?_
      · split
        · exact ih (d - 1) (by omega) (p + 1) j (by omega) (by omega)
        · exact Nat.zero_le _
      · split
        · rename_i hc
          have hf := spn_fit (hlc j hc.1) hc.2
          refine Nat.le_trans (ih (n - (p + spn R len col j)) (by omega) _ (j + 1) rfl hf.1) (Nat.pow_le_pow_right (by decide) (by omega))
        · exact Nat.zero_le _
    · have e : p = n := by omega
      subst e
      rw [wy_end]
      have := Nat.one_le_two_pow (n := d)
      split <;> omega
theorem wy_256 (hlc : ∀ j, j < R → 1 ≤ len j) (hn8 : n ≤ 8) {p j : Nat} (hp : p ≤ n) : wy n R len col mk j p ≤ 256 := by
  refine Nat.le_trans (wy_le hlc (n - p) p j rfl hp) ?_
  exact Nat.le_trans (show 2 ^ (n - p) ≤ 2 ^ 8 from Nat.pow_le_pow_right (by decide) (by omega)) (by decide)
theorem wfi_lt (hlc : ∀ j, j < R → 1 ≤ len j) (hn8 : n ≤ 8) {p j : Nat} (hp : p < n) : wfi n R len col mk j p < 2 ^ 31 := by
  unfold wfi
  split
  · exact Nat.lt_of_le_of_lt (wy_256 hlc hn8 (by omega)) (by decide)
  · decide
end LINE2
set_option maxHeartbeats 4000000 in
set_option maxRecDepth 100000 in
theorem k_X3_colorIn {l : Launch} {G : Gd} {b0 : Nat} {lay : Lay} {M : Mem} {s n R a q : Nat} {len col mk : Nat → Nat} (hs : isL lay s) (hld : LDD M s n R len col mk) (hn8 : n ≤ 8) (hR8 : R ≤ 8) (hlc : ∀ j, j < R → 1 ≤ len j ∧ len j ≤ 8) (hq : q < n) (ha : a < wy n R len col mk 0 0) : Ct l G b0 yX3_colorIn cX3_colorIn 8 (some .int) (rmZ 1 23) lay lay M [.ref (b0 + s), .int (nI a), .int (nI q)] (fun v M' => M' = M ∧ v = nI (((asg n R len col mk 0 0).getD a []).getD q 0)) := by
  obtain ⟨hs0, hs1, hs2, hs3, hs4, hs5, hs6, hs7, hs8⟩ := id hs
  obtain ⟨hd1, hd2, hd3, hd4, hd5⟩ := id hld
  have hpl : pos n mk 0 < 2 ^ 31 := lt31 (pos_lt 0) (by omega)
  obtain ⟨C, hC⟩ : ∃ C, C = ((asg n R len col mk 0 0).getD a []).getD q 0 := ⟨_, rfl⟩
  rw [← hC]
  have hw : wy n R len col mk 0 0 < 2 ^ 31 := Nat.lt_of_le_of_lt (wy_256 (fun j z => (hlc j z).1) hn8 (Nat.zero_le _)) (by decide)
  have h0 : CI n R len col mk C q 0 a 0 0 := ⟨Nat.le_refl _, Nat.zero_le _, Nat.zero_le _, ha, fun _ => hC, fun z => absurd z (Nat.not_lt_zero q)⟩
  refine Ct.of [some (.ref (b0 + s)), some (.int (nI a)), some (.int (nI q)), none, none, none, none, none] (by decide) (Nat.le_of_ble_eq_true rfl) rfl rfl ?_
  refine S_iload_1 (q := 1) dX3_colorIn_0 rfl ?_
  refine S_istore_3 (q := 2) dX3_colorIn_1 rfl ?_
  refine S_iconst (q := 3) (nI 0) dX3_colorIn_2 (by decide) rfl ?_
  refine S_istore_4 (q := 5) dX3_colorIn_3 rfl ?_
  refine S_iconst (q := 6) (nI 0) dX3_colorIn_5 (by decide) rfl ?_
  refine S_istore_5 (q := 8) dX3_colorIn_6 rfl ?_
  refine S_iconst (q := 9) (nI 0) dX3_colorIn_8 (by decide) rfl ?_
  refine S_istore_6 (q := 11) dX3_colorIn_9 rfl ?_
  suffices H : ∀ (d i : Nat) (rest : Nat) (run : Nat) (start : Nat), 8 - i = d → i ≤ 8 → (CI n R len col mk C q (i) rest run start ∧ rest ≤ a) → S l G b0 yX3_colorIn cX3_colorIn 8 (some .int) (rmZ 1 23) lay (fun v M' => M' = M ∧ v = nI C) 0 0 0 0 lay 11 [some (.ref (b0 + s)), some (.int (nI a)), some (.int (nI q)), some (.int (nI rest)), some (.int (nI run)), some (.int (nI start)), some (.int (nI (i))), none] [] M from H _ 0 (a) (0) (0) rfl (by omega) ⟨h0, Nat.le_refl _⟩
  intro d
  induction d with
  | zero =>
    intro i rest run start hd hi hI
    have e : 8 = i := by omega
    subst e
    refine S_iload_6 (q := 13) dX3_colorIn_11 rfl ?_
    refine S_bipush (q := 15) (nI 8) dX3_colorIn_13 (by decide) rfl ?_
    refine S_icmp_ge (t := 103) (q := 18) dX3_colorIn_15 (by decide) rfl (fun hb15 => ?_) (fun hb15 => ?_)
    · refine S_iconst (q := 104) (nI 0) dX3_colorIn_103 (by decide) rfl ?_
      exact S_iret rfl dX3_colorIn_104 rfl rfl ⟨rfl, by rw [hI.1.end (Or.inl (by have := hI.1.1; omega))]⟩
    · exact absurd (Int32.le_refl _) hb15
  | succ d ih =>
    intro i rest run start hd hi hI
    have hlt : i < 8 := by omega
    refine S_iload_6 (q := 13) dX3_colorIn_11 rfl ?_
    refine S_bipush (q := 15) (nI 8) dX3_colorIn_13 (by decide) rfl ?_
    refine S_icmp_ge (t := 103) (q := 18) dX3_colorIn_15 (by decide) rfl (fun hb15 => ?_) (fun hb15 => ?_)
    · exact absurd hb15 (nI_ge hlt (by decide))
    · refine S_iload_5 (q := 20) dX3_colorIn_18 rfl ?_
      refine S_iload_2 (q := 21) dX3_colorIn_20 rfl ?_
      refine S_icmp_gt (t := 103) (q := 24) dX3_colorIn_21 (by decide) rfl (fun hb21 => ?_) (fun hb21 => ?_)
      · have hb21 : q < start := (nI_ltI (by omega) (by have := hI.1.2.1; omega)).mp hb21
        refine S_iconst (q := 104) (nI 0) dX3_colorIn_103 (by decide) rfl ?_
        exact S_iret rfl dX3_colorIn_104 rfl rfl ⟨rfl, by rw [hI.1.end (Or.inl hb21)]⟩
      · have hb21 : start ≤ q := Nat.le_of_not_lt (fun h => hb21 ((nI_ltI (by omega) (by have := hI.1.2.1; omega)).mpr h))
        refine S_iload_4 (q := 26) dX3_colorIn_24 rfl ?_
        refine S_aload_0 (q := 27) dX3_colorIn_26 rfl ?_
        refine S_getI (q := 30) dX3_colorIn_27 fl_X3_15 (by first | assumption | rfl) (by rfl) rfl ?_
        rw [hd2]
        refine S_icmp_ge (t := 103) (q := 33) dX3_colorIn_30 (by decide) rfl (fun hb30 => ?_) (fun hb30 => ?_)
        · have hb30 : R ≤ run := (nI_leI (by omega) (by have := hI.1.2.2.1; omega)).mp hb30
          refine S_iconst (q := 104) (nI 0) dX3_colorIn_103 (by decide) rfl ?_
          exact S_iret rfl dX3_colorIn_104 rfl rfl ⟨rfl, by rw [hI.1.end (Or.inr hb30)]⟩
        · have hb30 : run < R := Nat.lt_of_not_le (fun h => hb30 ((nI_leI (by omega) (by have := hI.1.2.2.1; omega)).mpr h))
          refine S_aload_0 (q := 34) dX3_colorIn_33 rfl ?_
          refine S_iload_4 (q := 36) dX3_colorIn_34 rfl ?_
          refine S_iload_5 (q := 38) dX3_colorIn_36 rfl ?_
          refine S_callV2i (q := 41) dX3_colorIn_38 lk_X3_101 (by first | assumption | rfl) rfl rfl (k_X3_whiteWays hs (P := pos n mk 0) (hd4 0 (by omega)) hpl (show start < 8 by omega) (show run ≤ 8 by omega)) rfl rfl (Nat.le_of_ble_eq_true rfl) ⟨Nat.le_of_ble_eq_true rfl, Nat.le_of_ble_eq_true rfl⟩ ⟨Nat.le_of_ble_eq_true rfl, Nat.le_of_ble_eq_true rfl⟩ rfl (fun v38 M38 hv38 => ?_)
          obtain ⟨rfl, rfl⟩ := hv38
          have hwf : (if (pos n mk 0).testBit start = true then M38 (s + 8) (run * 9 + start + 1) else nI 0) = nI (wfi n R len col mk run start) := by
            unfold wfi
            split
            · rw [Nat.add_assoc]; exact hd5 run (by omega) (start + 1) (by omega)
            · rfl
          rw [hwf]
          have hwl : wfi n R len col mk run start < 2 ^ 31 := wfi_lt (fun j z => (hlc j z).1) hn8 (by omega)
          refine S_istore_7 (q := 43) dX3_colorIn_41 rfl ?_
          refine S_iload_3 (q := 44) dX3_colorIn_43 rfl ?_
          refine S_iload_7 (q := 46) dX3_colorIn_44 rfl ?_
          refine S_icmp_ge (t := 55) (q := 49) dX3_colorIn_46 (by decide) rfl (fun hb46 => ?_) (fun hb46 => ?_)
          · have hb46 : ¬ rest < wfi n R len col mk run start := Nat.not_lt.mpr ((nI_leI hwl (by omega)).mp hb46)
            obtain ⟨hr1, hr2, hr3, hr4⟩ := hI.1.run hb21 hq hb46
            refine S_iload_2 (q := 56) dX3_colorIn_55 rfl ?_
            refine S_iload_5 (q := 58) dX3_colorIn_56 rfl ?_
            refine S_aload_0 (q := 59) dX3_colorIn_58 rfl ?_
            refine S_getR (q := 62) dX3_colorIn_59 fl_X3_18 (by first | assumption | rfl) (by rfl) rfl ?_
            refine S_iload_4 (q := 64) dX3_colorIn_62 rfl ?_
            refine S_ialdV (i := run) (val := nI (len run)) (q := 65) dX3_colorIn_64 (by first | assumption | rfl) (by first | (simp only [nI_add, pk_mul, nI_1]; done) | rfl) (by omega) (by decide) (hd3 run hr1).1 rfl ?_
            refine S_iadd (q := 66) dX3_colorIn_65 rfl ?_
            rw [nI_add]
            refine S_icmp_ge (t := 77) (q := 69) dX3_colorIn_66 (by decide) rfl (fun hb66 => ?_) (fun hb66 => ?_)
            · have hb66 : start + len run ≤ q := (nI_leI (by have := hlc run hr1; omega) (by omega)).mp hb66
              refine S_iload_3 (q := 78) dX3_colorIn_77 rfl ?_
              refine S_iload_7 (q := 80) dX3_colorIn_78 rfl ?_
              refine S_isub (q := 81) dX3_colorIn_80 rfl ?_
              refine S_istore_3 (q := 82) dX3_colorIn_81 rfl ?_
              refine S_iload_5 (q := 84) dX3_colorIn_82 rfl ?_
              refine S_aload_0 (q := 85) dX3_colorIn_84 rfl ?_
              refine S_getR (q := 88) dX3_colorIn_85 fl_X3_25 (by first | assumption | rfl) (by rfl) rfl ?_
              refine S_iload_4 (q := 90) dX3_colorIn_88 rfl ?_
              refine S_ialdV (i := run) (val := nI (spn R len col run)) (q := 91) dX3_colorIn_90 (by first | assumption | rfl) (by first | (simp only [nI_add, pk_mul, nI_1]; done) | rfl) (by omega) (by decide) (hd3 run hr1).2.2.1 rfl ?_
              refine S_iadd (q := 92) dX3_colorIn_91 rfl ?_
              refine S_istore_5 (q := 94) dX3_colorIn_92 rfl ?_
              refine S_iinc_4 (q := 97) (nI (run + 1)) dX3_colorIn_94 (inc1 _) rfl ?_
              refine S_iinc_6 (q := 100) (nI (i + 1)) dX3_colorIn_97 (inc1 _) rfl ?_
              refine S_goto (t := 11) dX3_colorIn_100 (by decide) ?_
              refine S_fgt7 ?_
              rw [pk_sub (Nat.not_lt.mp hb46), nI_add]
              exact ih (i + 1) _ _ _ (by omega) hlt ⟨hr4 hb66, by omega⟩
            · have hb66 : q < start + len run := Nat.lt_of_not_le (fun h => hb66 ((nI_leI (by have := hlc run hr1; omega) (by omega)).mpr h))
              refine S_aload_0 (q := 70) dX3_colorIn_69 rfl ?_
              refine S_getR (q := 73) dX3_colorIn_70 fl_X3_22 (by first | assumption | rfl) (by rfl) rfl ?_
              refine S_iload_4 (q := 75) dX3_colorIn_73 rfl ?_
              refine S_ialdV (i := run) (val := nI (col run)) (q := 76) dX3_colorIn_75 (by first | assumption | rfl) (by first | (simp only [nI_add, pk_mul, nI_1]; done) | rfl) (by omega) (by decide) (hd3 run hr1).2.1 rfl ?_
              exact S_iret rfl dX3_colorIn_76 rfl rfl ⟨rfl, by rw [hr3 hb66]⟩
          · have hb46 : rest < wfi n R len col mk run start := Nat.lt_of_not_le (fun h => hb46 ((nI_leI hwl (by omega)).mpr h))
            refine S_iinc_5 (q := 52) (nI (start + 1)) dX3_colorIn_49 (inc1 _) rfl ?_
            refine S_goto (t := 97) dX3_colorIn_52 (by decide) ?_
            refine S_iinc_6 (q := 100) (nI (i + 1)) dX3_colorIn_97 (inc1 _) rfl ?_
            refine S_goto (t := 11) dX3_colorIn_100 (by decide) ?_
            refine S_fgt7 ?_
            exact ih (i + 1) _ _ _ (by omega) hlt ⟨hI.1.white hb21 hq hb46, hI.2⟩
