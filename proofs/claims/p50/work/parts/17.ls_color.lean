section LINE2
variable {n R : Nat} {len col mk : Nat → Nat}
/-- how many assignments go on with a white cell -/
def wfi (n R : Nat) (len col mk : Nat → Nat) (j p : Nat) : Nat := if (pos n mk 0).testBit p then wy n R len col mk j (p + 1) else 0
theorem asg_lt {j p : Nat} (hp : p < n) : asg n R len col mk j p = (if (pos n mk 0).testBit p then (asg n R len col mk j (p + 1)).map (fun t => 0 :: t) else []) ++ (if j < R ∧ (stt n R len col mk j).testBit p = true ∧ 1 ≤ len j then (asg n R len col mk (j + 1) (p + spn R len col j)).map (fun t => blk R len col j ++ t) else []) := by
  rw [asg, dif_pos hp]
  congr 1
theorem getD_map {α β : Type} {f : α → β} {l : List α} {i : Nat} {d : α} {e : β} (h : i < l.length) : (l.map f).getD i e = f (l.getD i d) := by
  rw [List.getD_eq_getElem?_getD, List.getElem?_map, List.getD_eq_getElem?_getD, List.getElem?_eq_getElem h]
  rfl
theorem getD_app1 {α : Type} {l k : List α} {i : Nat} {d : α} (h : i < l.length) : (l ++ k).getD i d = l.getD i d := by
  rw [List.getD_eq_getElem?_getD, List.getElem?_append_left h, List.getD_eq_getElem?_getD]
theorem getD_app2 {α : Type} {l k : List α} {i : Nat} {d : α} (h : l.length ≤ i) : (l ++ k).getD i d = k.getD (i - l.length) d := by
  rw [List.getD_eq_getElem?_getD, List.getElem?_append_right h, List.getD_eq_getElem?_getD]
theorem asg_white {j p t : Nat} (hp : p < n) (ht : t < wfi n R len col mk j p) : (asg n R len col mk j p).getD t [] = 0 :: (asg n R len col mk j (p + 1)).getD t [] ∧ t < wy n R len col mk j (p + 1) := by
  unfold wfi at ht
  by_cases hb : (pos n mk 0).testBit p = true
  · rw [if_pos hb] at ht
    rw [asg_lt hp, if_pos hb, getD_app1 (by rw [List.length_map]; exact ht), getD_map (d := []) ht]
    exact ⟨rfl, ht⟩
  · rw [if_neg hb] at ht
    exact absurd ht (Nat.not_lt_zero t)
theorem asg_run {j p t : Nat} (hp : p < n) (h1 : wfi n R len col mk j p ≤ t) (h2 : t < wy n R len col mk j p) : j < R ∧ (stt n R len col mk j).testBit p = true ∧ 1 ≤ len j ∧ (asg n R len col mk j p).getD t [] = blk R len col j ++ (asg n R len col mk (j + 1) (p + spn R len col j)).getD (t - wfi n R len col mk j p) [] ∧ t - wfi n R len col mk j p < wy n R len col mk (j + 1) (p + spn R len col j) := by
  have hlen : (if (pos n mk 0).testBit p then (asg n R len col mk j (p + 1)).map (fun t => 0 :: t) else []).length = wfi n R len col mk j p := by
    unfold wfi wy
    split
    · rw [List.length_map]
    · rfl
  unfold wy at h2
  rw [asg_lt hp, List.length_append, hlen] at h2
  by_cases hc : j < R ∧ (stt n R len col mk j).testBit p = true ∧ 1 ≤ len j
  · rw [if_pos hc, List.length_map] at h2
    refine ⟨hc.1, hc.2.1, hc.2.2, ?_, by unfold wy; omega⟩
    rw [asg_lt hp, getD_app2 (by rw [hlen]; exact h1), hlen, if_pos hc, getD_map (d := []) (by omega)]
  · rw [if_neg hc] at h2
    simp at h2
    omega
theorem asg_len {j p : Nat} : ∀ (d : Nat), n - p = d → ∀ j, p ≤ n → ∀ t ∈ asg n R len col mk j p, t.length = n - p := by
  intro d
  induction d using Nat.strongRecOn generalizing p with
  | _ d ih =>
    intro hd j hp t ht
    by_cases h : p < n
    · rw [asg_lt h] at ht
      rcases List.mem_append.mp ht with ht | ht
      · split at ht
        · obtain ⟨u, hu, rfl⟩ := List.mem_map.mp ht
          have := ih (n - (p + 1)) (by omega) rfl j (by omega) u hu
          simp only [List.length_cons]
          omega
        · cases ht
      · split at ht
        · rename_i hc
          obtain ⟨u, hu, rfl⟩ := List.mem_map.mp ht
          have h2 := spn_fit hc.2.2 hc.2.1
          have := ih (n - (p + spn R len col j)) (by omega) rfl (j + 1) (by omega) u hu
          have hb : (blk R len col j).length = spn R len col j := by
            unfold blk spn
            rw [List.length_append, List.length_replicate]
            split <;> rfl
          rw [List.length_append, hb, this]
          omega
        · cases ht
    · have e : p = n := by omega
      subst e
      rw [asg, dif_neg (Nat.lt_irrefl p)] at ht
      split at ht
      · rw [List.mem_singleton] at ht
        subst ht
        simp
      · cases ht
/-- behind the last run all is white -/
theorem asg_tail {p : Nat} : ∀ (d : Nat), n - p = d → p ≤ n → ∀ t ∈ asg n R len col mk R p, ∀ k, t.getD k 0 = 0 := by
  intro d
  induction d generalizing p with
  | zero =>
    intro hd hp t ht k
    have e : p = n := by omega
    subst e
    rw [asg, dif_neg (Nat.lt_irrefl p)] at ht
    rw [if_pos ⟨rfl, rfl⟩, List.mem_singleton] at ht
    subst ht
    simp
  | succ d ih =>
    intro hd hp t ht k
    rw [asg_lt (by omega), if_neg (show ¬ (R < R ∧ _) from fun z => Nat.lt_irrefl _ z.1), List.append_nil] at ht
    split at ht
    · obtain ⟨u, hu, rfl⟩ := List.mem_map.mp ht
      have h := ih (by omega) (by omega) u hu
      cases k with
      | zero => rfl
      | succ k => rw [List.getD_cons_succ]; exact h k
    · cases ht
theorem getD_mem {α : Type} {l : List α} {i : Nat} {d : α} (h : i < l.length) : l.getD i d ∈ l := by
  rw [List.getD_eq_getElem?_getD, List.getElem?_eq_getElem h]
  exact List.getElem_mem h
theorem blk_col {j k : Nat} {t : List Nat} (h : k < len j) : (blk R len col j ++ t).getD k 0 = col j := by
  unfold blk
  rw [List.append_assoc, getD_app1 (by rw [List.length_replicate]; exact h), List.getD_eq_getElem?_getD, List.getElem?_replicate, if_pos h]
  rfl
theorem blk_len {j : Nat} : (blk R len col j).length = spn R len col j := by
  unfold blk spn
  rw [List.length_append, List.length_replicate]
  split <;> rfl
theorem blk_gap {j k : Nat} {t : List Nat} (h : len j ≤ k) (h2 : k < spn R len col j) : (blk R len col j ++ t).getD k 0 = 0 := by
  have h3 := h2
  unfold spn at h3
  by_cases hg : gp R col j = true
  · rw [if_pos hg] at h3
    have e : k = len j := by omega
    subst e
    unfold blk
    rw [if_pos hg, List.append_assoc, getD_app2 (by simp), List.length_replicate, Nat.sub_self]
    rfl
  · rw [if_neg hg] at h3
    omega
theorem blk_rest {j k : Nat} {t : List Nat} (h : spn R len col j ≤ k) : (blk R len col j ++ t).getD k 0 = t.getD (k - spn R len col j) 0 := by
  rw [getD_app2 (by rw [blk_len]; exact h), blk_len]
/-- where colorIn stands: C is the color sought -/
def CI (n R : Nat) (len col mk : Nat → Nat) (C q i rest run start : Nat) : Prop := i ≤ start ∧ start ≤ n ∧ run ≤ R ∧ rest < wy n R len col mk run start ∧ (start ≤ q → C = ((asg n R len col mk run start).getD rest []).getD (q - start) 0) ∧ (q < start → C = 0)
theorem CI.end {C q i rest run start : Nat} (h : CI n R len col mk C q i rest run start) (hx : q < start ∨ R ≤ run) : C = 0 := by
  obtain ⟨h1, h2, h3, h4, h5, h6⟩ := h
  rcases Nat.lt_or_ge q start with z | z
  · exact h6 z
  · rcases hx with hx | hx
    · omega
    · have e : run = R := by omega
      subst e
      rw [h5 z]
      exact asg_tail _ rfl h2 _ (getD_mem h4) _
theorem CI.white {C q i rest run start : Nat} (h : CI n R len col mk C q i rest run start) (hq : start ≤ q) (hqn : q < n) (hw : rest < wfi n R len col mk run start) : CI n R len col mk C q (i + 1) rest run (start + 1) := by
  obtain ⟨h1, h2, h3, h4, h5, h6⟩ := h
  obtain ⟨e1, e2⟩ := asg_white (by omega) hw
  have h7 := h5 hq
  rw [e1] at h7
  refine ⟨by omega, by omega, h3, e2, fun z => ?_, fun z => ?_⟩
  · rw [h7, show q - start = (q - (start + 1)) + 1 by omega, List.getD_cons_succ]
  · rw [h7, show q - start = 0 by omega]
    rfl
theorem CI.run {C q i rest run start : Nat} (h : CI n R len col mk C q i rest run start) (hq : start ≤ q) (hqn : q < n) (hw : ¬ rest < wfi n R len col mk run start) : run < R ∧ (stt n R len col mk run).testBit start = true ∧ (q < start + len run → C = col run) ∧ (start + len run ≤ q → CI n R len col mk C q (i + 1) (rest - wfi n R len col mk run start) (run + 1) (start + spn R len col run)) := by
  obtain ⟨h1, h2, h3, h4, h5, h6⟩ := h
  obtain ⟨e1, e2, e3, e4, e5⟩ := asg_run (by omega) (Nat.not_lt.mp hw) h4
  have h7 := h5 hq
  rw [e4] at h7
  have hf := spn_fit e3 e2
  refine ⟨e1, e2, fun z => ?_, fun z => ⟨by omega, hf.1, e1, e5, fun y => ?_, fun y => ?_⟩⟩
  · rw [h7, blk_col (by omega)]
  · rw [h7, blk_rest (by omega)]
    congr 1
    omega
  · rw [h7, blk_gap (by omega) (by omega)]
theorem wy_le (hlc : ∀ j, j < R → 1 ≤ len j) : ∀ (d p j : Nat), n - p = d → p ≤ n → wy n R len col mk j p ≤ 2 ^ d := by
  intro d
  induction d using Nat.strongRecOn with
  | _ d ih =>
    intro p j hd hp
    by_cases h : p < n
    · rw [wy_step h (hlc j)]
      have e : (2 : Nat) ^ d = 2 ^ (d - 1) + 2 ^ (d - 1) := by
        rw [show d = (d - 1) + 1 by omega, Nat.pow_succ, show d - 1 + 1 - 1 = d - 1 by omega]
        omega
      rw [e]
      refine Nat.add_le_add ?_ ?_
      · split
        · exact ih (d - 1) (by omega) (p + 1) j (by omega) (by omega)
        · exact Nat.zero_le _
      · split
        · rename_i hc
          have hf := spn_fit (hlc j hc.1) hc.2
          refine Nat.le_trans (ih (n - (p + spn R len col j)) (by omega) _ (j + 1) rfl hf.1) (Nat.pow_le_pow_right (by decide) (by omega))
        · exact Nat.zero_le _
    · have e : p = n := by omega
      subst e
      rw [wy_end]
      have := Nat.one_le_two_pow (n := d)
      split <;> omega
theorem wy_256 (hlc : ∀ j, j < R → 1 ≤ len j) (hn8 : n ≤ 8) {p j : Nat} (hp : p ≤ n) : wy n R len col mk j p ≤ 256 := by
  refine Nat.le_trans (wy_le hlc (n - p) p j rfl hp) ?_
  exact Nat.le_trans (show 2 ^ (n - p) ≤ 2 ^ 8 from Nat.pow_le_pow_right (by decide) (by omega)) (by decide)
theorem wfi_lt (hlc : ∀ j, j < R → 1 ≤ len j) (hn8 : n ≤ 8) {p j : Nat} (hp : p < n) : wfi n R len col mk j p < 2 ^ 31 := by
  unfold wfi
  split
  · exact Nat.lt_of_le_of_lt (wy_256 hlc hn8 (by omega)) (by decide)
  · decide
end LINE2