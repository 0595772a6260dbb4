/-! which colors stand where in the possible assignments -/
section SEEN
variable (n R : Nat) (len col mk : Nat → Nat)
def SNP (k p : Nat) : Prop := ∃ t ∈ asg n R len col mk 0 0, t.getD p 0 = k
def Rch (j q : Nat) : Prop := ∃ u : List Nat, u.length = q ∧ ∀ t ∈ asg n R len col mk j q, u ++ t ∈ asg n R len col mk 0 0
def rfi (j q : Nat) : Nat := if j < R ∧ (stt n R len col mk j).testBit q = true then wy n R len col mk (j + 1) (q + spn R len col j) else 0
def clW (rc sn : Nat → Nat) (j q : Nat) : Prop := (rc j).testBit q = true → 0 < wfi n R len col mk j q → (sn 0).testBit q = true ∧ (rc j).testBit (q + 1) = true
def clR (rc sn : Nat → Nat) (j q : Nat) : Prop := (rc j).testBit q = true → 0 < rfi n R len col mk j q → (∀ o, o < len j → (sn (col j)).testBit (q + o) = true) ∧ (gp R col j = true → (sn 0).testBit (q + len j) = true) ∧ (rc (j + 1)).testBit (q + spn R len col j) = true
/-- the sets say no more than is so -/
def Snd (rc sn : Nat → Nat) : Prop := (∀ j q, (rc j).testBit q = true → q ≤ n ∧ Rch n R len col mk j q) ∧ ∀ k p, (sn k).testBit p = true → p < n ∧ SNP n R len col mk k p
def FS (a b : Nat) (rc sn : Nat → Nat) : Prop := Snd n R len col mk rc sn ∧ (rc 0).testBit 0 = true ∧ ∀ j q, (j < a ∨ (j = a ∧ q < b)) → q < n → clW n R len col mk rc sn j q ∧ clR n R len col mk rc sn j q
def orF (f : Nat → Nat) (k m : Nat) : Nat → Nat := fun i => if i = k then f k ||| m else f i
variable {n R len col mk}
theorem orF_tb {f : Nat → Nat} {k m i p : Nat} : (orF f k m i).testBit p = true ↔ (f i).testBit p = true ∨ (i = k ∧ m.testBit p = true) := by
  unfold orF
  by_cases h : i = k
  · subst h
    rw [if_pos rfl, Nat.testBit_or, Bool.or_eq_true]
    exact ⟨fun z => z.elim Or.inl (fun y => Or.inr ⟨rfl, y⟩), fun z => z.elim Or.inl (fun y => Or.inr y.2)⟩
  · rw [if_neg h]
    exact ⟨Or.inl, fun z => z.elim id (fun y => absurd y.1 h)⟩
theorem tb_pow {e p : Nat} : (2 ^ e).testBit p = true ↔ p = e := by
  rw [Nat.testBit_two_pow, decide_eq_true_eq]
  exact eq_comm
/-- a set of positions a .. b - 1 -/
theorem tb_run {a b p : Nat} (h : a ≤ b) : (2 ^ b - 2 ^ a).testBit p = true ↔ a ≤ p ∧ p < b := by
  obtain ⟨d, rfl⟩ : ∃ d, b = a + d := ⟨b - a, by omega⟩
  have e : 2 ^ (a + d) - 2 ^ a = 2 ^ a * (2 ^ d - 1) := by
    rw [Nat.pow_add, Nat.mul_sub, Nat.mul_one]
  rw [e, Nat.testBit_two_pow_mul, Bool.and_eq_true, decide_eq_true_eq, Nat.testBit_two_pow_sub_one, decide_eq_true_eq]
  omega
theorem asg_mem_white {j q : Nat} (hq : q < n) (hw : 0 < wfi n R len col mk j q) : 0 < wy n R len col mk j (q + 1) ∧ ∀ t ∈ asg n R len col mk j (q + 1), 0 :: t ∈ asg n R len col mk j q := by
  unfold wfi at hw
  by_cases hb : (pos n mk 0).testBit q = true
  · rw [if_pos hb] at hw
    refine ⟨hw, fun t ht => ?_⟩
    rw [asg_lt hq, if_pos hb]
    exact List.mem_append_left _ (List.mem_map.mpr ⟨t, ht, rfl⟩)
  · rw [if_neg hb] at hw
    exact absurd hw (Nat.lt_irrefl 0)
theorem asg_mem_run {j q : Nat} (hq : q < n) (hlc : ∀ j, j < R → 1 ≤ len j) (hw : 0 < rfi n R len col mk j q) : j < R ∧ (stt n R len col mk j).testBit q = true ∧ 0 < wy n R len col mk (j + 1) (q + spn R len col j) ∧ ∀ t ∈ asg n R len col mk (j + 1) (q + spn R len col j), blk R len col j ++ t ∈ asg n R len col mk j q := by
  unfold rfi at hw
  by_cases hb : j < R ∧ (stt n R len col mk j).testBit q = true
  · rw [if_pos hb] at hw
    refine ⟨hb.1, hb.2, hw, fun t ht => ?_⟩
    rw [asg_lt hq, if_pos (show _ ∧ _ ∧ _ from ⟨hb.1, hb.2, hlc j hb.1⟩)]
    exact List.mem_append_right _ (List.mem_map.mpr ⟨t, ht, rfl⟩)
  · rw [if_neg hb] at hw
    exact absurd hw (Nat.lt_irrefl 0)
theorem wy_ex {j q : Nat} (h : 0 < wy n R len col mk j q) : ∃ t, t ∈ asg n R len col mk j q := by
  unfold wy at h
  exact ⟨_, List.getElem_mem h⟩
theorem getD_pre {u t : List Nat} {q k : Nat} (h : u.length = q) : (u ++ t).getD (q + k) 0 = t.getD k 0 := by
  rw [getD_app2 (by omega), h]
  congr 1
  omega
/-- a white cell -/
theorem FS.white {a b : Nat} {rc sn : Nat → Nat} (h : Snd n R len col mk rc sn) (hb : b < n) (hr : (rc a).testBit b = true) (hw : 0 < wfi n R len col mk a b) : Snd n R len col mk (orF rc a (2 ^ (b + 1))) (orF sn 0 (2 ^ b)) := by
  obtain ⟨-, u, hu, hm⟩ := h.1 a b hr
  obtain ⟨h1, h2⟩ := asg_mem_white hb hw
  refine ⟨fun j q z => ?_, fun k p z => ?_⟩
  · rcases orF_tb.mp z with z | ⟨rfl, y⟩
    · exact h.1 j q z
    · rw [tb_pow] at y
      subst y
      refine ⟨hb, u ++ [0], by simp [hu], fun t ht => ?_⟩
      rw [List.append_assoc]
      exact hm _ (h2 t ht)
  · rcases orF_tb.mp z with z | ⟨rfl, y⟩
    · exact h.2 k p z
    · rw [tb_pow] at y
      subst y
      obtain ⟨t, ht⟩ := wy_ex h1
      refine ⟨hb, _, hm _ (h2 t ht), ?_⟩
      have := getD_pre (t := 0 :: t) (k := 0) hu
      rw [Nat.add_zero] at this
      rw [this]
      rfl
/-- a run, and the gap behind it -/
theorem FS.run {a b : Nat} {rc sn : Nat → Nat} (hlc : ∀ j, j < R → 1 ≤ len j) (h : Snd n R len col mk rc sn) (hb : b < n) (hr : (rc a).testBit b = true) (hw : 0 < rfi n R len col mk a b) : Snd n R len col mk (orF rc (a + 1) (2 ^ (b + spn R len col a))) (if gp R col a = true then orF (orF sn (col a) (2 ^ (b + len a) - 2 ^ b)) 0 (2 ^ (b + len a)) else orF sn (col a) (2 ^ (b + len a) - 2 ^ b)) := by
  obtain ⟨-, u, hu, hm⟩ := h.1 a b hr
  obtain ⟨h0, hs, h1, h2⟩ := asg_mem_run hb hlc hw
  have hf := spn_fit (hlc a h0) hs
  obtain ⟨t, ht⟩ := wy_ex h1
  have hA : ∀ k p, (orF sn (col a) (2 ^ (b + len a) - 2 ^ b) k).testBit p = true → p < n ∧ SNP n R len col mk k p := by
    intro k p z
    rcases orF_tb.mp z with z | ⟨rfl, y⟩
    · exact h.2 k p z
    · rw [tb_run (by omega)] at y
      have hsp : len a ≤ spn R len col a := by unfold spn; omega
      refine ⟨by omega, _, hm _ (h2 t ht), ?_⟩
      obtain ⟨o, rfl⟩ : ∃ o, p = b + o := ⟨p - b, by omega⟩
      rw [getD_pre hu, blk_col (by omega)]
  refine ⟨fun j q z => ?_, fun k p z => ?_⟩
  · rcases orF_tb.mp z with z | ⟨rfl, y⟩
    · exact h.1 j q z
    · rw [tb_pow] at y
      subst y
      refine ⟨hf.1, u ++ blk R len col a, by rw [List.length_append, hu, blk_len], fun t ht => ?_⟩
      rw [List.append_assoc]
      exact hm _ (h2 t ht)
  · by_cases hg : gp R col a = true
    · rw [if_pos hg] at z
      rcases orF_tb.mp z with z | ⟨rfl, y⟩
      · exact hA k p z
      · rw [tb_pow] at y
        subst y
        have hsp : spn R len col a = len a + 1 := by unfold spn; rw [if_pos hg]
        refine ⟨by omega, _, hm _ (h2 t ht), ?_⟩
        rw [getD_pre hu, blk_gap (Nat.le_refl _) (by omega)]
    · rw [if_neg hg] at z
      exact hA k p z
/-- in the end the sets say all: (j, q) is reached, t stands behind it -/
theorem FS.all {rc sn : Nat → Nat} (hlc : ∀ j, j < R → 1 ≤ len j) (h : FS n R len col mk (R + 1) 0 rc sn) : ∀ (d j q : Nat), n - q = d → q ≤ n → j ≤ R → (rc j).testBit q = true → ∀ t ∈ asg n R len col mk j q, ∀ k, q + k < n → (sn (t.getD k 0)).testBit (q + k) = true := by
  intro d
  induction d using Nat.strongRecOn with
  | _ d ih =>
    intro j q hd hq hj hr t ht k hk
    have hqn : q < n := by omega
    obtain ⟨cw, cr⟩ := h.2.2 j q (Or.inl (by omega)) hqn
    rw [asg_lt hqn] at ht
    rcases List.mem_append.mp ht with ht | ht
    · split at ht
      · rename_i hb
        obtain ⟨u, hu, rfl⟩ := List.mem_map.mp ht
        have hw : 0 < wfi n R len col mk j q := by
          unfold wfi
          rw [if_pos hb]
          unfold wy
          exact List.length_pos_of_mem hu
        obtain ⟨c1, c2⟩ := cw hr hw
        cases k with
        | zero => exact c1
        | succ k =>
          rw [List.getD_cons_succ, show q + (k + 1) = q + 1 + k by omega]
          exact ih (n - (q + 1)) (by omega) j (q + 1) rfl (by omega) hj c2 u hu k (by omega)
      · cases ht
    · split at ht
      · rename_i hc
        obtain ⟨u, hu, rfl⟩ := List.mem_map.mp ht
        have hw : 0 < rfi n R len col mk j q := by
          unfold rfi
          rw [if_pos ⟨hc.1, hc.2.1⟩]
          unfold wy
          exact List.length_pos_of_mem hu
        obtain ⟨c1, c2, c3⟩ := cr hr hw
        have hf := spn_fit hc.2.2 hc.2.1
        rcases Nat.lt_or_ge k (len j) with z | z
        · rw [blk_col z]
          exact c1 k z
        · rcases Nat.lt_or_ge k (spn R len col j) with y | y
          · rw [blk_gap z y]
            have hg : gp R col j = true := by
              by_cases hg : gp R col j = true
              · exact hg
              · unfold spn at y
                rw [if_neg hg] at y
                omega
            have : spn R len col j = len j + 1 := by unfold spn; rw [if_pos hg]
            rw [show k = len j by omega]
            exact c2 hg
          · rw [blk_rest y, show q + k = q + spn R len col j + (k - spn R len col j) by omega]
            exact ih (n - (q + spn R len col j)) (by omega) (j + 1) _ rfl hf.1 hc.1 c3 u hu _ (by omega)
      · cases ht
theorem FS.iff {rc sn : Nat → Nat} (hlc : ∀ j, j < R → 1 ≤ len j) (h : FS n R len col mk (R + 1) 0 rc sn) (k p : Nat) : (sn k).testBit p = true ↔ p < n ∧ SNP n R len col mk k p := by
  constructor
  · exact h.1.2 k p
  · rintro ⟨hp, t, ht, e⟩
    have := FS.all hlc h n 0 0 (by omega) (Nat.zero_le _) (Nat.zero_le _) h.2.1 t ht p (by omega)
    rw [Nat.zero_add, e] at this
    exact this
/-- the loop's steps -/
theorem clW_grow {rc sn rc' sn' : Nat → Nat} {j q : Nat} (h : clW n R len col mk rc sn j q) (hr : (rc' j).testBit q = true → (rc j).testBit q = true) (g1 : ∀ i p, (rc i).testBit p = true → (rc' i).testBit p = true) (g2 : ∀ i p, (sn i).testBit p = true → (sn' i).testBit p = true) : clW n R len col mk rc' sn' j q := fun z y => ⟨g2 _ _ (h (hr z) y).1, g1 _ _ (h (hr z) y).2⟩
theorem clR_grow {rc sn rc' sn' : Nat → Nat} {j q : Nat} (h : clR n R len col mk rc sn j q) (hr : (rc' j).testBit q = true → (rc j).testBit q = true) (g1 : ∀ i p, (rc i).testBit p = true → (rc' i).testBit p = true) (g2 : ∀ i p, (sn i).testBit p = true → (sn' i).testBit p = true) : clR n R len col mk rc' sn' j q := fun z y => ⟨fun o ho => g2 _ _ ((h (hr z) y).1 o ho), fun hg => g2 _ _ ((h (hr z) y).2.1 hg), g1 _ _ (h (hr z) y).2.2⟩
theorem orF_le {f : Nat → Nat} {k m : Nat} : ∀ i p, (f i).testBit p = true → (orF f k m i).testBit p = true := fun i p h => orF_tb.mpr (Or.inl h)
/-- the white part of the step at (a, b) is done -/
def FSm (n R : Nat) (len col mk : Nat → Nat) (a b : Nat) (rc sn : Nat → Nat) : Prop := FS n R len col mk a b rc sn ∧ clW n R len col mk rc sn a b
theorem FS.stepW {a b : Nat} {rc sn : Nat → Nat} (h : FS n R len col mk a b rc sn) (hb : b < n) (hr : (rc a).testBit b = true) (hw : 0 < wfi n R len col mk a b) : FSm n R len col mk a b (orF rc a (2 ^ (b + 1))) (orF sn 0 (2 ^ b)) := by
  have hk : ∀ j q, (j < a ∨ (j = a ∧ q < b + 1)) → (orF rc a (2 ^ (b + 1)) j).testBit q = true → (rc j).testBit q = true := by
    intro j q hj z
    rcases orF_tb.mp z with z | ⟨z1, z⟩
    · exact z
    · rw [tb_pow] at z
      omega
  refine ⟨⟨FS.white h.1 hb hr hw, orF_le _ _ h.2.1, fun j q hj hq => ⟨clW_grow (h.2.2 j q hj hq).1 (hk j q (by omega)) orF_le orF_le, clR_grow (h.2.2 j q hj hq).2 (hk j q (by omega)) orF_le orF_le⟩⟩, fun _ _ => ⟨orF_tb.mpr (Or.inr ⟨rfl, tb_pow.mpr rfl⟩), orF_tb.mpr (Or.inr ⟨rfl, tb_pow.mpr rfl⟩)⟩⟩
theorem FS.skipW {a b : Nat} {rc sn : Nat → Nat} (h : FS n R len col mk a b rc sn) (hx : ¬ ((rc a).testBit b = true) ∨ ¬ 0 < wfi n R len col mk a b) : FSm n R len col mk a b rc sn := ⟨h, fun z y => hx.elim (fun x => absurd z x) (fun x => absurd y x)⟩
theorem FSm.skipR {a b : Nat} {rc sn : Nat → Nat} (h : FSm n R len col mk a b rc sn) (hx : ¬ ((rc a).testBit b = true) ∨ ¬ 0 < rfi n R len col mk a b) : FS n R len col mk a (b + 1) rc sn := by
  refine ⟨h.1.1, h.1.2.1, fun j q hj hq => ?_⟩
  by_cases e : j = a ∧ q = b
  · obtain ⟨rfl, rfl⟩ := e
    exact ⟨h.2, fun z y => hx.elim (fun x => absurd z x) (fun x => absurd y x)⟩
  · exact h.1.2.2 j q (by omega) hq
def snR (R : Nat) (len col : Nat → Nat) (a b : Nat) (sn : Nat → Nat) : Nat → Nat := if gp R col a = true then orF (orF sn (col a) (2 ^ (b + len a) - 2 ^ b)) 0 (2 ^ (b + len a)) else orF sn (col a) (2 ^ (b + len a) - 2 ^ b)
theorem snR_le {a b : Nat} {sn : Nat → Nat} : ∀ i p, (sn i).testBit p = true → (snR R len col a b sn i).testBit p = true := by
  intro i p h
  unfold snR
  split
  · exact orF_le _ _ (orF_le _ _ h)
  · exact orF_le _ _ h
theorem FSm.stepR {a b : Nat} {rc sn : Nat → Nat} (hlc : ∀ j, j < R → 1 ≤ len j) (h : FSm n R len col mk a b rc sn) (hb : b < n) (hr : (rc a).testBit b = true) (hw : 0 < rfi n R len col mk a b) : FS n R len col mk a (b + 1) (orF rc (a + 1) (2 ^ (b + spn R len col a))) (snR R len col a b sn) := by
  have hk : ∀ j q, j ≤ a → (orF rc (a + 1) (2 ^ (b + spn R len col a)) j).testBit q = true → (rc j).testBit q = true := by
    intro j q hj z
    rcases orF_tb.mp z with z | ⟨z1, z⟩
    · exact z
    · omega
  refine ⟨FS.run hlc h.1.1 hb hr hw, orF_le _ _ h.1.2.1, fun j q hj hq => ?_⟩
  by_cases e : j = a ∧ q = b
  · obtain ⟨rfl, rfl⟩ := e
    refine ⟨clW_grow h.2 (hk j q (Nat.le_refl _)) orF_le snR_le, fun _ _ => ⟨fun o ho => ?_, fun hg => ?_, orF_tb.mpr (Or.inr ⟨rfl, tb_pow.mpr rfl⟩)⟩⟩
    · have h1 : (orF sn (col j) (2 ^ (q + len j) - 2 ^ q) (col j)).testBit (q + o) = true := orF_tb.mpr (Or.inr ⟨rfl, (tb_run (by omega)).mpr (by omega)⟩)
      unfold snR
      split
      · exact orF_le _ _ h1
      · exact h1
    · unfold snR
      rw [if_pos hg]
      exact orF_tb.mpr (Or.inr ⟨rfl, tb_pow.mpr rfl⟩)
  · have h1 := h.1.2.2 j q (by omega) hq
    exact ⟨clW_grow h1.1 (hk j q (by omega)) orF_le snR_le, clR_grow h1.2 (hk j q (by omega)) orF_le snR_le⟩
theorem FS.next {a : Nat} {rc sn : Nat → Nat} (h : FS n R len col mk a n rc sn) : FS n R len col mk (a + 1) 0 rc sn := ⟨h.1, h.2.1, fun j q hj hq => h.2.2 j q (by omega) hq⟩
theorem FS.init : FS n R len col mk 0 0 (fun i => if i = 0 then 1 else 0) (fun _ => 0) := by
  refine ⟨⟨fun j q z => ?_, fun k p z => ?_⟩, rfl, fun j q hj => absurd hj (by omega)⟩
  · by_cases e : j = 0
    · subst e
      have z2 : (2 ^ 0 : Nat).testBit q = true := z
      rw [tb_pow] at z2
      subst z2
      exact ⟨Nat.zero_le _, [], rfl, fun t ht => ht⟩
    · simp [e] at z
  · simp at z
end SEEN
