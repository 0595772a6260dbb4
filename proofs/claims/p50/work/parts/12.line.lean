/-! A LINE: n cells, R runs (len, col), mk: the candidates of each position. Sets of positions are bits. -/
def bm (f : Nat → Bool) : Nat → Nat
  | 0 => 0
  | n + 1 => bm f n ||| (if f n then 2 ^ n else 0)
theorem bm_lt (f : Nat → Bool) : ∀ n, bm f n < 2 ^ n
  | 0 => Nat.two_pow_pos 0
  | n + 1 => by
    unfold bm
    have h1 := bm_lt f n
    have h2 : (2 : Nat) ^ n < 2 ^ (n + 1) := Nat.pow_lt_pow_right (by decide) (by omega)
    refine Nat.or_lt_two_pow (Nat.lt_trans h1 h2) ?_
    split
    · exact h2
    · exact Nat.two_pow_pos _
theorem bm_tb (f : Nat → Bool) (p : Nat) : ∀ n, (bm f n).testBit p = (decide (p < n) && f p)
  | 0 => by simp [bm]
  | n + 1 => by
    unfold bm
    rw [Nat.testBit_or, bm_tb f p n]
    by_cases hp : p = n
    · subst hp
      by_cases hf : f p
      · simp [hf, Nat.testBit_two_pow_self]
      · simp [hf]
    · have e : decide (p < n + 1) = decide (p < n) := by
        by_cases h : p < n
        · simp [h, Nat.lt_succ_of_lt h]
        · have : ¬ p < n + 1 := by omega
          simp [h, this]
      rw [e]
      by_cases hf : f n
      · simp [hf, Nat.testBit_two_pow, Ne.symm hp]
      · simp [hf]
/-- the positions p with P at p, p + 1 .. p + o -/
def ft (P : Nat) : Nat → Nat
  | 0 => P
  | o + 1 => ft P o &&& (P / 2 ^ (o + 1))
theorem tb_div (x i j : Nat) : (x / 2 ^ i).testBit j = x.testBit (i + j) := by
  rw [← Nat.shiftRight_eq_div_pow, Nat.testBit_shiftRight]
theorem ft_le (P : Nat) : ∀ o, ft P o ≤ P
  | 0 => Nat.le_refl _
  | o + 1 => Nat.le_trans Nat.and_le_left (ft_le P o)
theorem ft_tb (P p : Nat) : ∀ o, (ft P o).testBit p = true ↔ ∀ j, j ≤ o → P.testBit (p + j) = true
  | 0 => ⟨fun h j hj => by rw [Nat.le_zero.mp hj]; exact h, fun h => h 0 (Nat.le_refl _)⟩
  | o + 1 => by
    unfold ft
    rw [Nat.testBit_and, tb_div, Bool.and_eq_true, ft_tb P p o]
    constructor
    · rintro ⟨h1, h2⟩ j hj
      rcases Nat.lt_or_ge j (o + 1) with h | h
      · exact h1 j (by omega)
      · rw [show j = o + 1 by omega, Nat.add_comm]; exact h2
    · intro h
      exact ⟨fun j hj => h j (by omega), by rw [Nat.add_comm]; exact h (o + 1) (Nat.le_refl _)⟩
section LINE
variable (n R : Nat) (len col mk : Nat → Nat)
def gp (j : Nat) : Bool := decide (j + 1 < R ∧ col j = col (j + 1))
def spn (j : Nat) : Nat := len j + (if gp R col j then 1 else 0)
def pos (k : Nat) : Nat := bm (fun p => (mk p).testBit k) n
def stt (j : Nat) : Nat := if gp R col j then ft (pos n mk (col j)) (len j - 1) &&& (pos n mk 0 / 2 ^ len j) else ft (pos n mk (col j)) (len j - 1)
def blk (j : Nat) : List Nat := List.replicate (len j) (col j) ++ (if gp R col j then [0] else [])
/-- the rest of all possible assignments, in order, when j runs stand and p cells are there -/
def asg (j p : Nat) : List (List Nat) :=
  if h : p < n then
    (if (pos n mk 0).testBit p then (asg j (p + 1)).map (fun t => 0 :: t) else []) ++
    (if h2 : j < R ∧ (stt n R len col mk j).testBit p = true ∧ 1 ≤ len j then (asg (j + 1) (p + spn R len col j)).map (fun t => blk R len col j ++ t) else [])
  else if p = n ∧ j = R then [[]] else []
termination_by n - p
decreasing_by
  · omega
  · have : 1 ≤ spn R len col j := by unfold spn; omega
    omega
def wy (j p : Nat) : Nat := (asg n R len col mk j p).length
variable {n R len col mk}
theorem pos_tb (k p : Nat) : (pos n mk k).testBit p = true ↔ p < n ∧ (mk p).testBit k = true := by
  unfold pos
  rw [bm_tb, Bool.and_eq_true, decide_eq_true_eq]
theorem pos_lt (k : Nat) : pos n mk k < 2 ^ n := bm_lt _ n
theorem stt_le (j : Nat) : stt n R len col mk j ≤ pos n mk (col j) := by
  unfold stt
  split
  · exact Nat.le_trans Nat.and_le_left (ft_le _ _)
  · exact ft_le _ _
/-- where a run may start -/
theorem stt_tb {j p : Nat} (hl : 1 ≤ len j) : (stt n R len col mk j).testBit p = true ↔ (∀ o, o < len j → p + o < n ∧ (mk (p + o)).testBit (col j) = true) ∧ (gp R col j = true → p + len j < n ∧ (mk (p + len j)).testBit 0 = true) := by
  have h1 : (ft (pos n mk (col j)) (len j - 1)).testBit p = true ↔ ∀ o, o < len j → p + o < n ∧ (mk (p + o)).testBit (col j) = true := by
    rw [ft_tb]
    exact ⟨fun h o ho => (pos_tb _ _).mp (h o (by omega)), fun h o ho => (pos_tb _ _).mpr (h o (by omega))⟩
  unfold stt
  by_cases hg : gp R col j = true
  · rw [if_pos hg, Nat.testBit_and, Bool.and_eq_true, h1, tb_div, pos_tb, Nat.add_comm (len j) p]
    exact ⟨fun h => ⟨h.1, fun _ => h.2⟩, fun h => ⟨h.1, h.2 hg⟩⟩
  · rw [if_neg hg, h1]
    exact ⟨fun h => ⟨h, fun z => absurd z hg⟩, fun h => h.1⟩
theorem spn_fit {j p : Nat} (hl : 1 ≤ len j) (h : (stt n R len col mk j).testBit p = true) : p + spn R len col j ≤ n ∧ 1 ≤ spn R len col j := by
  obtain ⟨h1, h2⟩ := (stt_tb hl).mp h
  have h3 := (h1 (len j - 1) (by omega)).1
  unfold spn
  by_cases hg : gp R col j = true
  · rw [if_pos hg]
    have := (h2 hg).1
    omega
  · rw [if_neg hg]
    omega
theorem wy_end {j : Nat} : wy n R len col mk j n = if j = R then 1 else 0 := by
  unfold wy
  rw [asg, dif_neg (Nat.lt_irrefl n)]
  by_cases h : j = R
  · rw [if_pos ⟨rfl, h⟩, if_pos h]; rfl
  · rw [if_neg (fun z => h z.2), if_neg h]; rfl
theorem wy_step {j p : Nat} (hp : p < n) (hl : j < R → 1 ≤ len j) : wy n R len col mk j p = (if (pos n mk 0).testBit p then wy n R len col mk j (p + 1) else 0) + (if j < R ∧ (stt n R len col mk j).testBit p = true then wy n R len col mk (j + 1) (p + spn R len col j) else 0) := by
  unfold wy
  rw [asg, dif_pos hp, List.length_append]
  congr 1
  · split
    · rw [List.length_map]
    · rfl
  · by_cases h : j < R ∧ (stt n R len col mk j).testBit p = true
    · rw [dif_pos ⟨h.1, h.2, hl h.1⟩, if_pos h, List.length_map]
    · rw [dif_neg (fun z => h ⟨z.1, z.2.1⟩), if_neg h]; rfl
end LINE
