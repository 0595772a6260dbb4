/-! A PUZZLE: r rows, c columns, k colors, a clue for each line; f: the candidates of the cells, in row order -/
theorem bm_le {f : Nat → Bool} {m n : Nat} (h : ∀ k, k < n → f k = true → m.testBit k = true) : ∀ k, (bm f n).testBit k = true → m.testBit k = true := by
  intro k hk
  rw [bm_tb, Bool.and_eq_true, decide_eq_true_eq] at hk
  exact h k hk.1 hk.2
section CHG
variable {n R : Nat} {len col mk : Nat → Nat}
/-- the members of asg keep the masks -/
theorem asg_mk (hlc : ∀ j, j < R → 1 ≤ len j) : ∀ (d p j : Nat), n - p = d → p ≤ n → ∀ t ∈ asg n R len col mk j p, ∀ k, p + k < n → (mk (p + k)).testBit (t.getD k 0) = true := by
  intro d
  induction d using Nat.strongRecOn with
  | _ d ih =>
    intro p j hd hp t ht k hk
    have hpn : p < n := by omega
    rw [asg_lt hpn] at ht
    rcases List.mem_append.mp ht with ht | ht
    · split at ht
      · rename_i hb
        obtain ⟨u, hu, rfl⟩ := List.mem_map.mp ht
        cases k with
        | zero => exact ((pos_tb _ _).mp hb).2
        | succ k =>
          rw [List.getD_cons_succ, show p + (k + 1) = p + 1 + k by omega]
          exact ih (n - (p + 1)) (by omega) (p + 1) j rfl (by omega) u hu k (by omega)
      · cases ht
    · split at ht
      · rename_i hc
        obtain ⟨u, hu, rfl⟩ := List.mem_map.mp ht
        have hf := spn_fit hc.2.2 hc.2.1
        obtain ⟨s1, s2⟩ := (stt_tb hc.2.2).mp hc.2.1
        rcases Nat.lt_or_ge k (len j) with z | z
        · rw [blk_col z]
          exact (s1 k z).2
        · rcases Nat.lt_or_ge k (spn R len col j) with y | y
          · rw [blk_gap z y]
            have hg : gp R col j = true := by
              by_cases hg : gp R col j = true
              · exact hg
              · unfold spn at y
                rw [if_neg hg] at y
                omega
            have : spn R len col j = len j + 1 := by unfold spn; rw [if_pos hg]
            rw [show k = len j by omega]
            exact (s2 hg).2
          · rw [blk_rest y, show p + k = p + spn R len col j + (k - spn R len col j) by omega]
            exact ih (n - (p + spn R len col j)) (by omega) _ (j + 1) rfl hf.1 u hu _ (by omega)
      · cases ht
/-- a member stays one where the masks keep its colors -/
theorem asg_change {mk2 : Nat → Nat} (hlc : ∀ j, j < R → 1 ≤ len j) : ∀ (d p j : Nat), n - p = d → p ≤ n → ∀ t ∈ asg n R len col mk j p, (∀ k, p + k < n → (mk2 (p + k)).testBit (t.getD k 0) = true) → t ∈ asg n R len col mk2 j p := by
  intro d
  induction d using Nat.strongRecOn with
  | _ d ih =>
    intro p j hd hp t ht h2
    rcases Nat.lt_or_ge p n with hpn | hpn
    · rw [asg_lt hpn] at ht ⊢
      rcases List.mem_append.mp ht with ht | ht
      · split at ht
        · rename_i hb
          obtain ⟨u, hu, rfl⟩ := List.mem_map.mp ht
          refine List.mem_append_left _ ?_
          rw [if_pos ((pos_tb 0 p).mpr ⟨hpn, h2 0 hpn⟩)]
          refine List.mem_map.mpr ⟨u, ih (n - (p + 1)) (by omega) (p + 1) j rfl (by omega) u hu (fun k hk => ?_), rfl⟩
          have := h2 (k + 1) (by omega)
          rw [List.getD_cons_succ, show p + (k + 1) = p + 1 + k by omega] at this
          exact this
        · cases ht
      · split at ht
        · rename_i hc
          obtain ⟨u, hu, rfl⟩ := List.mem_map.mp ht
          refine List.mem_append_right _ ?_
          have hf := spn_fit hc.2.2 hc.2.1
          obtain ⟨s1, s2⟩ := (stt_tb hc.2.2).mp hc.2.1
          have hst : (stt n R len col mk2 j).testBit p = true := by
            refine (stt_tb hc.2.2).mpr ⟨fun o ho => ⟨(s1 o ho).1, ?_⟩, fun hg => ⟨(s2 hg).1, ?_⟩⟩
            · have := h2 o (s1 o ho).1
              rw [blk_col ho] at this
              exact this
            · have := h2 (len j) (s2 hg).1
              rw [blk_gap (Nat.le_refl _) (by unfold spn; rw [if_pos hg]; omega)] at this
              exact this
          rw [if_pos ⟨hc.1, hst, hc.2.2⟩]
          refine List.mem_map.mpr ⟨u, ih (n - (p + spn R len col j)) (by omega) _ (j + 1) rfl hf.1 u hu (fun k hk => ?_), rfl⟩
          have := h2 (spn R len col j + k) (by omega)
          rw [blk_rest (by omega), show spn R len col j + k - spn R len col j = k by omega, ← Nat.add_assoc] at this
          exact this
        · cases ht
    · have e : p = n := by omega
      subst e
      rw [asg] at ht ⊢
      rw [dif_neg (Nat.lt_irrefl _)] at ht ⊢
      exact ht
end CHG
/-- a decision, by choice -/
noncomputable def cdec (p : Prop) : Bool := @decide p (Classical.propDecidable p)
theorem cdec_t {p : Prop} : cdec p = true ↔ p := @decide_eq_true_iff p (Classical.propDecidable p)
noncomputable def cif {α : Type} (p : Prop) (a b : α) : α := @ite α p (Classical.propDecidable p) a b
theorem cif_t {α : Type} {p : Prop} {a b : α} (h : p) : cif p a b = a := @if_pos p (Classical.propDecidable p) h α a b
theorem cif_f {α : Type} {p : Prop} {a b : α} (h : ¬ p) : cif p a b = b := @if_neg p (Classical.propDecidable p) h α a b
/-- rows, columns, colors; the lines' clues: how many runs, their lengths, their colors -/
def Pz : Type := Nat × Nat × Nat × (Nat → Nat) × (Nat → Nat → Nat) × (Nat → Nat → Nat)
def Pz.r (P : Pz) : Nat := P.1
def Pz.c (P : Pz) : Nat := P.2.1
def Pz.k (P : Pz) : Nat := P.2.2.1
def Pz.R (P : Pz) : Nat → Nat := P.2.2.2.1
def Pz.len (P : Pz) : Nat → Nat → Nat := P.2.2.2.2.1
def Pz.col (P : Pz) : Nat → Nat → Nat := P.2.2.2.2.2
def Pz.ok (P : Pz) : Prop := 1 ≤ P.r ∧ P.r ≤ 8 ∧ 1 ≤ P.c ∧ P.c ≤ 8 ∧ 1 ≤ P.k ∧ P.k ≤ 3 ∧ ∀ i, P.R i ≤ 8 ∧ ∀ j, j < P.R i → 1 ≤ P.len i j ∧ P.len i j ≤ 8 ∧ 1 ≤ P.col i j ∧ P.col i j ≤ 3
theorem Pz.ok.r1 {P : Pz} (h : P.ok) : 1 ≤ P.r := h.1
theorem Pz.ok.r8 {P : Pz} (h : P.ok) : P.r ≤ 8 := h.2.1
theorem Pz.ok.c1 {P : Pz} (h : P.ok) : 1 ≤ P.c := h.2.2.1
theorem Pz.ok.c8 {P : Pz} (h : P.ok) : P.c ≤ 8 := h.2.2.2.1
theorem Pz.ok.k1 {P : Pz} (h : P.ok) : 1 ≤ P.k := h.2.2.2.2.1
theorem Pz.ok.k3 {P : Pz} (h : P.ok) : P.k ≤ 3 := h.2.2.2.2.2.1
theorem Pz.ok.cl {P : Pz} (h : P.ok) : ∀ i, P.R i ≤ 8 ∧ ∀ j, j < P.R i → 1 ≤ P.len i j ∧ P.len i j ≤ 8 ∧ 1 ≤ P.col i j ∧ P.col i j ≤ 3 := h.2.2.2.2.2.2
theorem Pz.ok.h1 {P : Pz} (h : P.ok) (i : Nat) : ∀ j, j < P.R i → 1 ≤ P.len i j := fun j hj => ((h.cl i).2 j hj).1
/-- good candidates -/
def GF (P : Pz) (f : Nat → Nat) : Prop := ∀ x, x < P.r * P.c → 1 ≤ f x ∧ f x < 16
section PUZ
variable (P : Pz) (f : Nat → Nat) (i : Nat)
def lmk : Nat → Nat := fun q => f (lnCell P.r P.c i q)
def asL : List (List Nat) := asg (lnLen P.r P.c i) (P.R i) (P.len i) (P.col i) (lmk P f i) 0 0
def wyL : Nat := wy (lnLen P.r P.c i) (P.R i) (P.len i) (P.col i) (lmk P f i) 0 0
def snL (k p : Nat) : Prop := SNP (lnLen P.r P.c i) (P.R i) (P.len i) (P.col i) (lmk P f i) k p
noncomputable def kpL (p : Nat) : Nat := bm (fun k => cdec (snL P f i k p)) 4
noncomputable def lnT : Nat → (Nat → Nat)
  | 0 => f
  | p + 1 => fun x => if x = lnCell P.r P.c i p then kpL P f i p else lnT p x
noncomputable def lnS : Nat → Nat := lnT P f i (lnLen P.r P.c i)
def crs (p : Nat) : Nat := if i < P.r then P.r + p else p
noncomputable def tch : Nat → Nat
  | 0 => 0
  | p + 1 => tch p ||| (if kpL P f i p ≠ f (lnCell P.r P.c i p) then 2 ^ crs P i p else 0)
def stbl : Prop := wyL P f i ≠ 0 ∧ ∀ p, p < lnLen P.r P.c i → kpL P f i p = f (lnCell P.r P.c i p)
def WT : Nat := sm (fun x => pc4 (f x)) (P.r * P.c)
end PUZ
theorem lmk_at {P : Pz} {f : Nat → Nat} {i q : Nat} : lmk P f i q = f (lnCell P.r P.c i q) := rfl
theorem mem_wy {P : Pz} {f : Nat → Nat} {i : Nat} : wyL P f i ≠ 0 ↔ ∃ t, t ∈ asL P f i := by
  constructor
  · intro h
    exact wy_ex (Nat.pos_of_ne_zero h)
  · rintro ⟨t, ht⟩
    have := List.length_pos_of_mem ht
    unfold wyL wy
    unfold asL at this
    omega
theorem lnCell_inj {P : Pz} {i p q : Nat} (hc1 : 1 ≤ P.c) (h : lnCell P.r P.c i p = lnCell P.r P.c i q) : p = q := by
  unfold lnCell at h
  by_cases hi : i < P.r
  · rw [if_pos hi, if_pos hi] at h; omega
  · rw [if_neg hi, if_neg hi] at h
    exact Nat.eq_of_mul_eq_mul_right hc1 (by omega)
theorem kpL_lt {P : Pz} {f : Nat → Nat} {i p : Nat} : kpL P f i p < 16 := bm_lt _ 4
theorem kpL_tb {P : Pz} {f : Nat → Nat} {i p k : Nat} : (kpL P f i p).testBit k = true ↔ k < 4 ∧ snL P f i k p := by
  unfold kpL
  rw [bm_tb, Bool.and_eq_true, decide_eq_true_eq, cdec_t]
theorem snL_mem {P : Pz} {f : Nat → Nat} {i p k : Nat} : snL P f i k p ↔ ∃ t ∈ asL P f i, t.getD p 0 = k := Iff.rfl
theorem asL_mk {P : Pz} {f : Nat → Nat} {i : Nat} (hP : P.ok) {t : List Nat} (ht : t ∈ asL P f i) {p : Nat} (hp : p < lnLen P.r P.c i) : (f (lnCell P.r P.c i p)).testBit (t.getD p 0) = true := by
  have := asg_mk (hP.h1 i) _ 0 0 rfl (Nat.zero_le _) t ht p (by omega)
  rw [Nat.zero_add] at this
  exact this
theorem tb_lt4 {m k : Nat} (hm : m < 16) (h : m.testBit k = true) : k < 4 := by
  rcases Nat.lt_or_ge k 4 with z | z
  · exact z
  · rw [Nat.testBit_lt_two_pow (Nat.lt_of_lt_of_le hm (Nat.pow_le_pow_right (by decide) z : 2 ^ 4 ≤ 2 ^ k))] at h
    cases h
theorem kpL_sub {P : Pz} {f : Nat → Nat} {i p : Nat} (hP : P.ok) (hp : p < lnLen P.r P.c i) (k : Nat) (h : (kpL P f i p).testBit k = true) : (f (lnCell P.r P.c i p)).testBit k = true := by
  obtain ⟨-, t, ht, rfl⟩ := kpL_tb.mp h
  exact asL_mk hP ht hp
theorem kpL_pos {P : Pz} {f : Nat → Nat} {i p : Nat} (hP : P.ok) (hf : GF P f) (hi : i < P.r + P.c) (hw : wyL P f i ≠ 0) (hp : p < lnLen P.r P.c i) : 1 ≤ kpL P f i p := by
  obtain ⟨t, ht⟩ := mem_wy.mp hw
  have h1 := asL_mk hP ht hp
  have h4 := tb_lt4 (hf _ (lnCell_lt hi hp)).2 h1
  have h2 : (kpL P f i p).testBit (t.getD p 0) = true := kpL_tb.mpr ⟨h4, t, ht, rfl⟩
  rcases Nat.eq_zero_or_pos (kpL P f i p) with e | e
  · rw [e] at h2; simp at h2
  · exact e
theorem lnT_at {P : Pz} {f : Nat → Nat} {i : Nat} (hc1 : 1 ≤ P.c) {q : Nat} : ∀ p, q < p → lnT P f i p (lnCell P.r P.c i q) = kpL P f i q := by
  intro p
  induction p with
  | zero => intro h; omega
  | succ p ih =>
    intro h
    unfold lnT
    by_cases e : q = p
    · subst e; rw [if_pos rfl]
    · rw [if_neg (fun z => e (lnCell_inj hc1 z))]
      exact ih (by omega)
theorem lnT_out {P : Pz} {f : Nat → Nat} {i x : Nat} : ∀ p, (∀ q, q < p → x ≠ lnCell P.r P.c i q) → lnT P f i p x = f x := by
  intro p
  induction p with
  | zero => intro _; rfl
  | succ p ih =>
    intro h
    unfold lnT
    rw [if_neg (h p (Nat.lt_succ_self p))]
    exact ih (fun q hq => h q (by omega))
theorem lnS_at {P : Pz} {f : Nat → Nat} {i q : Nat} (hc1 : 1 ≤ P.c) (hq : q < lnLen P.r P.c i) : lnS P f i (lnCell P.r P.c i q) = kpL P f i q := lnT_at hc1 _ hq
theorem lnS_out {P : Pz} {f : Nat → Nat} {i x : Nat} (h : ∀ q, q < lnLen P.r P.c i → x ≠ lnCell P.r P.c i q) : lnS P f i x = f x := lnT_out _ h
theorem lnT_gf {P : Pz} {f : Nat → Nat} {i : Nat} (hP : P.ok) (hf : GF P f) (hi : i < P.r + P.c) (hw : wyL P f i ≠ 0) : ∀ p, p ≤ lnLen P.r P.c i → GF P (lnT P f i p) := by
  intro p
  induction p with
  | zero => intro _; exact hf
  | succ p ih =>
    intro hp x hx
    unfold lnT
    by_cases e : x = lnCell P.r P.c i p
    · rw [if_pos e]
      exact ⟨kpL_pos hP hf hi hw (by omega), kpL_lt⟩
    · rw [if_neg e]
      exact ih (by omega) x hx
theorem lnS_gf {P : Pz} {f : Nat → Nat} {i : Nat} (hP : P.ok) (hf : GF P f) (hi : i < P.r + P.c) (hw : wyL P f i ≠ 0) : GF P (lnS P f i) := lnT_gf hP hf hi hw _ (Nat.le_refl _)
theorem sm_upd {g : Nat → Nat} {x v : Nat} : ∀ n, x < n → sm (fun z => if z = x then v else g z) n + g x = sm g n + v := by
  intro n
  induction n with
  | zero => intro h; omega
  | succ n ih =>
    intro h
    unfold sm
    by_cases e : n = x
    · subst e
      rw [if_pos rfl, sm_c (f := fun z => if z = n then v else g z) (g := g) (fun j hj => if_neg (by omega))]
      omega
    · rw [if_neg e]
      have := ih (by omega)
      omega
theorem pc4_mono : ∀ a, a < 16 → ∀ b, b < 16 → (∀ k, k < 4 → a.testBit k = true → b.testBit k = true) → pc4 a ≤ pc4 b ∧ (pc4 a = pc4 b → a = b) := by decide +kernel
theorem pc4_1 : ∀ a, a < 16 → 1 ≤ a → 1 ≤ pc4 a := by decide +kernel
theorem kpL_pc {P : Pz} {f : Nat → Nat} {i p : Nat} (hP : P.ok) (hf : GF P f) (hi : i < P.r + P.c) (hp : p < lnLen P.r P.c i) : pc4 (kpL P f i p) ≤ pc4 (f (lnCell P.r P.c i p)) ∧ (pc4 (kpL P f i p) = pc4 (f (lnCell P.r P.c i p)) → kpL P f i p = f (lnCell P.r P.c i p)) := pc4_mono _ kpL_lt _ (hf _ (lnCell_lt hi hp)).2 (fun k _ h => kpL_sub hP hp k h)
/-- the count of what goes, cell by cell -/
theorem WT_step {P : Pz} {f : Nat → Nat} {i p : Nat} (hc1 : 1 ≤ P.c) (hi : i < P.r + P.c) (hp : p < lnLen P.r P.c i) : WT P (lnT P f i (p + 1)) + pc4 (f (lnCell P.r P.c i p)) = WT P (lnT P f i p) + pc4 (kpL P f i p) := by
  have h := sm_upd (g := fun x => pc4 (lnT P f i p x)) (x := lnCell P.r P.c i p) (v := pc4 (kpL P f i p)) (P.r * P.c) (lnCell_lt hi hp)
  unfold WT
  rw [sm_c (f := fun x => pc4 (lnT P f i (p + 1) x)) (g := fun z => if z = lnCell P.r P.c i p then pc4 (kpL P f i p) else pc4 (lnT P f i p z)) (fun j _ => by
    show pc4 (if j = lnCell P.r P.c i p then kpL P f i p else lnT P f i p j) = _
    split <;> rfl)]
  have e : lnT P f i p (lnCell P.r P.c i p) = f (lnCell P.r P.c i p) := lnT_out p (fun q hq z => by have := lnCell_inj hc1 z; omega)
  simp only [e] at h
  exact h
theorem WT_T {P : Pz} {f : Nat → Nat} {i : Nat} (hP : P.ok) (hf : GF P f) (hi : i < P.r + P.c) : ∀ p, p ≤ lnLen P.r P.c i → WT P (lnT P f i p) ≤ WT P f := by
  intro p
  induction p with
  | zero => intro _; exact Nat.le_refl _
  | succ p ih =>
    intro hp
    have h1 := WT_step (f := f) hP.c1 hi (show p < lnLen P.r P.c i by omega)
    have h2 := (kpL_pc hP hf hi (show p < lnLen P.r P.c i by omega)).1
    have h3 := ih (by omega)
    omega
theorem WT_S {P : Pz} {f : Nat → Nat} {i : Nat} (hP : P.ok) (hf : GF P f) (hi : i < P.r + P.c) : WT P (lnS P f i) ≤ WT P f := WT_T hP hf hi _ (Nat.le_refl _)
theorem lnT_same {P : Pz} {f : Nat → Nat} {i : Nat} : ∀ p, (∀ q, q < p → kpL P f i q = f (lnCell P.r P.c i q)) → lnT P f i p = f := by
  intro p
  induction p with
  | zero => intro _; rfl
  | succ p ih =>
    intro h
    funext x
    unfold lnT
    by_cases e : x = lnCell P.r P.c i p
    · rw [if_pos e, h p (Nat.lt_succ_self p), e]
    · rw [if_neg e, ih (fun q hq => h q (by omega))]
theorem stbl.same {P : Pz} {f : Nat → Nat} {i : Nat} (h : stbl P f i) : lnS P f i = f := lnT_same _ h.2
theorem WT_eq {P : Pz} {f : Nat → Nat} {i : Nat} (hP : P.ok) (hf : GF P f) (hi : i < P.r + P.c) (he : WT P (lnS P f i) = WT P f) (p : Nat) (hp : p < lnLen P.r P.c i) : kpL P f i p = f (lnCell P.r P.c i p) := by
  have key : ∀ m, m ≤ lnLen P.r P.c i → WT P (lnT P f i m) = WT P f → ∀ q, q < m → kpL P f i q = f (lnCell P.r P.c i q) := by
    intro m
    induction m with
    | zero => intro _ _ q hq; omega
    | succ m ih =>
      intro hm hW q hq
      have h1 := WT_step (f := f) hP.c1 hi (show m < lnLen P.r P.c i by omega)
      have h2 := kpL_pc hP hf hi (show m < lnLen P.r P.c i by omega)
      have h3 := WT_T hP hf hi m (by omega)
      rcases Nat.lt_or_ge q m with z | z
      · exact ih (by omega) (by omega) q z
      · rw [show q = m by omega]
        exact h2.2 (by omega)
  exact key _ (Nat.le_refl _) he p hp
/-- the same candidates on a line: the same line -/
theorem asL_of {P : Pz} {f g : Nat → Nat} {i : Nat} (hP : P.ok) (h : ∀ t ∈ asL P f i, ∀ p, p < lnLen P.r P.c i → (g (lnCell P.r P.c i p)).testBit (t.getD p 0) = true) : ∀ t ∈ asL P f i, t ∈ asL P g i := by
  intro t ht
  refine asg_change (hP.h1 i) _ 0 0 rfl (Nat.zero_le _) t ht (fun k hk => ?_)
  rw [Nat.zero_add] at hk ⊢
  exact h t ht k hk
theorem mem_congr {P : Pz} {f g : Nat → Nat} {i : Nat} (h : ∀ t, t ∈ asL P f i ↔ t ∈ asL P g i) : (wyL P f i ≠ 0 ↔ wyL P g i ≠ 0) ∧ ∀ p, kpL P f i p = kpL P g i p := by
  refine ⟨by rw [mem_wy, mem_wy]; exact ⟨fun ⟨t, ht⟩ => ⟨t, (h t).mp ht⟩, fun ⟨t, ht⟩ => ⟨t, (h t).mpr ht⟩⟩, fun p => ?_⟩
  apply Nat.eq_of_testBit_eq
  intro k
  apply Bool.eq_iff_iff.mpr
  rw [kpL_tb, kpL_tb, snL_mem, snL_mem]
  exact ⟨fun ⟨a, t, ht, e⟩ => ⟨a, t, (h t).mp ht, e⟩, fun ⟨a, t, ht, e⟩ => ⟨a, t, (h t).mpr ht, e⟩⟩
theorem stbl.congr {P : Pz} {f g : Nat → Nat} {i : Nat} (hP : P.ok) (h : stbl P f i) (he : ∀ p, p < lnLen P.r P.c i → g (lnCell P.r P.c i p) = f (lnCell P.r P.c i p)) : stbl P g i := by
  have h1 : ∀ t, t ∈ asL P f i ↔ t ∈ asL P g i := fun t => ⟨asL_of hP (fun u hu p hp => by rw [he p hp]; exact asL_mk hP hu hp) t, asL_of hP (fun u hu p hp => by rw [← he p hp]; exact asL_mk hP hu hp) t⟩
  obtain ⟨h2, h3⟩ := mem_congr h1
  refine ⟨h2.mp h.1, fun p hp => ?_⟩
  rw [← h3 p, he p hp]
  exact h.2 p hp
/-- a solved line is stable -/
theorem stbl.solved {P : Pz} {f : Nat → Nat} {i : Nat} (hP : P.ok) (hf : GF P f) (hi : i < P.r + P.c) (hw : wyL P f i ≠ 0) : stbl P (lnS P f i) i := by
  have h1 : ∀ t, t ∈ asL P f i ↔ t ∈ asL P (lnS P f i) i := fun t => ⟨asL_of hP (fun u hu p hp => by
      rw [lnS_at hP.c1 hp]
      exact kpL_tb.mpr ⟨tb_lt4 (hf _ (lnCell_lt hi hp)).2 (asL_mk hP hu hp), u, hu, rfl⟩) t, asL_of hP (fun u hu p hp => by
      have := asL_mk hP hu hp
      rw [lnS_at hP.c1 hp] at this
      exact kpL_sub hP hp _ this) t⟩
  obtain ⟨h2, h3⟩ := mem_congr h1
  refine ⟨h2.mp hw, fun p hp => ?_⟩
  rw [← h3 p, lnS_at hP.c1 hp]
theorem div_eq {a b c p : Nat} (hp : p < c) (h : a = b * c + p) : a / c = b ∧ a % c = p := by
  subst h
  rw [Nat.mul_comm]
  exact ⟨by rw [Nat.mul_add_div (by omega), Nat.div_eq_of_lt hp, Nat.add_zero], by rw [Nat.mul_add_mod, Nat.mod_eq_of_lt hp]⟩
/-- two lines meet in one cell -/
theorem crs_ok {P : Pz} {i j p q : Nat} (hi : i < P.r + P.c) (hj : j < P.r + P.c) (hp : p < lnLen P.r P.c j) (hq : q < lnLen P.r P.c i) (h : lnCell P.r P.c j p = lnCell P.r P.c i q) : j = i ∨ j = crs P i q := by
  unfold lnLen at hp hq
  unfold lnCell at h
  unfold crs
  by_cases h1 : i < P.r
  · rw [if_pos h1] at hq h ⊢
    by_cases h2 : j < P.r
    · rw [if_pos h2] at hp h
      left
      have a1 := div_eq hp h.symm
      have a2 := div_eq hq (rfl : i * P.c + q = i * P.c + q)
      have := a2.1.symm.trans a1.1
      exact this.symm
    · rw [if_neg h2] at hp h
      right
      have a1 := div_eq (show j - P.r < P.c by omega) h.symm
      have a2 := div_eq hq (rfl : i * P.c + q = i * P.c + q)
      have := a2.2.symm.trans a1.2
      omega
  · rw [if_neg h1] at hq h ⊢
    by_cases h2 : j < P.r
    · rw [if_pos h2] at hp h
      right
      have a1 := div_eq hp h.symm
      have a2 := div_eq (show i - P.r < P.c by omega) (rfl : q * P.c + (i - P.r) = q * P.c + (i - P.r))
      exact a1.1.symm.trans a2.1
    · rw [if_neg h2] at hp h
      left
      have a1 := div_eq (show j - P.r < P.c by omega) h.symm
      have a2 := div_eq (show i - P.r < P.c by omega) (rfl : q * P.c + (i - P.r) = q * P.c + (i - P.r))
      have := a2.2.symm.trans a1.2
      omega
theorem tch_tb {P : Pz} {f : Nat → Nat} {i j : Nat} : ∀ p, (tch P f i p).testBit j = true ↔ ∃ q, q < p ∧ kpL P f i q ≠ f (lnCell P.r P.c i q) ∧ j = crs P i q := by
  intro p
  induction p with
  | zero => simp [tch]
  | succ p ih =>
    unfold tch
    rw [Nat.testBit_or, Bool.or_eq_true, ih]
    constructor
    · rintro (⟨q, h1, h2, h3⟩ | h)
      · exact ⟨q, by omega, h2, h3⟩
      · by_cases hk : kpL P f i p ≠ f (lnCell P.r P.c i p)
        · rw [if_pos hk, tb_pow] at h
          exact ⟨p, Nat.lt_succ_self p, hk, h⟩
        · rw [if_neg hk] at h; simp at h
    · rintro ⟨q, h1, h2, h3⟩
      by_cases e : q = p
      · subst e
        right
        rw [if_pos h2, tb_pow]
        exact h3
      · exact Or.inl ⟨q, by omega, h2, h3⟩
theorem crs_lt {P : Pz} {i p : Nat} (hp : p < lnLen P.r P.c i) : crs P i p < P.r + P.c := by
  unfold crs
  unfold lnLen at hp
  split
  · rename_i h; rw [if_pos h] at hp; omega
  · rename_i h; rw [if_neg h] at hp; omega
theorem tch_lt {P : Pz} {f : Nat → Nat} {i : Nat} (hP : P.ok) : ∀ p, p ≤ lnLen P.r P.c i → tch P f i p < 2 ^ 16 := by
  intro p
  induction p with
  | zero => intro _; exact Nat.two_pow_pos _
  | succ p ih =>
    intro hp
    unfold tch
    refine Nat.or_lt_two_pow (ih (by omega)) ?_
    split
    · exact Nat.pow_lt_pow_right (by decide) (by have := crs_lt (P := P) (i := i) (show p < lnLen P.r P.c i by omega); have := hP.r8; have := hP.c8; omega)
    · exact Nat.two_pow_pos _
/-- what solving a line leaves stable -/
theorem stbl.other {P : Pz} {f : Nat → Nat} {i j : Nat} (hP : P.ok) (hi : i < P.r + P.c) (hj : j < P.r + P.c) (hji : j ≠ i) (h : stbl P f j) (ht : (tch P f i (lnLen P.r P.c i)).testBit j = false) : stbl P (lnS P f i) j := by
  refine h.congr hP (fun p hp => ?_)
  by_cases hx : ∃ q, q < lnLen P.r P.c i ∧ lnCell P.r P.c j p = lnCell P.r P.c i q
  · obtain ⟨q, hq, e⟩ := hx
    rw [e, lnS_at hP.c1 hq]
    rcases crs_ok hi hj hp hq e with z | z
    · exact absurd z hji
    · by_cases hk : kpL P f i q = f (lnCell P.r P.c i q)
      · exact hk
      · exact absurd ((tch_tb _).mpr ⟨q, hq, hk, z⟩) (by rw [ht]; decide)
  · exact lnS_out (fun q hq z => hx ⟨q, hq, z⟩)
section SPR
variable (P : Pz)
noncomputable def pas (f : Nat → Nat) : Nat → Nat ⊕ (Nat → Nat)
  | 0 => .inr f
  | d + 1 => if wyL P f (P.r + P.c - (d + 1)) = 0 then .inl (P.r + P.c - (d + 1)) else pas (lnS P f (P.r + P.c - (d + 1))) d
noncomputable def spr (f : Nat → Nat) : Nat ⊕ ((Nat → Nat) × Nat) :=
  match pas P f (P.r + P.c) with
  | .inl i => .inl i
  | .inr g => if h : WT P g < WT P f then (match spr g with | .inl i => .inl i | .inr (z, n) => .inr (z, n + 1)) else .inr (g, 1)
termination_by WT P f
variable {P : Pz}
theorem pas_ok (hP : P.ok) : ∀ (d : Nat) (f g : Nat → Nat), d ≤ P.r + P.c → GF P f → pas P f d = .inr g → GF P g ∧ WT P g ≤ WT P f ∧ (WT P g = WT P f → g = f ∧ ∀ i, P.r + P.c - d ≤ i → i < P.r + P.c → stbl P f i) := by
  intro d
  induction d with
  | zero =>
    intro f g _ hf h
    unfold pas at h
    cases h
    exact ⟨hf, Nat.le_refl _, fun _ => ⟨rfl, fun i h1 h2 => by omega⟩⟩
  | succ d ih =>
    intro f g hd hf h
    unfold pas at h
    by_cases hw : wyL P f (P.r + P.c - (d + 1)) = 0
    · rw [if_pos hw] at h; cases h
    · rw [if_neg hw] at h
      have hi : P.r + P.c - (d + 1) < P.r + P.c := by omega
      have hg := lnS_gf hP hf hi hw
      have hW := WT_S hP hf hi
      obtain ⟨h1, h2, h3⟩ := ih _ g (by omega) hg h
      refine ⟨h1, Nat.le_trans h2 hW, fun e => ?_⟩
      obtain ⟨e1, e2⟩ := h3 (by omega)
      have hs : stbl P f (P.r + P.c - (d + 1)) := ⟨hw, WT_eq hP hf hi (by omega)⟩
      rw [hs.same] at e1 e2
      refine ⟨e1, fun i j1 j2 => ?_⟩
      rcases Nat.eq_or_lt_of_le j1 with z | z
      · rw [← z]; exact hs
      · exact e2 i (by omega) j2
theorem spr_ok (hP : P.ok) : ∀ (w : Nat) (f g : Nat → Nat) (n : Nat), WT P f = w → GF P f → spr P f = .inr (g, n) → GF P g ∧ WT P g ≤ WT P f ∧ (∀ i, i < P.r + P.c → stbl P g i) ∧ 1 ≤ n := by
  intro w
  induction w using Nat.strongRecOn with
  | _ w ih =>
    intro f g n hw hf h
    rw [spr] at h
    cases hp : pas P f (P.r + P.c) with
    | inl i => rw [hp] at h; cases h
    | inr z =>
      rw [hp] at h
      obtain ⟨h1, h2, h3⟩ := pas_ok hP _ f z (Nat.le_refl _) hf hp
      by_cases hlt : WT P z < WT P f
      · simp only [dif_pos hlt] at h
        cases hs : spr P z with
        | inl i => rw [hs] at h; cases h
        | inr y =>
          rw [hs] at h
          obtain ⟨y1, y2⟩ := y
          have ⟨a1, a2, a3, a4⟩ := ih (WT P z) (by omega) z y1 y2 rfl h1 hs
          cases h
          exact ⟨a1, by omega, a3, by omega⟩
      · simp only [dif_neg hlt] at h
        cases h
        obtain ⟨e1, e2⟩ := h3 (by omega)
        subst e1
        exact ⟨h1, Nat.le_refl _, fun i hi => e2 i (by omega) hi, Nat.le_refl _⟩
theorem WT_le (hP : P.ok) {f : Nat → Nat} : WT P f ≤ 256 := by
  have h1 := sm_le (f := fun x => pc4 (f x)) (n := P.r * P.c) (b := 4) (fun j _ => pc4_le _)
  have h2 := rc64 hP.r8 hP.c8
  unfold WT
  omega
theorem WT_192 (hP : P.ok) {f g : Nat → Nat} (hf : GF P f) (hg : GF P g) : WT P f ≤ WT P g + 192 := by
  have key : ∀ n, n ≤ P.r * P.c → sm (fun x => pc4 (f x)) n ≤ sm (fun x => pc4 (g x)) n + 3 * n := by
    intro n
    induction n with
    | zero => intro _; exact Nat.le_refl _
    | succ n ih =>
      intro hn
      have h1 := ih (by omega)
      have h2 := pc4_le (f n)
      have h3 := pc4_1 _ (hg n (by omega)).2 (hg n (by omega)).1
      show sm _ n + pc4 (f n) ≤ sm _ n + pc4 (g n) + 3 * (n + 1)
      omega
  have h1 := key _ (Nat.le_refl _)
  have h2 := rc64 hP.r8 hP.c8
  unfold WT
  omega
end SPR
