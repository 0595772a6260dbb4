/-! A DECIDED LINE: it has an assignment just if its blocks are the clue's runs -/
section MATCH
variable {n R : Nat} {len col mk C : Nat → Nat}
/-- where the enumeration stands behind p cells -/
def MI (R : Nat) (len col C : Nat → Nat) (p j b pv : Nat) : Prop := j ≤ R ∧ (∀ t, t < j → (bkT C p).2.1 t = len t ∧ (bkT C p).2.2 t = col t) ∧ (b = 0 → (bkT C p).1 = j ∧ pv = (if p = 0 then 0 else C (p - 1))) ∧ (0 < b → j < R ∧ b < len j ∧ (bkT C p).1 = j + 1 ∧ 1 ≤ p ∧ C (p - 1) = col j ∧ (bkT C p).2.1 j = b ∧ (bkT C p).2.2 j = col j)
theorem MI.white {p j pv : Nat} (h : MI R len col C p j 0 pv) (hc : C p = 0) : MI R len col C (p + 1) j 0 0 := by
  obtain ⟨h1, h2, h3, h4⟩ := h
  refine ⟨h1, fun t ht => ?_, fun _ => ⟨?_, ?_⟩, fun y => absurd y (Nat.lt_irrefl 0)⟩
  · rw [bkT_0 hc]; exact h2 t ht
  · rw [bkT_0 hc]; exact (h3 rfl).1
  · rw [if_neg (Nat.succ_ne_zero p), Nat.add_sub_cancel]; exact hc.symm
theorem MI.run {p j b pv : Nat} (hlc : ∀ j, j < R → 1 ≤ len j ∧ 1 ≤ col j) (h : MI R len col C p j b pv) (hj : j < R) (hc : C p = col j) (hpv : ¬ (b = 0 ∧ pv = col j)) : if b + 1 = len j then MI R len col C (p + 1) (j + 1) 0 (col j) else MI R len col C (p + 1) j (b + 1) (col j) := by
  obtain ⟨h1, h2, h3, h4⟩ := h
  have hcol := (hlc j hj).2
  have hlen := (hlc j hj).1
  have hz : C p ≠ 0 := by omega
  -- the blocks behind the next cell
  have hb : (bkT C (p + 1)).1 = j + 1 ∧ (∀ t, t < j → (bkT C (p + 1)).2.1 t = len t ∧ (bkT C (p + 1)).2.2 t = col t) ∧ (bkT C (p + 1)).2.1 j = b + 1 ∧ (bkT C (p + 1)).2.2 j = col j := by
    by_cases b0 : b = 0
    · obtain ⟨e1, e2⟩ := h3 b0
      have hne : ¬ (1 ≤ p ∧ C p = C (p - 1)) := fun y => hpv ⟨b0, by rw [e2, if_neg (by omega), ← y.2, hc]⟩
      rw [bkT_2 hz hne]
      refine ⟨by show (bkT C p).1 + 1 = j + 1; rw [e1], fun t ht => ⟨?_, ?_⟩, ?_, ?_⟩
      · show upf _ _ _ t = _
        rw [upf_n (by omega)]; exact (h2 t ht).1
      · show upf _ _ _ t = _
        rw [upf_n (by omega)]; exact (h2 t ht).2
      · show upf _ _ _ j = _
        rw [e1, upf_s, b0]
      · show upf _ _ _ j = _
        rw [e1, upf_s, hc]
    · obtain ⟨e1, e2, e3, e4, e5, e6, e7⟩ := h4 (by omega)
      rw [bkT_1 hz e4 (by rw [hc, e5])]
      have e8 : (bkT C p).1 - 1 = j := by omega
      refine ⟨e3, fun t ht => ⟨?_, (h2 t ht).2⟩, ?_, e7⟩
      · show upf _ _ _ t = _
        rw [upf_n (by omega)]; exact (h2 t ht).1
      · show upf _ _ _ j = _
        rw [e8, upf_s, e6]
  obtain ⟨b1, b2, b3, b4⟩ := hb
  split
  · rename_i he
    refine ⟨hj, fun t ht => ?_, fun _ => ⟨b1, by rw [if_neg (Nat.succ_ne_zero p), Nat.add_sub_cancel, hc]⟩, fun y => absurd y (Nat.lt_irrefl 0)⟩
    by_cases e : t = j
    · subst e; exact ⟨by rw [b3, he], b4⟩
    · exact b2 t (by omega)
  · rename_i he
    refine ⟨by omega, b2, fun y => absurd y (Nat.succ_ne_zero b), fun _ => ⟨hj, ?_, b1, Nat.succ_pos p, by rw [Nat.add_sub_cancel, hc], b3, b4⟩⟩
    by_cases b0 : b = 0
    · omega
    · have := (h4 (by omega)).2.1; omega
/-- one color a cell -/
def one (n : Nat) (mk C : Nat → Nat) : Prop := ∀ p, p < n → ∀ k, (mk p).testBit k = true ↔ k = C p
theorem enu_bk (hlc : ∀ j, j < R → 1 ≤ len j ∧ 1 ≤ col j) (ho : one n mk C) : ∀ (d p j b pv : Nat), n - p = d → p ≤ n → MI R len col C p j b pv → enu n R len col mk d j b pv ≠ [] → (bkT C n).1 = R ∧ ∀ t, t < R → (bkT C n).2.1 t = len t ∧ (bkT C n).2.2 t = col t := by
  intro d
  induction d with
  | zero =>
    intro p j b pv hd hp hI he
    have e : p = n := by omega
    subst e
    rw [enu] at he
    have hjR : ¬ j < R := fun y => he (if_pos y)
    obtain ⟨h1, h2, h3, h4⟩ := hI
    have b0 : b = 0 := by
      by_cases y : 0 < b
      · exact absurd (h4 y).1 hjR
      · omega
    have e2 : j = R := by omega
    subst e2
    exact ⟨(h3 b0).1, h2⟩
  | succ d ih =>
    intro p j b pv hd hp hI he
    have ep : n - (d + 1) = p := by omega
    have hpn : p < n := by omega
    rw [enu, ep] at he
    by_cases c1 : b = 0 ∧ (mk p).testBit 0 = true
    · have hc0 : C p = 0 := ((ho p hpn 0).mp c1.2).symm
      obtain ⟨b0, -⟩ := c1
      subst b0
      have hI1 := hI.white hc0
      by_cases c2 : j < R ∧ (mk p).testBit (col j) = true ∧ ¬ (0 = 0 ∧ pv = col j)
      · have := (ho p hpn (col j)).mp c2.2.1
        have := (hlc j c2.1).2
        omega
      · rw [if_neg c2, List.append_nil] at he
        split at he
        · exact ih (p + 1) j 0 0 (by omega) (by omega) hI1 (fun y => he (by rw [y]; rfl))
        · exact absurd rfl he
    · rw [if_neg c1, List.nil_append] at he
      by_cases c2 : j < R ∧ (mk p).testBit (col j) = true ∧ ¬ (b = 0 ∧ pv = col j)
      · rw [if_pos c2] at he
        have hc := ((ho p hpn (col j)).mp c2.2.1).symm
        have hI1 := hI.run hlc c2.1 hc c2.2.2
        split at he
        · rename_i e1
          rw [if_pos e1] at hI1
          exact ih (p + 1) (j + 1) 0 (col j) (by omega) (by omega) hI1 (fun y => he (by rw [y]; rfl))
        · rename_i e1
          rw [if_neg e1] at hI1
          exact ih (p + 1) j (b + 1) (col j) (by omega) (by omega) hI1 (fun y => he (by rw [y]; rfl))
      · rw [if_neg c2] at he; exact absurd rfl he
/-- the blocks behind p cells, beside those of the whole line -/
def MF (n R : Nat) (len col C : Nat → Nat) (p : Nat) : Prop := (bkT C p).1 ≤ R ∧ (∀ t, t < (bkT C p).1 → (bkT C p).2.2 t = col t ∧ (bkT C p).2.1 t ≤ len t ∧ (t + 1 < (bkT C p).1 → (bkT C p).2.1 t = len t)) ∧ ((p = 0 ∨ ¬ (C (p - 1) ≠ 0 ∧ p < n ∧ C p = C (p - 1))) → ∀ t, t < (bkT C p).1 → (bkT C p).2.1 t = len t) ∧ (1 ≤ p → C (p - 1) ≠ 0 → p < n → C p = C (p - 1) → (bkT C p).2.1 ((bkT C p).1 - 1) + 1 ≤ len ((bkT C p).1 - 1))
theorem mf_all (h3 : ∀ p, p < n → C p ≤ 3) (hR : (bkT C n).1 = R) (hm : ∀ t, t < R → (bkT C n).2.1 t = len t ∧ (bkT C n).2.2 t = col t) : ∀ (d p : Nat), n - p = d → p ≤ n → MF n R len col C p := by
  intro d
  induction d with
  | zero =>
    intro p hd hp
    have e : p = n := by omega
    subst e
    refine ⟨by omega, fun t ht => ?_, fun _ t ht => (hm t (by omega)).1, fun _ _ y => absurd y (Nat.lt_irrefl _)⟩
    have := hm t (by omega)
    exact ⟨this.2, by rw [this.1]; exact Nat.le_refl _, fun _ => this.1⟩
  | succ d ih =>
    intro p hd hp
    have hpn : p < n := by omega
    obtain ⟨f1, f2, f3, f4⟩ := ih (p + 1) (by omega) (by omega)
    by_cases c0 : C p = 0
    · rw [bkT_0 c0] at f1 f2 f3 f4
      have f3' := f3 (.inr (fun y => y.1 (by rw [Nat.add_sub_cancel]; exact c0)))
      exact ⟨f1, f2, fun _ => f3', fun h1 h2 h3 h4 => absurd (h4 ▸ c0) h2⟩
    · by_cases c1 : 1 ≤ p ∧ C p = C (p - 1)
      · have hN := (bkT_ok (C := C) p (fun q hq => h3 q (by omega))).2.1 c1.1 (by rw [← c1.2]; exact c0)
        rw [bkT_1 c0 c1.1 c1.2] at f1 f2 f3 f4
        have f1' : (bkT C p).1 ≤ R := f1
        have f2' : ∀ t, t < (bkT C p).1 → (bkT C p).2.2 t = col t ∧ upf (bkT C p).2.1 ((bkT C p).1 - 1) ((bkT C p).2.1 ((bkT C p).1 - 1) + 1) t ≤ len t ∧ (t + 1 < (bkT C p).1 → upf (bkT C p).2.1 ((bkT C p).1 - 1) ((bkT C p).2.1 ((bkT C p).1 - 1) + 1) t = len t) := f2
        have hlast := (f2' ((bkT C p).1 - 1) (by omega)).2.1
        rw [upf_s] at hlast
        refine ⟨f1', fun t ht => ?_, fun y => ?_, fun _ _ _ _ => hlast⟩
        · obtain ⟨a1, a2, a3⟩ := f2' t ht
          by_cases e : t = (bkT C p).1 - 1
          · rw [e]; rw [e] at a1; exact ⟨a1, by omega, fun y => absurd y (by omega)⟩
          · rw [upf_n e] at a2 a3; exact ⟨a1, a2, a3⟩
        · rcases y with y | y
          · omega
          · exact absurd ⟨by rw [← c1.2]; exact c0, hpn, c1.2⟩ y
      · rw [bkT_2 c0 c1] at f1 f2 f3 f4
        have f1' : (bkT C p).1 + 1 ≤ R := f1
        have f2' : ∀ t, t < (bkT C p).1 + 1 → upf (bkT C p).2.2 (bkT C p).1 (C p) t = col t ∧ upf (bkT C p).2.1 (bkT C p).1 1 t ≤ len t ∧ (t + 1 < (bkT C p).1 + 1 → upf (bkT C p).2.1 (bkT C p).1 1 t = len t) := f2
        have hall : ∀ t, t < (bkT C p).1 → (bkT C p).2.1 t = len t := fun t ht => by
          have := (f2' t (by omega)).2.2 (by omega)
          rw [upf_n (by omega)] at this
          exact this
        refine ⟨by omega, fun t ht => ?_, fun _ => hall, fun h1 h2 h3 h4 => absurd ⟨h1, h4⟩ c1⟩
        have := (f2' t (by omega)).1
        rw [upf_n (by omega)] at this
        exact ⟨this, by rw [hall t ht]; exact Nat.le_refl _, fun _ => hall t ht⟩
theorem bk_enu (hlc : ∀ j, j < R → 1 ≤ len j ∧ 1 ≤ col j) (ho : one n mk C) (h3 : ∀ p, p < n → C p ≤ 3) (hR : (bkT C n).1 = R) (hm : ∀ t, t < R → (bkT C n).2.1 t = len t ∧ (bkT C n).2.2 t = col t) : ∀ (d p j b pv : Nat), n - p = d → p ≤ n → MI R len col C p j b pv → enu n R len col mk d j b pv ≠ [] := by
  intro d
  induction d with
  | zero =>
    intro p j b pv hd hp hI
    have e : p = n := by omega
    subst e
    obtain ⟨g1, g2, g3, g4⟩ := mf_all h3 hR hm 0 p (by omega) (Nat.le_refl _)
    obtain ⟨h1, h2, i3, i4⟩ := hI
    have hjR : ¬ j < R := by
      intro hj
      by_cases b0 : b = 0
      · have := (i3 b0).1; omega
      · obtain ⟨e1, e2, e3, e4, e5, e6, e7⟩ := i4 (by omega)
        have := g3 (.inr (fun y => Nat.lt_irrefl _ y.2.1)) j (by omega)
        omega
    rw [enu, if_neg hjR]
    exact List.cons_ne_nil _ _
  | succ d ih =>
    intro p j b pv hd hp hI
    have ep : n - (d + 1) = p := by omega
    have hpn : p < n := by omega
    obtain ⟨g1, g2, g3, g4⟩ := mf_all h3 hR hm (d + 1) p (by omega) hp
    obtain ⟨k1, k2, k3, k4⟩ := mf_all h3 hR hm d (p + 1) (by omega) (by omega)
    obtain ⟨h1, h2, i3, i4⟩ := id hI
    rw [enu, ep]
    by_cases c0 : C p = 0
    · have b0 : b = 0 := by
        by_cases y : b = 0
        · exact y
        · obtain ⟨e1, e2, e3, e4, e5, e6, e7⟩ := i4 (by omega)
          have := (hlc j e1).2
          have := g3 (.inr (fun y => by have := y.2.2; omega)) j (by omega)
          omega
      subst b0
      rw [if_pos ⟨rfl, (ho p hpn 0).mpr c0.symm⟩]
      have := ih (p + 1) j 0 0 (by omega) (by omega) (hI.white c0)
      intro y
      exact this (List.map_eq_nil_iff.mp (List.append_eq_nil_iff.mp y).1)
    · -- a colored cell: it belongs to run j
      have hrun : j < R ∧ C p = col j ∧ ¬ (b = 0 ∧ pv = col j) := by
        by_cases b0 : b = 0
        · obtain ⟨e1, e2⟩ := i3 b0
          have hne : ¬ (1 ≤ p ∧ C p = C (p - 1)) := by
            intro y
            have hz : C (p - 1) ≠ 0 := by rw [← y.2]; exact c0
            have hN := (bkT_ok (C := C) p (fun q hq => h3 q (by omega))).2.1 y.1 hz
            have := g4 y.1 hz hpn y.2
            have := (h2 ((bkT C p).1 - 1) (by omega)).1
            omega
          rw [bkT_2 c0 hne] at k1 k2
          have k1' : (bkT C p).1 + 1 ≤ R := k1
          have k2' : ∀ t, t < (bkT C p).1 + 1 → upf (bkT C p).2.2 (bkT C p).1 (C p) t = col t ∧ upf (bkT C p).2.1 (bkT C p).1 1 t ≤ len t ∧ (t + 1 < (bkT C p).1 + 1 → upf (bkT C p).2.1 (bkT C p).1 1 t = len t) := k2
          have hk := (k2' (bkT C p).1 (by omega)).1
          rw [upf_s, e1] at hk
          refine ⟨by omega, hk, fun y => ?_⟩
          by_cases p0 : p = 0
          · rw [e2, if_pos p0] at y; omega
          · rw [e2, if_neg p0] at y; exact hne ⟨by omega, by rw [hk, y.2]⟩
        · obtain ⟨e1, e2, e3, e4, e5, e6, e7⟩ := i4 (by omega)
          have hcol := (hlc j e1).2
          refine ⟨e1, ?_, fun y => b0 y.1⟩
          by_cases y : C p = C (p - 1)
          · rw [y, e5]
          · have := g3 (.inr (fun z => y z.2.2)) j (by omega)
            omega
      obtain ⟨r1, r2, r3⟩ := hrun
      have hI1 := hI.run hlc r1 r2 r3
      rw [if_pos (show j < R ∧ (mk p).testBit (col j) = true ∧ ¬ (b = 0 ∧ pv = col j) from ⟨r1, (ho p hpn (col j)).mpr r2.symm, r3⟩)]
      by_cases e : b + 1 = len j
      · rw [if_pos e] at hI1 ⊢
        have := ih (p + 1) (j + 1) 0 (col j) (by omega) (by omega) hI1
        intro y
        exact this (List.map_eq_nil_iff.mp (List.append_eq_nil_iff.mp y).2)
      · rw [if_neg e] at hI1 ⊢
        have := ih (p + 1) j (b + 1) (col j) (by omega) (by omega) hI1
        intro y
        exact this (List.map_eq_nil_iff.mp (List.append_eq_nil_iff.mp y).2)
theorem match_iff (hlc : ∀ j, j < R → 1 ≤ len j ∧ 1 ≤ col j) (ho : one n mk C) (h3 : ∀ p, p < n → C p ≤ 3) : wy n R len col mk 0 0 ≠ 0 ↔ ((bkT C n).1 = R ∧ ∀ t, t < R → (bkT C n).2.1 t = len t ∧ (bkT C n).2.2 t = col t) := by
  have h0 : MI R len col C 0 0 0 0 := ⟨Nat.zero_le _, fun t ht => absurd ht (Nat.not_lt_zero t), fun _ => ⟨rfl, rfl⟩, fun y => absurd y (Nat.lt_irrefl 0)⟩
  have he : wy n R len col mk 0 0 = (enu n R len col mk n 0 0 0).length := by rw [enu_all hlc]; rfl
  rw [he]
  constructor
  · intro h
    exact enu_bk hlc ho n 0 0 0 0 (Nat.sub_zero n) (Nat.zero_le n) h0 (fun y => h (by rw [y]; rfl))
  · rintro ⟨hR, hm⟩ h
    exact bk_enu hlc ho h3 hR hm n 0 0 0 0 (Nat.sub_zero n) (Nat.zero_le n) h0 (List.length_eq_zero_iff.mp h)
end MATCH
theorem pw_bit : ∀ m, m < 16 → pc4 m = 1 → ∀ k, k < 4 → (m.testBit k = true ↔ k = clo m) := by decide +kernel
/-- a decided line of a puzzle -/
theorem wyL_match {P : Pz} {f : Nat → Nat} {i : Nat} (hP : P.ok) (hf : GF P f) (hi : i < P.r + P.c) (hd : ∀ x, x < P.r * P.c → pc4 (f x) = 1) : wyL P f i ≠ 0 ↔ ((bkT (lco P.r P.c f i) (lnLen P.r P.c i)).1 = P.R i ∧ ∀ t, t < P.R i → (bkT (lco P.r P.c f i) (lnLen P.r P.c i)).2.1 t = P.len i t ∧ (bkT (lco P.r P.c f i) (lnLen P.r P.c i)).2.2 t = P.col i t) := by
  refine match_iff (fun j hj => ⟨hP.h1 i j hj, ((hP.cl i).2 j hj).2.2.1⟩) (fun p hp k => ?_) (fun p hp => ?_)
  · have hx := lnCell_lt hi hp
    have h1 := hf _ hx
    show (f (lnCell P.r P.c i p)).testBit k = true ↔ k = clo (f (lnCell P.r P.c i p))
    by_cases hk : k < 4
    · exact pw_bit _ h1.2 (hd _ hx) k hk
    · have h2 := (clo_le _ h1.2 (hd _ hx)).1
      exact ⟨fun y => absurd (tb_lt4 h1.2 y) hk, fun y => absurd y (by omega)⟩
  · have hx := lnCell_lt hi hp
    exact (clo_le _ (hf _ hx).2 (hd _ hx)).1
