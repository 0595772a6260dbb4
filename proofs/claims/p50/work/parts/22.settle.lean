/-- a set without j -/
def clr (U j : Nat) : Nat := bm (fun k => U.testBit k && decide (k ≠ j)) 16
theorem clr_tb {U j k : Nat} (hU : U < 2 ^ 16) : (clr U j).testBit k = true ↔ U.testBit k = true ∧ k ≠ j := by
  unfold clr
  rw [bm_tb, Bool.and_eq_true, Bool.and_eq_true, decide_eq_true_eq, decide_eq_true_eq]
  constructor
  · exact fun h => h.2
  · intro h
    refine ⟨?_, h⟩
    rcases Nat.lt_or_ge k 16 with z | z
    · exact z
    · have := Nat.testBit_lt_two_pow (Nat.lt_of_lt_of_le hU (Nat.pow_le_pow_right (by decide) z : 2 ^ 16 ≤ 2 ^ k))
      rw [this] at h
      exact absurd h.1 (by decide)
theorem clr_lt {U j : Nat} : clr U j < 2 ^ 16 := bm_lt _ 16
theorem nI_clr {U j : Nat} (hU : U < 2 ^ 16) (hj : j < 32) : nI U &&& (nI (2 ^ j) ^^^ (-1)) = nI (clr U j) := by
  apply i32_ext
  have hU2 : U < 2 ^ 32 := Nat.lt_trans hU (by decide)
  have hj2 : 2 ^ j < 2 ^ 32 := Nat.pow_lt_pow_right (by decide) hj
  rw [Int32.toBitVec_and, BitVec.toNat_and, pk_tn hU2, Int32.toBitVec_xor, BitVec.toNat_xor, pk_tn hj2, pk_tn (Nat.lt_trans clr_lt (by decide)), show (-1 : Int32).toBitVec.toNat = 2 ^ 32 - 1 from rfl]
  apply Nat.eq_of_testBit_eq
  intro k
  apply Bool.eq_iff_iff.mpr
  rw [clr_tb hU, Nat.testBit_and, Nat.testBit_xor, Nat.testBit_two_pow_sub_one, Nat.testBit_two_pow, Bool.and_eq_true]
  by_cases hk : k < 32
  · by_cases e : j = k
    · subst e; simp [hk]
    · simp [hk, e, Ne.symm e]
  · have : U.testBit k = false := Nat.testBit_lt_two_pow (Nat.lt_of_lt_of_le hU2 (Nat.pow_le_pow_right (by decide) (by omega)))
    simp [this]
theorem pas_step {P : Pz} {f : Nat → Nat} {j : Nat} (hj : j < P.r + P.c) : pas P f (P.r + P.c - j) = if wyL P f j = 0 then .inl j else pas P (lnS P f j) (P.r + P.c - (j + 1)) := by
  obtain ⟨d, hd⟩ : ∃ d, P.r + P.c - j = d + 1 := ⟨P.r + P.c - (j + 1), by omega⟩
  have e : P.r + P.c - (d + 1) = j := by omega
  rw [hd, show P.r + P.c - (j + 1) = d by omega, pas, e]
theorem pas_skip {P : Pz} {f : Nat → Nat} {j : Nat} (hj : j < P.r + P.c) (h : stbl P f j) : pas P f (P.r + P.c - j) = pas P f (P.r + P.c - (j + 1)) := by
  rw [pas_step hj, if_neg h.1, h.same]
theorem spr_bad {P : Pz} {f : Nat → Nat} {j : Nat} (h : pas P f (P.r + P.c) = .inl j) : spr P f = .inl j := by
  rw [spr, h]
theorem spr_end {P : Pz} {f g : Nat → Nat} (h : pas P f (P.r + P.c) = .inr g) (hw : ¬ WT P g < WT P f) : spr P f = .inr (g, 1) := by
  rw [spr, h]
  simp only [dif_neg hw]
theorem spr_on {P : Pz} {f g : Nat → Nat} (h : pas P f (P.r + P.c) = .inr g) (hw : WT P g < WT P f) : (∀ j, spr P g = .inl j → spr P f = .inl j) ∧ ∀ z n, spr P g = .inr (z, n) → spr P f = .inr (z, n + 1) := by
  constructor
  · intro j hj
    rw [spr, h]
    simp only [dif_pos hw, hj]
  · intro z n hj
    rw [spr, h]
    simp only [dif_pos hw, hj]
/-- lines outside the set are stable -/
def STB (P : Pz) (f : Nat → Nat) (U : Nat) : Prop := U < 2 ^ 16 ∧ ∀ i, i < P.r + P.c → U.testBit i = false → stbl P f i
theorem STB.solve {P : Pz} {f : Nat → Nat} {U j : Nat} (hP : P.ok) (hf : GF P f) (h : STB P f U) (hj : j < P.r + P.c) (hw : wyL P f j ≠ 0) : STB P (lnS P f j) (clr U j ||| tch P f j (lnLen P.r P.c j)) := by
  refine ⟨Nat.or_lt_two_pow clr_lt (tch_lt hP _ (Nat.le_refl _)), fun i hi hb => ?_⟩
  rw [Nat.testBit_or, Bool.or_eq_false_iff] at hb
  by_cases e : i = j
  · rw [e]; exact stbl.solved hP hf hj hw
  · refine stbl.other hP hj hi e (h.2 i hi ?_) hb.2
    cases hU : U.testBit i with
    | false => rfl
    | true => rw [(clr_tb h.1).mpr ⟨hU, e⟩] at hb; exact absurd hb.1 (by decide)
/-- all lines of the puzzle's clues stand at c -/
def CLU (M : Mem) (c : Nat) (P : Pz) : Prop := ∀ i, i < 16 → CU M c i (P.R i) (P.len i) (P.col i)
theorem CLU.fr {M M1 : Mem} {c : Nat} {P : Pz} (h : CLU M c P) (h1 : M1 (c + 1) = M (c + 1)) (h2 : M1 (c + 2) = M (c + 2)) (h3 : M1 (c + 3) = M (c + 3)) : CLU M1 c P := fun i hi => by
  unfold CU
  rw [h1, h2, h3]
  exact h i hi
theorem CE.gf {M : Mem} {a : Nat} {P : Pz} {f : Nat → Nat} (h : CE M a (P.r * P.c) f) : GF P f := fun x hx => (h x hx).2
/-- what settle leaves -/
def SPO (P : Pz) (f : Nat → Nat) (p g : Nat) (v : Int32) (M : Mem) : Prop := (∀ j, spr P f = .inl j → v = nI 0 ∧ M p 3 = nI j) ∧ ∀ h n, spr P f = .inr (h, n) → v = nI 1 ∧ CE M (g + 5) (P.r * P.c) h ∧ M p 1 = nI n ∧ M p 2 = nI (WT P f - WT P h)
set_option maxHeartbeats 4000000 in
set_option maxRecDepth 100000 in
theorem q_settle {l : Launch} {G : Gd} {b0 : Nat} {lay : Lay} {M : Mem} {Post : PT} {p g i0 U U0 : Nat} {P : Pz} {f cur : Nat → Nat} {M0 : Mem} (hp : isP lay p) (hg : isG lay g) (hP : P.ok) (hr : M g 0 = nI P.r) (hcl : M g 1 = nI P.c) (hpg : p + 10 ≤ g ∨ g + 6 ≤ p) (hcu : CLU M (g + 1) P) (hf0 : (∀ a, (a < p ∨ p + 10 ≤ a) → a ≠ g + 5 → M0 a = M a)) (hce : CE M0 (g + 5) (P.r * P.c) cur) (hp1 : M0 p 1 = nI (i0 + 1)) (hp2 : M0 p 2 = nI (WT P f - WT P cur)) (hst : STB P cur U0) (hWc : WT P cur ≤ WT P f)
    (KF : ∀ (M2 : Mem) (j : Nat), (∀ a, (a < p ∨ p + 10 ≤ a) → a ≠ g + 5 → M2 a = M a) → pas P cur (P.r + P.c) = .inl j → M2 p 3 = nI j → Post (nI 0) M2)
    (K : ∀ (M2 : Mem) (fj : Nat → Nat) (Uj : Nat), ((∀ a, (a < p ∨ p + 10 ≤ a) → a ≠ g + 5 → M2 a = M a) ∧ CE M2 (g + 5) (P.r * P.c) fj ∧ M2 p 1 = nI (i0 + 1) ∧ M2 p 2 = nI (WT P f - WT P fj) ∧ STB P fj Uj ∧ WT P fj ≤ WT P cur ∧ pas P cur (P.r + P.c) = pas P fj (P.r + P.c - (P.r + P.c))) → S l G b0 yX5_settle cX5_settle 7 (some .boolean) (rmZ 4 95) lay Post 0 0 0 0 lay 125 [some (.ref (b0 + p)), some (.ref (b0 + g)), some (.int (nI U)), some (.int (nI (Uj))), some (.int (nI (i0))), some (.int (nI (WT P f - WT P cur))), none] [] M2) : S l G b0 yX5_settle cX5_settle 7 (some .boolean) (rmZ 4 95) lay Post 0 0 0 0 lay 42 [some (.ref (b0 + p)), some (.ref (b0 + g)), some (.int (nI U)), some (.int (nI (U0))), some (.int (nI (i0))), some (.int (nI (WT P f - WT P cur))), some (.int (nI 0))] [] M0 := by
  have hr8 := hP.r8
  have hc8 := hP.c8
  have hr1 := hP.r1
  have hc1 := hP.c1
  obtain ⟨hp0, hs⟩ := id hp
  have hs0 := hs.1
  obtain ⟨hg0, ⟨hq0, hq1, hq2, hq3⟩, hg5⟩ := id hg
  suffices H : ∀ (d i : Nat) (fj : Nat → Nat) (Uj : Nat) (M1 : Mem), (P.r + P.c) - i = d → i ≤ (P.r + P.c) → ((∀ a, (a < p ∨ p + 10 ≤ a) → a ≠ g + 5 → M1 a = M a) ∧ CE M1 (g + 5) (P.r * P.c) fj ∧ M1 p 1 = nI (i0 + 1) ∧ M1 p 2 = nI (WT P f - WT P fj) ∧ STB P fj Uj ∧ WT P fj ≤ WT P cur ∧ pas P cur (P.r + P.c) = pas P fj (P.r + P.c - (i))) → S l G b0 yX5_settle cX5_settle 7 (some .boolean) (rmZ 4 95) lay Post 0 0 0 0 lay 42 [some (.ref (b0 + p)), some (.ref (b0 + g)), some (.int (nI U)), some (.int (nI (Uj))), some (.int (nI (i0))), some (.int (nI (WT P f - WT P cur))), some (.int (nI (i)))] [] M1 from H _ 0 (cur) (U0) _ rfl (by omega) ⟨hf0, hce, hp1, hp2, hst, Nat.le_refl _, rfl⟩
  intro d
  induction d with
  | zero =>
    intro i fj Uj M1 hd hi hI
    have e : (P.r + P.c) = i := by omega
    subst e
    refine S_iload_6 (q := 44) dX5_settle_42 rfl ?_
    refine S_aload_1 (q := 45) dX5_settle_44 rfl ?_
    refine S_callV0i (q := 48) dX5_settle_45 lk_X5_28 (by first | assumption | rfl) rfl rfl (k_X1_lineTotal hg (r := P.r) (c := P.c) (by rw [hI.1 g (by omega) (by omega)]; exact hr) (by rw [hI.1 g (by omega) (by omega)]; exact hcl)) rfl rfl (Nat.le_of_ble_eq_true rfl) ⟨Nat.le_of_ble_eq_true rfl, Nat.le_of_ble_eq_true rfl⟩ ⟨Nat.le_of_ble_eq_true rfl, Nat.le_of_ble_eq_true rfl⟩ rfl (fun v45 M45 hv45 => ?_)
    obtain ⟨rfl, rfl⟩ := hv45
    refine S_icmp_ge (t := 125) (q := 51) dX5_settle_48 (by decide) rfl (fun hb48 => ?_) (fun hb48 => ?_)
    · refine S_fgt6 ?_
      exact K _ _ _ hI
    · exact absurd (Int32.le_refl _) hb48
  | succ d ih =>
    intro i fj Uj M1 hd hi hI
    have hlt : i < (P.r + P.c) := by omega
    refine S_iload_6 (q := 44) dX5_settle_42 rfl ?_
    refine S_aload_1 (q := 45) dX5_settle_44 rfl ?_
    refine S_callV0i (q := 48) dX5_settle_45 lk_X5_28 (by first | assumption | rfl) rfl rfl (k_X1_lineTotal hg (r := P.r) (c := P.c) (by rw [hI.1 g (by omega) (by omega)]; exact hr) (by rw [hI.1 g (by omega) (by omega)]; exact hcl)) rfl rfl (Nat.le_of_ble_eq_true rfl) ⟨Nat.le_of_ble_eq_true rfl, Nat.le_of_ble_eq_true rfl⟩ ⟨Nat.le_of_ble_eq_true rfl, Nat.le_of_ble_eq_true rfl⟩ rfl (fun v45 M45 hv45 => ?_)
    obtain ⟨rfl, rfl⟩ := hv45
    refine S_icmp_ge (t := 125) (q := 51) dX5_settle_48 (by decide) rfl (fun hb48 => ?_) (fun hb48 => ?_)
    · exact absurd hb48 (nI_ge hlt (by omega))
    · refine S_iload_3 (q := 52) dX5_settle_51 rfl ?_
      refine S_iload_6 (q := 54) dX5_settle_52 rfl ?_
      refine S_ishr (q := 55) dX5_settle_54 rfl ?_
      refine S_iconst (q := 56) (nI 1) dX5_settle_55 (by decide) rfl ?_
      refine S_iand (q := 57) dX5_settle_56 rfl ?_
      rw [tb_if (Nat.lt_trans hI.2.2.2.2.1.1 (by decide)) (show i < 32 by omega)]
      refine S_if_ne (t := 63) (q := 60) dX5_settle_57 (by decide) rfl (fun hb57 => ?_) (fun hb57 => ?_)
      · have hb57 : Uj.testBit i = true := by
          by_cases h : Uj.testBit i = true
          · exact h
          · rw [if_neg h] at hb57; exact absurd rfl hb57
        refine S_aload_0 (q := 64) dX5_settle_63 rfl ?_
        refine S_getR (q := 67) dX5_settle_64 fl_X5_12 (by first | assumption | rfl) (by rfl) rfl ?_
        refine S_aload_1 (q := 68) dX5_settle_67 rfl ?_
        refine S_iload_6 (q := 70) dX5_settle_68 rfl ?_
        refine S_callV2i (q := 73) dX5_settle_70 lk_X5_34 (by first | assumption | rfl) rfl rfl (k_X3_solve hs hg hP (by rw [hI.1 g (by omega) (by omega)]; exact hr) (by rw [hI.1 g (by omega) (by omega)]; exact hcl) hlt (by omega) hI.2.1 ((hcu.fr (hI.1 _ (by omega) (by omega)) (hI.1 _ (by omega) (by omega)) (hI.1 _ (by omega) (by omega))) i (by omega))) rfl rfl (Nat.le_of_ble_eq_true rfl) ⟨Nat.le_of_ble_eq_true rfl, Nat.le_of_ble_eq_true rfl⟩ ⟨Nat.le_of_ble_eq_true rfl, Nat.le_of_ble_eq_true rfl⟩ rfl (fun v70 M70 hv70 => ?_)
        obtain ⟨s1, s2, s3, s4⟩ := hv70
        subst s2
        refine S_if_ne (t := 84) (q := 76) dX5_settle_73 (by decide) rfl (fun hb73 => ?_) (fun hb73 => ?_)
        · have hw : wyL P fj i ≠ 0 := bI_n.mp hb73
          obtain ⟨t1, t2, t3⟩ := s4 hw
          have hgf := hI.2.1.gf
          have hWS := WT_S hP hgf hlt
          refine S_aload_0 (q := 85) dX5_settle_84 rfl ?_
          refine S_dup (q := 86) dX5_settle_85 rfl rfl ?_
          refine S_getI (q := 89) dX5_settle_86 fl_X5_22 (by first | assumption | rfl) (by rfl) rfl ?_
          refine S_aload_0 (q := 90) dX5_settle_89 rfl ?_
          refine S_getR (q := 93) dX5_settle_90 fl_X5_12 (by first | assumption | rfl) (by rfl) rfl ?_
          refine S_getI (q := 96) dX5_settle_93 fl_X5_38 (by first | assumption | rfl) (by rfl) rfl ?_
          refine S_iadd (q := 97) dX5_settle_96 rfl ?_
          rw [s1 p (by omega) (by omega), hI.2.2.2.1, t2, nI_add, show WT P f - WT P fj + (WT P fj - WT P (lnS P fj i)) = WT P f - WT P (lnS P fj i) by have := hI.2.2.2.2.2.1; omega]
          refine S_putI (q := 100) dX5_settle_97 fp_X5_22 (by first | assumption | rfl) (by rfl) rfl (by rfl) rfl ?_
          refine S_iload_3 (q := 101) dX5_settle_100 rfl ?_
          refine S_iconst (q := 102) (nI 1) dX5_settle_101 (by decide) rfl ?_
          refine S_iload_6 (q := 104) dX5_settle_102 rfl ?_
          refine S_ishl (q := 105) dX5_settle_104 rfl ?_
          rw [nI_shl (show i < 32 by omega) (by rw [Nat.one_mul]; exact p2_lt (by omega)), Nat.one_mul]
          refine S_iconst (q := 106) (-1) dX5_settle_105 (by decide) rfl ?_
          refine S_ixor (q := 107) dX5_settle_106 rfl ?_
          refine S_iand (q := 108) dX5_settle_107 rfl ?_
          rw [nI_clr hI.2.2.2.2.1.1 (show i < 32 by omega)]
          refine S_istore_3 (q := 109) dX5_settle_108 rfl ?_
          refine S_iload_3 (q := 110) dX5_settle_109 rfl ?_
          refine S_aload_0 (q := 111) dX5_settle_110 rfl ?_
          refine S_getR (q := 114) dX5_settle_111 fl_X5_12 (by first | assumption | rfl) (by rfl) rfl ?_
          refine S_getI (q := 117) dX5_settle_114 fl_X5_39 (by first | assumption | rfl) (by rfl) rfl ?_
          rw [up_n (show p + 1 ≠ p by omega), t3]
          refine S_ior (q := 118) dX5_settle_117 rfl ?_
          rw [nI_or (Nat.lt_trans clr_lt (by decide)) (Nat.lt_trans (tch_lt hP _ (Nat.le_refl _)) (by decide))]
          refine S_istore_3 (q := 119) dX5_settle_118 rfl ?_
          refine S_iinc_6 (q := 122) (nI (i + 1)) dX5_settle_119 (inc1 _) rfl ?_
          refine S_goto (t := 42) dX5_settle_122 (by decide) ?_
          refine ih (i + 1) (lnS P fj i) _ _ (by omega) hlt ⟨fun a ha hb => ?_, fun x hx => ?_, ?_, ?_, hI.2.2.2.2.1.solve hP hgf hlt hw, by have := hI.2.2.2.2.2.1; omega, by rw [hI.2.2.2.2.2.2, pas_step hlt, if_neg hw]⟩
          · rw [up_n (by omega), s1 a (by omega) hb]; exact hI.1 a ha hb
          · rw [up_n (by omega)]; exact t1 x hx
          · rw [up_eq, if_neg (by omega), s1 p (by omega) (by omega)]; exact hI.2.2.1
          · rw [up_s]
        · have hw : wyL P fj i = 0 := Decidable.not_not.mp (bI_0.mp hb73)
          refine S_aload_0 (q := 77) dX5_settle_76 rfl ?_
          refine S_iload_6 (q := 79) dX5_settle_77 rfl ?_
          refine S_putI (q := 82) dX5_settle_79 fp_X5_25 (by first | assumption | rfl) (by rfl) rfl (by rfl) rfl ?_
          refine S_iconst (q := 83) (nI 0) dX5_settle_82 (by decide) rfl ?_
          exact S_iret rfl dX5_settle_83 (by rfl) rfl (KF _ i (fun a ha hb => by rw [up_n (by omega), s1 a (by omega) hb]; exact hI.1 a ha hb) (by rw [hI.2.2.2.2.2.2, pas_step hlt, if_pos hw]) up_s)
      · have hb57 : Uj.testBit i = false := by
          cases h : Uj.testBit i with
          | false => rfl
          | true => rw [if_pos h] at hb57; exact absurd hb57 (by decide)
        refine S_goto (t := 119) dX5_settle_60 (by decide) ?_
        refine S_iinc_6 (q := 122) (nI (i + 1)) dX5_settle_119 (inc1 _) rfl ?_
        refine S_goto (t := 42) dX5_settle_122 (by decide) ?_
        exact ih (i + 1) fj Uj _ (by omega) hlt ⟨hI.1, hI.2.1, hI.2.2.1, hI.2.2.2.1, hI.2.2.2.2.1, hI.2.2.2.2.2.1, by rw [hI.2.2.2.2.2.2, pas_skip hlt (hI.2.2.2.2.1.2 i hlt hb57)]⟩
set_option maxHeartbeats 4000000 in
set_option maxRecDepth 100000 in
theorem k_X5_settle {l : Launch} {G : Gd} {b0 : Nat} {lay : Lay} {M : Mem} {p g U : Nat} {P : Pz} {f : Nat → Nat} (hp : isP lay p) (hg : isG lay g) (hP : P.ok) (hr : M g 0 = nI P.r) (hcl : M g 1 = nI P.c) (hpg : p + 10 ≤ g ∨ g + 6 ≤ p) (hcu : CLU M (g + 1) P) (hce : CE M (g + 5) (P.r * P.c) f) (hst : STB P f U)  : Ct l G b0 yX5_settle cX5_settle 7 (some .boolean) (rmZ 4 95) lay lay M [.ref (b0 + p), .ref (b0 + g), .int (nI U)] (fun v M' => (∀ a, (a < p ∨ p + 10 ≤ a) → a ≠ g + 5 → M' a = M a) ∧ SPO P f p g v M') := by
  have hr8 := hP.r8
  have hc8 := hP.c8
  have hr1 := hP.r1
  have hc1 := hP.c1
  obtain ⟨hp0, hs⟩ := id hp
  have hs0 := hs.1
  obtain ⟨hg0, ⟨hq0, hq1, hq2, hq3⟩, hg5⟩ := id hg
  refine Ct.of [some (.ref (b0 + p)), some (.ref (b0 + g)), some (.int (nI U)), none, none, none, none] (by decide) (Nat.le_of_ble_eq_true rfl) rfl rfl ?_
  refine S_iload_2 (q := 1) dX5_settle_0 rfl ?_
  refine S_istore_3 (q := 2) dX5_settle_1 rfl ?_
  refine S_aload_0 (q := 3) dX5_settle_2 rfl ?_
  refine S_iconst (q := 4) (nI 0) dX5_settle_3 (by decide) rfl ?_
  refine S_putI (q := 7) dX5_settle_4 fp_X5_18 (by first | assumption | rfl) (by rfl) rfl (by rfl) rfl ?_
  refine S_aload_0 (q := 8) dX5_settle_7 rfl ?_
  refine S_iconst (q := 9) (nI 0) dX5_settle_8 (by decide) rfl ?_
  refine S_putI (q := 12) dX5_settle_9 fp_X5_22 (by first | assumption | rfl) (by rfl) rfl (by rfl) rfl ?_
  refine S_iconst (q := 13) (nI 0) dX5_settle_12 (by decide) rfl ?_
  refine S_istore_4 (q := 15) dX5_settle_13 rfl ?_
  suffices H : ∀ (d i : Nat) (cur : Nat → Nat) (Uc : Nat) (M1 : Mem), 193 - i = d → i ≤ 193 → ((∀ a, (a < p ∨ p + 10 ≤ a) → a ≠ g + 5 → M1 a = M a) ∧ CE M1 (g + 5) (P.r * P.c) cur ∧ M1 p 1 = nI (i) ∧ M1 p 2 = nI (WT P f - WT P cur) ∧ STB P cur Uc ∧ (i) + WT P cur ≤ WT P f ∧ (∀ j, spr P cur = .inl j → spr P f = .inl j) ∧ ∀ z n, spr P cur = .inr (z, n) → spr P f = .inr (z, n + (i))) → S l G b0 yX5_settle cX5_settle 7 (some .boolean) (rmZ 4 95) lay (fun v M' => (∀ a, (a < p ∨ p + 10 ≤ a) → a ≠ g + 5 → M' a = M a) ∧ SPO P f p g v M') 0 0 0 0 lay 15 [some (.ref (b0 + p)), some (.ref (b0 + g)), some (.int (nI U)), some (.int (nI (Uc))), some (.int (nI (i))), none, none] [] M1 from H _ 0 (f) (U) _ rfl (by omega) (by
    refine ⟨fun a ha hb => by rw [up_n (by omega), up_n (by omega)], fun x hx => by rw [up_n (by omega), up_n (by omega)]; exact hce x hx, by rw [up_eq, if_neg (by omega), up_s], ?_, hst, by omega, fun _ h => h, fun z n h => h⟩
    rw [up_s, Nat.sub_self])
  intro d
  induction d with
  | zero =>
    intro i cur Uc M1 hd hi hI
    have e : 193 = i := by omega
    subst e
    refine S_iload_4 (q := 17) dX5_settle_15 rfl ?_
    refine S_sipush (q := 20) (nI 192) dX5_settle_17 (by decide) rfl ?_
    refine S_icmp_gt (t := 142) (q := 23) dX5_settle_20 (by decide) rfl (fun hb20 => ?_) (fun hb20 => ?_)
    · exact absurd (WT_192 hP hce.gf hI.2.1.gf) (by have := hI.2.2.2.2.2.1; omega)
    · exact absurd (WT_192 hP hce.gf hI.2.1.gf) (by have := hI.2.2.2.2.2.1; omega)
  | succ d ih =>
    intro i cur Uc M1 hd hi hI
    have hlt : i < 193 := by omega
    refine S_iload_4 (q := 17) dX5_settle_15 rfl ?_
    refine S_sipush (q := 20) (nI 192) dX5_settle_17 (by decide) rfl ?_
    refine S_icmp_gt (t := 142) (q := 23) dX5_settle_20 (by decide) rfl (fun hb20 => ?_) (fun hb20 => ?_)
    · exact absurd hb20 (Int32.not_lt.mpr ((nI_leI (by omega) (by omega)).mpr (by omega)))
    · refine S_aload_0 (q := 24) dX5_settle_23 rfl ?_
      refine S_getI (q := 27) dX5_settle_24 fl_X5_22 (by first | assumption | rfl) (by rfl) rfl ?_
      rw [hI.2.2.2.1]
      refine S_istore_5 (q := 29) dX5_settle_27 rfl ?_
      refine S_aload_0 (q := 30) dX5_settle_29 rfl ?_
      refine S_dup (q := 31) dX5_settle_30 rfl rfl ?_
      refine S_getI (q := 34) dX5_settle_31 fl_X5_18 (by first | assumption | rfl) (by rfl) rfl ?_
      refine S_iconst (q := 35) (nI 1) dX5_settle_34 (by decide) rfl ?_
      refine S_iadd (q := 36) dX5_settle_35 rfl ?_
      rw [hI.2.2.1, show (nI i + nI 1 : Int32) = nI (i + 1) from nI_1 i]
      refine S_putI (q := 39) dX5_settle_36 fp_X5_18 (by first | assumption | rfl) (by rfl) rfl (by rfl) rfl ?_
      refine S_iconst (q := 40) (nI 0) dX5_settle_39 (by decide) rfl ?_
      refine S_istore_6 (q := 42) dX5_settle_40 rfl ?_
      refine q_settle hp hg hP hr hcl hpg hcu (fun a ha hb => by rw [up_n (by omega)]; exact hI.1 a ha hb) (fun x hx => by rw [up_n (by omega)]; exact hI.2.1 x hx) up_s (by rw [up_eq, if_neg (by omega)]; exact hI.2.2.2.1) hI.2.2.2.2.1 (by have := hI.2.2.2.2.2.1; omega) (fun M2 j k1 k2 k3 => ?_) (fun M2 fj Uj k => ?_)
      · have := hI.2.2.2.2.2.2.1 j (spr_bad k2)
        refine ⟨k1, ⟨fun j' h' => ?_, fun h n h' => ?_⟩⟩
        · rw [this] at h'; cases h'; exact ⟨rfl, k3⟩
        · rw [this] at h'; cases h'
      · obtain ⟨k1, k2, k3, k4, k5, k6, k7⟩ := k
        rw [Nat.sub_self] at k7
        refine S_aload_0 (q := 126) dX5_settle_125 rfl ?_
        refine S_getI (q := 129) dX5_settle_126 fl_X5_22 (by first | assumption | rfl) (by rfl) rfl ?_
        rw [k4]
        refine S_iload_5 (q := 131) dX5_settle_129 rfl ?_
        refine S_icmp_ne (t := 136) (q := 134) dX5_settle_131 (by decide) rfl (fun hb131 => ?_) (fun hb131 => ?_)
        · have hlt2 : WT P fj < WT P cur := by
            rcases Nat.lt_or_ge (WT P fj) (WT P cur) with z | z
            · exact z
            · exact absurd (by rw [show WT P fj = WT P cur by omega]) hb131
          have hso := spr_on k7 hlt2
          refine S_iinc_4 (q := 139) (nI (i + 1)) dX5_settle_136 (inc1 _) rfl ?_
          refine S_goto (t := 15) dX5_settle_139 (by decide) ?_
          refine S_fgt5 ?_
          exact ih (i + 1) fj Uj _ (by omega) hlt ⟨k1, k2, k3, k4, k5, by have := hI.2.2.2.2.2.1; omega, fun j h => hI.2.2.2.2.2.2.1 j (hso.1 j h), fun z n h => by rw [hI.2.2.2.2.2.2.2 z _ (hso.2 z n h), show n + 1 + i = n + (i + 1) by omega]⟩
        · have hW4 := WT_le hP (f := f)
          have heq := nI_inj (by omega) (by omega) hb131
          have hse := hI.2.2.2.2.2.2.2 _ _ (spr_end k7 (by have := hI.2.2.2.2.2.1; omega))
          refine S_iconst (q := 135) (nI 1) dX5_settle_134 (by decide) rfl ?_
          exact S_iret rfl dX5_settle_135 (by rfl) rfl ⟨k1, ⟨fun j' h' => (by rw [hse] at h'; cases h'), fun h n h' => (by rw [hse] at h'; cases h'; exact ⟨rfl, k2, by rw [k3, Nat.add_comm], k4⟩)⟩⟩
