set_option maxHeartbeats 4000000 in
set_option maxRecDepth 100000 in
theorem k_X6_makeNextChild {l : Launch} {G : Gd} {b0 : Nat} {lay : Lay} {M : Mem} {z ρ x k : Nat} {P : Pz} {g : Nat → Nat} {t : List Fm} {R : Nat × Nat × Bool × (Nat → Nat)} (hz : isZ lay z) (hP : P.ok) (hr : M (z + 1) 0 = nI P.r) (hcl : M (z + 1) 1 = nI P.c) (hk : M (z + 1) 2 = nI P.k) (hZ : ZR P ρ M z ((g, x, k) :: t, R))  : Ct l G b0 yX6_makeNextChild cX6_makeNextChild 4 (some .boolean) (rmZ 1 60) lay lay M [.ref (b0 + z)] (fun v M' => (∀ a, (a < z + 6 ∨ z + 20 ≤ a) → a ≠ z → M' a = M a) ∧ (nxC (g x) P.k k ≤ P.k → v = nI 1 ∧ ZR P ρ M' z ((g, x, nxC (g x) P.k k + 1) :: t, R) ∧ CE M' (z + 6) (P.r * P.c) (upf g x (2 ^ nxC (g x) P.k k))) ∧ (¬ nxC (g x) P.k k ≤ P.k → v = nI 0 ∧ ZR P ρ M' z ((g, x, k) :: t, R))) := by
  have hr8 := hP.r8
  have hc8 := hP.c8
  have hr1 := hP.r1
  have hc1 := hP.c1
  have hk1 := hP.k1
  have hk3 := hP.k3
  have h64 := rc64 hr8 hc8
  obtain ⟨hz0, hZg, hZp, hz17, hz18, hz19⟩ := id hz
  obtain ⟨hg0, ⟨hq0, hq1, hq2, hq3⟩, hg5⟩ := id hZg
  have hZp0 := hZp.1
  obtain ⟨z5, z6, z7, z8, z9, ⟨s1, s2, s3, s4, s5, s6, s7, s8, s9⟩, zl, zn, zf⟩ := id hZ
  simp only [List.length_cons] at z5 z6 z7 z8 z9 zl zn zf
  have hlen : t.length ≤ 59 := by omega
  have hg16 := s4 x s6
  refine Ct.of [some (.ref (b0 + z)), none, none, none] (by decide) (Nat.le_of_ble_eq_true rfl) rfl rfl ?_
  refine S_aload_0 (q := 1) dX6_makeNextChild_0 rfl ?_
  refine S_getI (q := 4) dX6_makeNextChild_1 fl_X6_35 (by first | assumption | rfl) (by rfl) rfl ?_
  refine S_iconst (q := 5) (nI 1) dX6_makeNextChild_4 (by decide) rfl ?_
  refine S_isub (q := 6) dX6_makeNextChild_5 rfl ?_
  rw [z5, pk_sub (show 1 ≤ t.length + 1 by omega), show t.length + 1 - 1 = t.length from rfl]
  refine S_istore_1 (q := 7) dX6_makeNextChild_6 rfl ?_
  refine S_aload_0 (q := 8) dX6_makeNextChild_7 rfl ?_
  refine S_getR (q := 11) dX6_makeNextChild_8 fl_X6_29 (by first | assumption | rfl) (by rfl) rfl ?_
  refine S_iload_1 (q := 12) dX6_makeNextChild_11 rfl ?_
  refine S_ialdV (i := t.length) (val := nI x) (q := 13) dX6_makeNextChild_12 (by first | assumption | rfl) (by first | (simp only [nI_add, pk_mul, nI_1]; done) | rfl) (by omega) (by decide) s2 rfl ?_
  refine S_istore_2 (q := 14) dX6_makeNextChild_13 rfl ?_
  refine S_aload_0 (q := 15) dX6_makeNextChild_14 rfl ?_
  refine S_getR (q := 18) dX6_makeNextChild_15 fl_X6_25 (by first | assumption | rfl) (by rfl) rfl ?_
  refine S_iload_1 (q := 19) dX6_makeNextChild_18 rfl ?_
  refine S_bipush (q := 21) (nI 64) dX6_makeNextChild_19 (by decide) rfl ?_
  refine S_imul (q := 22) dX6_makeNextChild_21 rfl ?_
  refine S_aload_0 (q := 23) dX6_makeNextChild_22 rfl ?_
  refine S_getR (q := 26) dX6_makeNextChild_23 fl_X6_12 (by first | assumption | rfl) (by rfl) rfl ?_
  refine S_getR (q := 29) dX6_makeNextChild_26 fl_X6_75 (by first | assumption | rfl) (by rfl) rfl ?_
  refine S_iconst (q := 30) (nI 0) dX6_makeNextChild_29 (by decide) rfl ?_
  refine S_bipush (q := 32) (nI 64) dX6_makeNextChild_30 (by decide) rfl ?_
  refine S_copyN (sp := 64 * t.length) (dp := 0) (z := 64) (q := 35) dX6_makeNextChild_32 lc_X6_78 (by first | assumption | rfl) (by first | assumption | rfl) ((pk_mul _ _).trans (by rw [Nat.mul_comm])) rfl rfl (by omega) (by omega) (by decide) (by decide) (Nat.le_of_ble_eq_true rfl) (Nat.le_of_ble_eq_true rfl) rfl ?_
  refine S_aload_0 (q := 36) dX6_makeNextChild_35 rfl ?_
  refine S_getR (q := 39) dX6_makeNextChild_36 fl_X6_32 (by first | assumption | rfl) (by rfl) rfl ?_
  refine S_iload_1 (q := 40) dX6_makeNextChild_39 rfl ?_
  refine S_ialdV (i := t.length) (val := nI k) (q := 41) dX6_makeNextChild_40 (by first | assumption | rfl) (by first | (simp only [nI_add, pk_mul, nI_1]; done) | rfl) (by omega) (by decide) (by rw [upA_n (by omega)]; exact s3) rfl ?_
  refine S_istore_3 (q := 42) dX6_makeNextChild_41 rfl ?_
  suffices H : ∀ (d : Nat) (i : Nat), (P.k + 1) - i = d → i ≤ (P.k + 1) → (k ≤ i ∧ nxC (g x) P.k k = nxC (g x) P.k (i)) → S l G b0 yX6_makeNextChild cX6_makeNextChild 4 (some .boolean) (rmZ 1 60) lay (fun v M' => (∀ a, (a < z + 6 ∨ z + 20 ≤ a) → a ≠ z → M' a = M a) ∧ (nxC (g x) P.k k ≤ P.k → v = nI 1 ∧ ZR P ρ M' z ((g, x, nxC (g x) P.k k + 1) :: t, R) ∧ CE M' (z + 6) (P.r * P.c) (upf g x (2 ^ nxC (g x) P.k k))) ∧ (¬ nxC (g x) P.k k ≤ P.k → v = nI 0 ∧ ZR P ρ M' z ((g, x, k) :: t, R))) 0 0 0 0 lay 42 [some (.ref (b0 + z)), some (.int (nI t.length)), some (.int (nI x)), some (.int (nI (i)))] [] (upA M (z + 6) (va_cpy (M (z + 17)) (M (z + 6)) (64 * t.length) 0 64)) from H _ k rfl s8 ⟨Nat.le_refl _, rfl⟩
  intro d
  induction d with
  | zero =>
    intro i hd hi hI
    have e : (P.k + 1) = i := by omega
    subst e
    refine S_iload_3 (q := 43) dX6_makeNextChild_42 rfl ?_
    refine S_aload_0 (q := 44) dX6_makeNextChild_43 rfl ?_
    refine S_getR (q := 47) dX6_makeNextChild_44 fl_X6_12 (by first | assumption | rfl) (by rfl) rfl ?_
    refine S_getI (q := 50) dX6_makeNextChild_47 fl_X6_84 (by first | assumption | rfl) (by rfl) rfl ?_
    rw [upA_n (show z + 1 ≠ z + 6 by omega), hk]
    refine S_icmp_gt (t := 71) (q := 53) dX6_makeNextChild_50 (by decide) rfl (fun hb50 => ?_) (fun hb50 => ?_)
    · refine S_iload_3 (q := 72) dX6_makeNextChild_71 rfl ?_
      refine S_aload_0 (q := 73) dX6_makeNextChild_72 rfl ?_
      refine S_getR (q := 76) dX6_makeNextChild_73 fl_X6_12 (by first | assumption | rfl) (by rfl) rfl ?_
      refine S_getI (q := 79) dX6_makeNextChild_76 fl_X6_84 (by first | assumption | rfl) (by rfl) rfl ?_
      rw [upA_n (show z + 1 ≠ z + 6 by omega), hk]
      refine S_icmp_le (t := 84) (q := 82) dX6_makeNextChild_79 (by decide) rfl (fun hb79 => ?_) (fun hb79 => ?_)
      · exact absurd ((nI_leI (by omega) (by omega)).mp hb79) (by omega)
      · refine S_iconst (q := 83) (nI 0) dX6_makeNextChild_82 (by decide) rfl ?_
        exact S_iret rfl dX6_makeNextChild_83 (by rfl) rfl ⟨fun a h1 h2 => upA_n (by omega), fun h => (by rw [hI.2, nxC_end] at h; exact absurd h (by omega)), fun _ => ⟨rfl, by rw [upA_n (by omega)]; exact z5, by rw [upA_n (by omega)]; exact z6, by rw [upA_n (by omega)]; exact z7, by rw [upA_n (by omega)]; exact z8, by rw [upA_n (by omega)]; exact z9, SK.fr hP ((g, x, k) :: t) ⟨s1, s2, s3, s4, s5, s6, s7, s8, s9⟩ (fun y _ => by rw [upA_n (by omega)]) (fun y _ => by rw [upA_n (by omega)]) (fun y _ => by rw [upA_n (by omega)]), zl, zn, zf⟩⟩
    · exact absurd ((nI_ltI (by omega) (by omega)).mpr (show P.k < P.k + 1 by omega)) hb50
  | succ d ih =>
    intro i hd hi hI
    have hlt : i < (P.k + 1) := by omega
    refine S_iload_3 (q := 43) dX6_makeNextChild_42 rfl ?_
    refine S_aload_0 (q := 44) dX6_makeNextChild_43 rfl ?_
    refine S_getR (q := 47) dX6_makeNextChild_44 fl_X6_12 (by first | assumption | rfl) (by rfl) rfl ?_
    refine S_getI (q := 50) dX6_makeNextChild_47 fl_X6_84 (by first | assumption | rfl) (by rfl) rfl ?_
    rw [upA_n (show z + 1 ≠ z + 6 by omega), hk]
    refine S_icmp_gt (t := 71) (q := 53) dX6_makeNextChild_50 (by decide) rfl (fun hb50 => ?_) (fun hb50 => ?_)
    · exact absurd ((nI_ltI (by omega) (by omega)).mp hb50) (by omega)
    · refine S_aload_0 (q := 54) dX6_makeNextChild_53 rfl ?_
      refine S_getR (q := 57) dX6_makeNextChild_54 fl_X6_12 (by first | assumption | rfl) (by rfl) rfl ?_
      refine S_iload_2 (q := 58) dX6_makeNextChild_57 rfl ?_
      refine S_iload_3 (q := 59) dX6_makeNextChild_58 rfl ?_
      refine S_callV2i (q := 62) dX6_makeNextChild_59 lk_X6_87 (by first | assumption | rfl) rfl rfl (k_X1_hasCandidate hZg (show x < 64 by omega) (show (upA M (z + 6) (va_cpy (M (z + 17)) (M (z + 6)) (64 * t.length) 0 64)) (z + 6) x = nI (g x) by rw [upA_s]; exact ((congrArg _ (Nat.zero_add x).symm).trans (cpy_in (by omega))).trans (s1 x s6)) hg16.2 (show i < 32 by omega)) rfl rfl (Nat.le_of_ble_eq_true rfl) ⟨Nat.le_of_ble_eq_true rfl, Nat.le_of_ble_eq_true rfl⟩ ⟨Nat.le_of_ble_eq_true rfl, Nat.le_of_ble_eq_true rfl⟩ rfl (fun v59 M59 hv59 => ?_)
      obtain ⟨rfl, rfl⟩ := hv59
      refine S_if_ne (t := 71) (q := 65) dX6_makeNextChild_62 (by decide) rfl (fun hb62 => ?_) (fun hb62 => ?_)
      · have hb : (g x).testBit i = true := bI_n.mp hb62
        have hj := hI.2
        rw [nxC_hit (by omega) hb] at hj
        refine S_iload_3 (q := 72) dX6_makeNextChild_71 rfl ?_
        refine S_aload_0 (q := 73) dX6_makeNextChild_72 rfl ?_
        refine S_getR (q := 76) dX6_makeNextChild_73 fl_X6_12 (by first | assumption | rfl) (by rfl) rfl ?_
        refine S_getI (q := 79) dX6_makeNextChild_76 fl_X6_84 (by first | assumption | rfl) (by rfl) rfl ?_
        rw [upA_n (show z + 1 ≠ z + 6 by omega), hk]
        refine S_icmp_le (t := 84) (q := 82) dX6_makeNextChild_79 (by decide) rfl (fun hb79 => ?_) (fun hb79 => ?_)
        · refine S_aload_0 (q := 85) dX6_makeNextChild_84 rfl ?_
          refine S_getR (q := 88) dX6_makeNextChild_85 fl_X6_32 (by first | assumption | rfl) (by rfl) rfl ?_
          refine S_iload_1 (q := 89) dX6_makeNextChild_88 rfl ?_
          refine S_iload_3 (q := 90) dX6_makeNextChild_89 rfl ?_
          refine S_iconst (q := 91) (nI 1) dX6_makeNextChild_90 (by decide) rfl ?_
          refine S_iadd (q := 92) dX6_makeNextChild_91 rfl ?_
          rw [nI_add]
          refine S_iastE (i := t.length) (q := 93) dX6_makeNextChild_92 (by first | assumption | rfl) (by first | (simp only [nI_add, pk_mul, nI_1]; done) | rfl) (by omega) (by decide) rfl ?_
          refine S_aload_0 (q := 94) dX6_makeNextChild_93 rfl ?_
          refine S_getR (q := 97) dX6_makeNextChild_94 fl_X6_12 (by first | assumption | rfl) (by rfl) rfl ?_
          refine S_getR (q := 100) dX6_makeNextChild_97 fl_X6_75 (by first | assumption | rfl) (by rfl) rfl ?_
          refine S_iload_2 (q := 101) dX6_makeNextChild_100 rfl ?_
          refine S_iconst (q := 102) (nI 1) dX6_makeNextChild_101 (by decide) rfl ?_
          refine S_iload_3 (q := 103) dX6_makeNextChild_102 rfl ?_
          refine S_ishl (q := 104) dX6_makeNextChild_103 rfl ?_
          rw [nI_shl (show i < 32 by omega) (by rw [Nat.one_mul]; exact p2_lt (by omega)), Nat.one_mul]
          refine S_iastE (i := x) (q := 105) dX6_makeNextChild_104 (by first | assumption | rfl) (by first | (simp only [nI_add, pk_mul, nI_1]; done) | rfl) (by omega) (by decide) rfl ?_
          refine S_iconst (q := 106) (nI 1) dX6_makeNextChild_105 (by decide) rfl ?_
          exact S_iret rfl dX6_makeNextChild_106 (by rfl) rfl ⟨fun a h1 h2 => (by rw [up_n (by omega), up_n (by omega), upA_n (by omega)]), fun _ => (by
                rw [hj]
                have hi4 : i < 4 := by omega
                have hc1 : CE (upA M (z + 6) (va_cpy (M (z + 17)) (M (z + 6)) (64 * t.length) 0 64)) (z + 6) (P.r * P.c) g := fun y hy => ⟨by rw [upA_s]; exact ((congrArg _ (Nat.zero_add y).symm).trans (cpy_in (by omega))).trans (s1 y hy), s4 y hy⟩
                refine ⟨rfl, ⟨?_, ?_, ?_, ?_, ?_, ⟨fun y hy => ?_, ?_, ?_, s4, s5, s6, s7, by omega, s9.fr hP _ (fun y hy => ?_) (fun y hy => ?_) (fun y hy => ?_)⟩, zl, zn, zf⟩, CE.up (hc1.fr (up_n (by omega))) (Nat.two_pow_pos i) (Nat.pow_lt_pow_right (by decide) hi4)⟩
                · rw [up_n (by omega), up_n (by omega), upA_n (by omega)]; exact z5
                · rw [up_n (by omega), up_n (by omega), upA_n (by omega)]; exact z6
                · rw [up_n (by omega), up_n (by omega), upA_n (by omega)]; exact z7
                · rw [up_n (by omega), up_n (by omega), upA_n (by omega)]; exact z8
                · rw [up_n (by omega), up_n (by omega), upA_n (by omega)]; exact z9
                · rw [up_n (by omega), up_n (by omega), upA_n (by omega)]; exact s1 y hy
                · rw [up_n (by omega), up_n (by omega), upA_n (by omega)]; exact s2
                · rw [up_n (by omega), up_s]
                · rw [up_n (by omega), up_n (by omega), upA_n (by omega)]
                · rw [up_n (by omega), up_n (by omega), upA_n (by omega)]
                · rw [up_n (by omega), up_eq, if_neg (by omega), upA_n (by omega)]), fun h => absurd (by rw [hj]; omega) h⟩
        · exact absurd ((nI_leI (by omega) (by omega)).mpr (show i ≤ P.k by omega)) hb79
      · have hb : (g x).testBit i = false := by
          cases h : (g x).testBit i with
          | false => rfl
          | true => exact absurd h (bI_0.mp hb62)
        refine S_iinc_3 (q := 68) (nI (i + 1)) dX6_makeNextChild_65 (inc1 _) rfl ?_
        refine S_goto (t := 42) dX6_makeNextChild_68 (by decide) ?_
        exact ih (i + 1) (by omega) hlt ⟨by omega, by rw [hI.2, nxC_step (by omega) hb]⟩
set_option maxHeartbeats 4000000 in
set_option maxRecDepth 100000 in
theorem k_X6_lastSolutionColor {l : Launch} {G : Gd} {b0 : Nat} {lay : Lay} {M : Mem} {z x m : Nat} (hz : isZ lay z) (hx : x < 64) (hm : M (z + 6) x = nI m) (hm1 : 1 ≤ m) (hm16 : m < 16)  : Ct l G b0 yX6_lastSolutionColor cX6_lastSolutionColor 2 (some .int) (rmZ 2 41) lay lay M [.ref (b0 + z), .int (nI x)] (fun v M' => M' = M ∧ v = nI (pc4 (m - 1))) := by
  obtain ⟨hz0, hZg, hZp, hz17, hz18, hz19⟩ := id hz
  obtain ⟨hg0, ⟨hq0, hq1, hq2, hq3⟩, hg5⟩ := id hZg
  have hZp0 := hZp.1
  refine Ct.of [some (.ref (b0 + z)), some (.int (nI x))] (by decide) (Nat.le_of_ble_eq_true rfl) rfl rfl ?_
  refine S_aload_0 (q := 1) dX6_lastSolutionColor_0 rfl ?_
  refine S_getR (q := 4) dX6_lastSolutionColor_1 fl_X6_12 (by first | assumption | rfl) (by rfl) rfl ?_
  refine S_iload_1 (q := 5) dX6_lastSolutionColor_4 rfl ?_
  refine S_callV1i (q := 8) dX6_lastSolutionColor_5 lk_X6_72 (by first | assumption | rfl) rfl rfl (k_X1_decidedColor hZg hx hm hm16 hm1) rfl rfl (Nat.le_of_ble_eq_true rfl) ⟨Nat.le_of_ble_eq_true rfl, Nat.le_of_ble_eq_true rfl⟩ ⟨Nat.le_of_ble_eq_true rfl, Nat.le_of_ble_eq_true rfl⟩ rfl (fun v5 M5 hv5 => ?_)
  obtain ⟨rfl, rfl⟩ := hv5
  exact S_iret rfl dX6_lastSolutionColor_8 rfl rfl ⟨rfl, rfl⟩
