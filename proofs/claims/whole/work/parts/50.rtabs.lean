set_option maxHeartbeats 4000000 in
set_option maxRecDepth 100000 in
theorem q_save1 {l : Launch} {G : Gd} {b0 : Nat} {M : Mem} {Post : PT}   (k : ∀ M2, (∀ a, a ≠ 159 → M2 a = M a) ∧ (∀ x, x < 64 → M2 159 (x) = M 141 (x)) ∧ (∀ x, 64 ≤ x → M2 159 x = M 159 x) → S l G b0 yX10_save cX10_save 2 (some .int) (rmZ 2 45) LAY Post 0 0 0 0 LAY 55 [some (.ref (b0 + 140)), some (.int (nI (64)))] [] M2) : S l G b0 yX10_save cX10_save 2 (some .int) (rmZ 2 45) LAY Post 0 0 0 0 LAY 31 [some (.ref (b0 + 140)), some (.int (nI (0)))] [] M := by
  suffices H : ∀ (d : Nat) (i : Nat) (M1 : Mem), 64 - i = d → i ≤ 64 → ((∀ a, a ≠ 159 → M1 a = M a) ∧ (∀ x, x < i → M1 159 (x) = M 141 (x)) ∧ (∀ x, i ≤ x → M1 159 x = M 159 x)) → S l G b0 yX10_save cX10_save 2 (some .int) (rmZ 2 45) LAY Post 0 0 0 0 LAY 31 [some (.ref (b0 + 140)), some (.int (nI (i)))] [] M1 from H _ 0 _ rfl (by omega) ⟨fun _ _ => rfl, fun x hx => absurd hx (Nat.not_lt_zero x), fun _ _ => rfl⟩
  intro d
  induction d with
  | zero =>
    intro i M1 hd hi hI
    have e : 64 = i := by omega
    subst e
    refine S_iload_1 (q := 32) dX10_save_31 rfl ?_
    refine S_bipush (q := 34) (nI 64) dX10_save_32 (by decide) rfl ?_
    refine S_icmp_ge (t := 55) (q := 37) dX10_save_34 (by decide) rfl (fun hb34 => ?_) (fun hb34 => ?_)
    · exact k M1 hI
    · exact absurd (Int32.le_refl _) hb34
  | succ d ih =>
    intro i M1 hd hi hI
    have hlt : i < 64 := by omega
    refine S_iload_1 (q := 32) dX10_save_31 rfl ?_
    refine S_bipush (q := 34) (nI 64) dX10_save_32 (by decide) rfl ?_
    refine S_icmp_ge (t := 55) (q := 37) dX10_save_34 (by decide) rfl (fun hb34 => ?_) (fun hb34 => ?_)
    · exact absurd hb34 (nI_ge hlt (by omega))
    · refine S_aload_0 (q := 38) dX10_save_37 rfl ?_
      refine S_getR (q := 41) dX10_save_38 fl_X10_144 (by first | assumption | rfl) (by rfl) rfl ?_
      refine S_iload_1 (q := 42) dX10_save_41 rfl ?_
      refine S_aload_0 (q := 43) dX10_save_42 rfl ?_
      refine S_getR (q := 46) dX10_save_43 fl_X10_22 (by first | assumption | rfl) (by rfl) rfl ?_
      refine S_iload_1 (q := 47) dX10_save_46 rfl ?_
      refine S_ialdE (i := i) (q := 48) dX10_save_47 (by first | assumption | rfl) (by first | (simp only [nI_add, pk_mul, nI_1]; done) | rfl) (by omega) (by decide) rfl ?_
      refine S_iastE (i := i) (q := 49) dX10_save_48 (by first | assumption | rfl) (by first | (simp only [nI_add, pk_mul, nI_1]; done) | rfl) (by omega) (by decide) rfl ?_
      refine S_iinc_1 (q := 52) (nI (i + 1)) dX10_save_49 (inc1 _) rfl ?_
      refine S_goto (t := 31) dX10_save_52 (by decide) ?_
      exact ih (i + 1) _ (by omega) hlt ⟨(fun a h0 => by rw [up_n h0]; exact hI.1 a h0), (fun x hx => by
        rw [up_eq]
        by_cases e : x = i
        · rw [if_pos ⟨rfl, by omega⟩, e]; exact (by exact congrFun (hI.1 141 (by decide)) _)
        · rw [if_neg (by omega)]; exact hI.2.1 x (by omega)), (fun x hx => by
        rw [up_eq, if_neg (by omega)]; exact hI.2.2 x (by omega))⟩
set_option maxHeartbeats 4000000 in
set_option maxRecDepth 100000 in
theorem q_save2 {l : Launch} {G : Gd} {b0 : Nat} {M : Mem} {Post : PT}   (k : ∀ M2, (∀ a, a ≠ 160 → M2 a = M a) ∧ (∀ x, x < 16 → M2 160 (x) = M 142 (x)) ∧ (∀ x, 16 ≤ x → M2 160 x = M 160 x) → S l G b0 yX10_save cX10_save 2 (some .int) (rmZ 2 45) LAY Post 0 0 0 0 LAY 81 [some (.ref (b0 + 140)), some (.int (nI (16)))] [] M2) : S l G b0 yX10_save cX10_save 2 (some .int) (rmZ 2 45) LAY Post 0 0 0 0 LAY 57 [some (.ref (b0 + 140)), some (.int (nI (0)))] [] M := by
  suffices H : ∀ (d : Nat) (i : Nat) (M1 : Mem), 16 - i = d → i ≤ 16 → ((∀ a, a ≠ 160 → M1 a = M a) ∧ (∀ x, x < i → M1 160 (x) = M 142 (x)) ∧ (∀ x, i ≤ x → M1 160 x = M 160 x)) → S l G b0 yX10_save cX10_save 2 (some .int) (rmZ 2 45) LAY Post 0 0 0 0 LAY 57 [some (.ref (b0 + 140)), some (.int (nI (i)))] [] M1 from H _ 0 _ rfl (by omega) ⟨fun _ _ => rfl, fun x hx => absurd hx (Nat.not_lt_zero x), fun _ _ => rfl⟩
  intro d
  induction d with
  | zero =>
    intro i M1 hd hi hI
    have e : 16 = i := by omega
    subst e
    refine S_iload_1 (q := 58) dX10_save_57 rfl ?_
    refine S_bipush (q := 60) (nI 16) dX10_save_58 (by decide) rfl ?_
    refine S_icmp_ge (t := 81) (q := 63) dX10_save_60 (by decide) rfl (fun hb60 => ?_) (fun hb60 => ?_)
    · exact k M1 hI
    · exact absurd (Int32.le_refl _) hb60
  | succ d ih =>
    intro i M1 hd hi hI
    have hlt : i < 16 := by omega
    refine S_iload_1 (q := 58) dX10_save_57 rfl ?_
    refine S_bipush (q := 60) (nI 16) dX10_save_58 (by decide) rfl ?_
    refine S_icmp_ge (t := 81) (q := 63) dX10_save_60 (by decide) rfl (fun hb60 => ?_) (fun hb60 => ?_)
    · exact absurd hb60 (nI_ge hlt (by omega))
    · refine S_aload_0 (q := 64) dX10_save_63 rfl ?_
      refine S_getR (q := 67) dX10_save_64 fl_X10_147 (by first | assumption | rfl) (by rfl) rfl ?_
      refine S_iload_1 (q := 68) dX10_save_67 rfl ?_
      refine S_aload_0 (q := 69) dX10_save_68 rfl ?_
      refine S_getR (q := 72) dX10_save_69 fl_X10_26 (by first | assumption | rfl) (by rfl) rfl ?_
      refine S_iload_1 (q := 73) dX10_save_72 rfl ?_
      refine S_ialdE (i := i) (q := 74) dX10_save_73 (by first | assumption | rfl) (by first | (simp only [nI_add, pk_mul, nI_1]; done) | rfl) (by omega) (by decide) rfl ?_
      refine S_iastE (i := i) (q := 75) dX10_save_74 (by first | assumption | rfl) (by first | (simp only [nI_add, pk_mul, nI_1]; done) | rfl) (by omega) (by decide) rfl ?_
      refine S_iinc_1 (q := 78) (nI (i + 1)) dX10_save_75 (inc1 _) rfl ?_
      refine S_goto (t := 57) dX10_save_78 (by decide) ?_
      exact ih (i + 1) _ (by omega) hlt ⟨(fun a h0 => by rw [up_n h0]; exact hI.1 a h0), (fun x hx => by
        rw [up_eq]
        by_cases e : x = i
        · rw [if_pos ⟨rfl, by omega⟩, e]; exact (by exact congrFun (hI.1 142 (by decide)) _)
        · rw [if_neg (by omega)]; exact hI.2.1 x (by omega)), (fun x hx => by
        rw [up_eq, if_neg (by omega)]; exact hI.2.2 x (by omega))⟩
set_option maxHeartbeats 4000000 in
set_option maxRecDepth 100000 in
theorem q_save3 {l : Launch} {G : Gd} {b0 : Nat} {M : Mem} {Post : PT}   (k : ∀ M2, (∀ a, a ≠ 161 → a ≠ 162 → M2 a = M a) ∧ (∀ x, x < 128 → M2 161 (x) = M 143 (x)) ∧ (∀ x, 128 ≤ x → M2 161 x = M 161 x) ∧ (∀ x, x < 128 → M2 162 (x) = M 144 (x)) ∧ (∀ x, 128 ≤ x → M2 162 x = M 162 x) → S l G b0 yX10_save cX10_save 2 (some .int) (rmZ 2 45) LAY Post 0 0 0 0 LAY 120 [some (.ref (b0 + 140)), some (.int (nI (128)))] [] M2) : S l G b0 yX10_save cX10_save 2 (some .int) (rmZ 2 45) LAY Post 0 0 0 0 LAY 83 [some (.ref (b0 + 140)), some (.int (nI (0)))] [] M := by
  suffices H : ∀ (d : Nat) (i : Nat) (M1 : Mem), 128 - i = d → i ≤ 128 → ((∀ a, a ≠ 161 → a ≠ 162 → M1 a = M a) ∧ (∀ x, x < i → M1 161 (x) = M 143 (x)) ∧ (∀ x, i ≤ x → M1 161 x = M 161 x) ∧ (∀ x, x < i → M1 162 (x) = M 144 (x)) ∧ (∀ x, i ≤ x → M1 162 x = M 162 x)) → S l G b0 yX10_save cX10_save 2 (some .int) (rmZ 2 45) LAY Post 0 0 0 0 LAY 83 [some (.ref (b0 + 140)), some (.int (nI (i)))] [] M1 from H _ 0 _ rfl (by omega) ⟨fun _ _ _ => rfl, fun x hx => absurd hx (Nat.not_lt_zero x), fun _ _ => rfl, fun x hx => absurd hx (Nat.not_lt_zero x), fun _ _ => rfl⟩
  intro d
  induction d with
  | zero =>
    intro i M1 hd hi hI
    have e : 128 = i := by omega
    subst e
    refine S_iload_1 (q := 84) dX10_save_83 rfl ?_
    refine S_sipush (q := 87) (nI 128) dX10_save_84 (by decide) rfl ?_
    refine S_icmp_ge (t := 120) (q := 90) dX10_save_87 (by decide) rfl (fun hb87 => ?_) (fun hb87 => ?_)
    · exact k M1 hI
    · exact absurd (Int32.le_refl _) hb87
  | succ d ih =>
    intro i M1 hd hi hI
    have hlt : i < 128 := by omega
    refine S_iload_1 (q := 84) dX10_save_83 rfl ?_
    refine S_sipush (q := 87) (nI 128) dX10_save_84 (by decide) rfl ?_
    refine S_icmp_ge (t := 120) (q := 90) dX10_save_87 (by decide) rfl (fun hb87 => ?_) (fun hb87 => ?_)
    · exact absurd hb87 (nI_ge hlt (by omega))
    · refine S_aload_0 (q := 91) dX10_save_90 rfl ?_
      refine S_getR (q := 94) dX10_save_91 fl_X10_150 (by first | assumption | rfl) (by rfl) rfl ?_
      refine S_iload_1 (q := 95) dX10_save_94 rfl ?_
      refine S_aload_0 (q := 96) dX10_save_95 rfl ?_
      refine S_getR (q := 99) dX10_save_96 fl_X10_29 (by first | assumption | rfl) (by rfl) rfl ?_
      refine S_iload_1 (q := 100) dX10_save_99 rfl ?_
      refine S_ialdE (i := i) (q := 101) dX10_save_100 (by first | assumption | rfl) (by first | (simp only [nI_add, pk_mul, nI_1]; done) | rfl) (by omega) (by decide) rfl ?_
      refine S_iastE (i := i) (q := 102) dX10_save_101 (by first | assumption | rfl) (by first | (simp only [nI_add, pk_mul, nI_1]; done) | rfl) (by omega) (by decide) rfl ?_
      refine S_aload_0 (q := 103) dX10_save_102 rfl ?_
      refine S_getR (q := 106) dX10_save_103 fl_X10_153 (by first | assumption | rfl) (by rfl) rfl ?_
      refine S_iload_1 (q := 107) dX10_save_106 rfl ?_
      refine S_aload_0 (q := 108) dX10_save_107 rfl ?_
      refine S_getR (q := 111) dX10_save_108 fl_X10_32 (by first | assumption | rfl) (by rfl) rfl ?_
      refine S_iload_1 (q := 112) dX10_save_111 rfl ?_
      refine S_ialdE (i := i) (q := 113) dX10_save_112 (by first | assumption | rfl) (by first | (simp only [nI_add, pk_mul, nI_1]; done) | rfl) (by omega) (by decide) rfl ?_
      refine S_iastE (i := i) (q := 114) dX10_save_113 (by first | assumption | rfl) (by first | (simp only [nI_add, pk_mul, nI_1]; done) | rfl) (by omega) (by decide) rfl ?_
      refine S_iinc_1 (q := 117) (nI (i + 1)) dX10_save_114 (inc1 _) rfl ?_
      refine S_goto (t := 83) dX10_save_117 (by decide) ?_
      exact ih (i + 1) _ (by omega) hlt ⟨(fun a h0 h1 => by rw [up_n h1, up_n h0]; exact hI.1 a h0 h1), (fun x hx => by
        rw [up_n (by decide), up_eq]
        by_cases e : x = i
        · rw [if_pos ⟨rfl, by omega⟩, e]; exact (by exact congrFun (hI.1 143 (by decide) (by decide)) _)
        · rw [if_neg (by omega)]; exact hI.2.1 x (by omega)), (fun x hx => by
        rw [up_n (by decide), up_eq, if_neg (by omega)]; exact hI.2.2.1 x (by omega)), (fun x hx => by
        rw [up_eq]
        by_cases e : x = i
        · rw [if_pos ⟨rfl, by omega⟩, e]; exact (by rw [up_n (by decide)]; exact congrFun (hI.1 144 (by decide) (by decide)) _)
        · rw [if_neg (by omega), up_n (by decide)]; exact hI.2.2.2.1 x (by omega)), (fun x hx => by
        rw [up_eq, if_neg (by omega), up_n (by decide)]; exact hI.2.2.2.2 x (by omega))⟩
set_option maxHeartbeats 4000000 in
set_option maxRecDepth 100000 in
theorem k_X10_save {l : Launch} {G : Gd} {b0 : Nat} {M : Mem} {A : Ab}  (hC : RR M A) (hk : A.ok)  : Ct l G b0 yX10_save cX10_save 2 (some .int) (rmZ 2 45) LAY LAY M [.ref (b0 + 140)] (fun v M' => RSR M (o_save A) v M') := by
  obtain ⟨⟨g0, g1, g2, gcu, gce⟩, hru, hhi, hbad, hask, htx, hfo, hsn, htb⟩ := id hC
  have hP := hk.P
  have hr1 := hP.r1
  have hr8 := hP.r8
  have hc1 := hP.c1
  have hc8 := hP.c8
  have hk1 := hP.k1
  have hk3 := hP.k3
  have h64 := rc64 hr8 hc8
  have hH8 := hk.H8
  have hN : A.N = A.P.r + A.P.c := rfl
  refine Ct.of [some (.ref (b0 + 140)), none] (by decide) (Nat.le_of_ble_eq_true rfl) rfl rfl ?_
  refine S_aload_0 (q := 1) dX10_save_0 rfl ?_
  refine S_iconst (q := 2) (nI 1) dX10_save_1 (by decide) rfl ?_
  refine S_putI (q := 5) dX10_save_2 fp_X10_132 (by first | assumption | rfl) (by rfl) (by rfl) (by rfl) rfl ?_
  refine S_aload_0 (q := 6) dX10_save_5 rfl ?_
  refine S_aload_0 (q := 7) dX10_save_6 rfl ?_
  refine S_getI (q := 10) dX10_save_7 fl_X10_7 (by first | assumption | rfl) (by rfl) rfl ?_
  rw [up_eq, if_neg (by decide), g0]
  refine S_putI (q := 13) dX10_save_10 fp_X10_135 (by first | assumption | rfl) (by rfl) rfl (by rfl) rfl ?_
  refine S_aload_0 (q := 14) dX10_save_13 rfl ?_
  refine S_aload_0 (q := 15) dX10_save_14 rfl ?_
  refine S_getI (q := 18) dX10_save_15 fl_X10_13 (by first | assumption | rfl) (by rfl) rfl ?_
  rw [up_eq, if_neg (by decide), up_eq, if_neg (by decide), g1]
  refine S_putI (q := 21) dX10_save_18 fp_X10_138 (by first | assumption | rfl) (by rfl) rfl (by rfl) rfl ?_
  refine S_aload_0 (q := 22) dX10_save_21 rfl ?_
  refine S_aload_0 (q := 23) dX10_save_22 rfl ?_
  refine S_getI (q := 26) dX10_save_23 fl_X10_16 (by first | assumption | rfl) (by rfl) rfl ?_
  rw [up_eq, if_neg (by decide), up_eq, if_neg (by decide), up_eq, if_neg (by decide), g2]
  refine S_putI (q := 29) dX10_save_26 fp_X10_141 (by first | assumption | rfl) (by rfl) rfl (by rfl) rfl ?_
  refine S_iconst (q := 30) (nI 0) dX10_save_29 (by decide) rfl ?_
  refine S_istore_1 (q := 31) dX10_save_30 rfl ?_
  refine q_save1 (fun Ma ha => ?_)
  refine S_iconst (q := 56) (nI 0) dX10_save_55 (by decide) rfl ?_
  refine S_istore_1 (q := 57) dX10_save_56 rfl ?_
  refine q_save2 (fun Mb hb => ?_)
  refine S_iconst (q := 82) (nI 0) dX10_save_81 (by decide) rfl ?_
  refine S_istore_1 (q := 83) dX10_save_82 rfl ?_
  refine q_save3 (fun Mc hc => ?_)
  have e140 : ∀ k, k < 40 → Mc 140 k = M 140 k := fun k hk2 => by rw [hc.1 140 (by decide) (by decide), hb.1 140 (by decide), ha.1 140 (by decide), up_eq, if_neg (by omega), up_eq, if_neg (by omega), up_eq, if_neg (by omega), up_eq, if_neg (by omega)]
  have e141 : Mc 141 = M 141 := by rw [hc.1 141 (by decide) (by decide), hb.1 141 (by decide), ha.1 141 (by decide), up_n (by decide), up_n (by decide), up_n (by decide), up_n (by decide)]
  have eo : ∀ a, a ≠ 140 → (a < 159 ∨ 162 < a) → Mc a = M a := fun a h1 h2 => by rw [hc.1 a (by omega) (by omega), hb.1 a (by omega), ha.1 a (by omega), up_n h1, up_n h1, up_n h1, up_n h1]
  have e4 : ∀ k, Mc 140 k = (up (up (up (up M 140 40 (nI 1)) 140 41 (nI A.P.r)) 140 42 (nI A.P.c)) 140 43 (nI A.P.k)) 140 k := fun k => by rw [hc.1 140 (by decide) (by decide), hb.1 140 (by decide), ha.1 140 (by decide)]
  refine S_aload_0 (q := 121) dX10_save_120 rfl ?_
  refine S_iconst (q := 122) (nI 0) dX10_save_121 (by decide) rfl ?_
  refine S_callV1i (q := 125) dX10_save_122 lk_X10_211 (by first | assumption | rfl) rfl rfl (k_X10_decidedIn (P := A.P) (f := A.f) (b := 0) (by rw [e140 0 (by decide)]; exact g0) (by rw [e140 1 (by decide)]; exact g1) hP (by decide) (fun x hx => by rw [e141]; exact gce x hx)) rfl rfl (Nat.le_of_ble_eq_true rfl) ⟨Nat.le_of_ble_eq_true rfl, Nat.le_of_ble_eq_true rfl⟩ ⟨Nat.le_of_ble_eq_true rfl, Nat.le_of_ble_eq_true rfl⟩ rfl (fun v122 M122 hv122 => ?_)
  obtain ⟨e122, rfl⟩ := hv122
  rw [e122]
  exact S_iret rfl dX10_save_125 rfl rfl (RSR.to (A := mkA A.P A.f A.H A.ru A.bad A.tx A.fo A.tb (some (A.P, A.f))) (hC.oth hk (fun k hk2 => e140 k (by omega)) (fun a ha => eo a (by omega) (by omega)) (by rw [e140 3 (by decide)]; exact hru) (htx.fr (e140 35 (by decide)) (eo 154 (by decide) (by decide))) (hfo.fr (e140 36 (by decide)) (eo 155 (by decide) (by decide))) ⟨by rw [e4, up_eq, if_neg (by decide), up_eq, if_neg (by decide), up_eq, if_neg (by decide), up_s]; rfl, fun P f e => (by
      cases e
      refine ⟨by rw [e4, up_eq, if_neg (by decide), up_eq, if_neg (by decide), up_s], by rw [e4, up_eq, if_neg (by decide), up_s], by rw [e4, up_s], fun x hx => ?_, fun i hi => ?_, fun i hi j hj => ?_⟩
      · rw [hc.1 159 (by decide) (by decide), hb.1 159 (by decide), ha.2.1 _ (gx_64 hr8 hc8 hc1 hx).1, up_n (by decide), up_n (by decide), up_n (by decide), up_n (by decide)]
        have := gce x hx
        rw [Nat.zero_add] at this
        exact this.1
      · rw [hc.1 160 (by decide) (by decide), hb.2.1 i hi, ha.1 142 (by decide), up_n (by decide), up_n (by decide), up_n (by decide), up_n (by decide)]
        exact (gcu i hi).1
      · have h1 := (gcu i hi).2.2 j hj
        have h2 := (gcu i hi).2.1
        exact ⟨by rw [hc.2.1 (i * 8 + j) (by omega), hb.1 143 (by decide), ha.1 143 (by decide), up_n (by decide), up_n (by decide), up_n (by decide), up_n (by decide)]; exact h1.1, by rw [hc.2.2.2.1 (i * 8 + j) (by omega), hb.1 144 (by decide), ha.1 144 (by decide), up_n (by decide), up_n (by decide), up_n (by decide), up_n (by decide)]; exact h1.2.2.2.1⟩)⟩ (htb.fr (fun a _ _ => eo a (by omega) (by omega)))) (fun a ha => eo a (by omega) (by omega)) rfl)
set_option maxHeartbeats 4000000 in
set_option maxRecDepth 100000 in
theorem q_rest1 {l : Launch} {G : Gd} {b0 : Nat} {M : Mem} {Post : PT}   (k : ∀ M2, (∀ a, a ≠ 141 → M2 a = M a) ∧ (∀ x, x < 64 → M2 141 (x) = M 159 (x)) ∧ (∀ x, 64 ≤ x → M2 141 x = M 141 x) → S l G b0 yX10_restore cX10_restore 2 (some .int) (rmZ 2 45) LAY Post 0 0 0 0 LAY 60 [some (.ref (b0 + 140)), some (.int (nI (64)))] [] M2) : S l G b0 yX10_restore cX10_restore 2 (some .int) (rmZ 2 45) LAY Post 0 0 0 0 LAY 36 [some (.ref (b0 + 140)), some (.int (nI (0)))] [] M := by
  suffices H : ∀ (d : Nat) (i : Nat) (M1 : Mem), 64 - i = d → i ≤ 64 → ((∀ a, a ≠ 141 → M1 a = M a) ∧ (∀ x, x < i → M1 141 (x) = M 159 (x)) ∧ (∀ x, i ≤ x → M1 141 x = M 141 x)) → S l G b0 yX10_restore cX10_restore 2 (some .int) (rmZ 2 45) LAY Post 0 0 0 0 LAY 36 [some (.ref (b0 + 140)), some (.int (nI (i)))] [] M1 from H _ 0 _ rfl (by omega) ⟨fun _ _ => rfl, fun x hx => absurd hx (Nat.not_lt_zero x), fun _ _ => rfl⟩
  intro d
  induction d with
  | zero =>
    intro i M1 hd hi hI
    have e : 64 = i := by omega
    subst e
    refine S_iload_1 (q := 37) dX10_restore_36 rfl ?_
    refine S_bipush (q := 39) (nI 64) dX10_restore_37 (by decide) rfl ?_
    refine S_icmp_ge (t := 60) (q := 42) dX10_restore_39 (by decide) rfl (fun hb39 => ?_) (fun hb39 => ?_)
    · exact k M1 hI
    · exact absurd (Int32.le_refl _) hb39
  | succ d ih =>
    intro i M1 hd hi hI
    have hlt : i < 64 := by omega
    refine S_iload_1 (q := 37) dX10_restore_36 rfl ?_
    refine S_bipush (q := 39) (nI 64) dX10_restore_37 (by decide) rfl ?_
    refine S_icmp_ge (t := 60) (q := 42) dX10_restore_39 (by decide) rfl (fun hb39 => ?_) (fun hb39 => ?_)
    · exact absurd hb39 (nI_ge hlt (by omega))
    · refine S_aload_0 (q := 43) dX10_restore_42 rfl ?_
      refine S_getR (q := 46) dX10_restore_43 fl_X10_22 (by first | assumption | rfl) (by rfl) rfl ?_
      refine S_iload_1 (q := 47) dX10_restore_46 rfl ?_
      refine S_aload_0 (q := 48) dX10_restore_47 rfl ?_
      refine S_getR (q := 51) dX10_restore_48 fl_X10_144 (by first | assumption | rfl) (by rfl) rfl ?_
      refine S_iload_1 (q := 52) dX10_restore_51 rfl ?_
      refine S_ialdE (i := i) (q := 53) dX10_restore_52 (by first | assumption | rfl) (by first | (simp only [nI_add, pk_mul, nI_1]; done) | rfl) (by omega) (by decide) rfl ?_
      refine S_iastE (i := i) (q := 54) dX10_restore_53 (by first | assumption | rfl) (by first | (simp only [nI_add, pk_mul, nI_1]; done) | rfl) (by omega) (by decide) rfl ?_
      refine S_iinc_1 (q := 57) (nI (i + 1)) dX10_restore_54 (inc1 _) rfl ?_
      refine S_goto (t := 36) dX10_restore_57 (by decide) ?_
      exact ih (i + 1) _ (by omega) hlt ⟨(fun a h0 => by rw [up_n h0]; exact hI.1 a h0), (fun x hx => by
        rw [up_eq]
        by_cases e : x = i
        · rw [if_pos ⟨rfl, by omega⟩, e]; exact (by exact congrFun (hI.1 159 (by decide)) _)
        · rw [if_neg (by omega)]; exact hI.2.1 x (by omega)), (fun x hx => by
        rw [up_eq, if_neg (by omega)]; exact hI.2.2 x (by omega))⟩
set_option maxHeartbeats 4000000 in
set_option maxRecDepth 100000 in
theorem q_rest2 {l : Launch} {G : Gd} {b0 : Nat} {M : Mem} {Post : PT}   (k : ∀ M2, (∀ a, a ≠ 142 → M2 a = M a) ∧ (∀ x, x < 16 → M2 142 (x) = M 160 (x)) ∧ (∀ x, 16 ≤ x → M2 142 x = M 142 x) → S l G b0 yX10_restore cX10_restore 2 (some .int) (rmZ 2 45) LAY Post 0 0 0 0 LAY 86 [some (.ref (b0 + 140)), some (.int (nI (16)))] [] M2) : S l G b0 yX10_restore cX10_restore 2 (some .int) (rmZ 2 45) LAY Post 0 0 0 0 LAY 62 [some (.ref (b0 + 140)), some (.int (nI (0)))] [] M := by
  suffices H : ∀ (d : Nat) (i : Nat) (M1 : Mem), 16 - i = d → i ≤ 16 → ((∀ a, a ≠ 142 → M1 a = M a) ∧ (∀ x, x < i → M1 142 (x) = M 160 (x)) ∧ (∀ x, i ≤ x → M1 142 x = M 142 x)) → S l G b0 yX10_restore cX10_restore 2 (some .int) (rmZ 2 45) LAY Post 0 0 0 0 LAY 62 [some (.ref (b0 + 140)), some (.int (nI (i)))] [] M1 from H _ 0 _ rfl (by omega) ⟨fun _ _ => rfl, fun x hx => absurd hx (Nat.not_lt_zero x), fun _ _ => rfl⟩
  intro d
  induction d with
  | zero =>
    intro i M1 hd hi hI
    have e : 16 = i := by omega
    subst e
    refine S_iload_1 (q := 63) dX10_restore_62 rfl ?_
    refine S_bipush (q := 65) (nI 16) dX10_restore_63 (by decide) rfl ?_
    refine S_icmp_ge (t := 86) (q := 68) dX10_restore_65 (by decide) rfl (fun hb65 => ?_) (fun hb65 => ?_)
    · exact k M1 hI
    · exact absurd (Int32.le_refl _) hb65
  | succ d ih =>
    intro i M1 hd hi hI
    have hlt : i < 16 := by omega
    refine S_iload_1 (q := 63) dX10_restore_62 rfl ?_
    refine S_bipush (q := 65) (nI 16) dX10_restore_63 (by decide) rfl ?_
    refine S_icmp_ge (t := 86) (q := 68) dX10_restore_65 (by decide) rfl (fun hb65 => ?_) (fun hb65 => ?_)
    · exact absurd hb65 (nI_ge hlt (by omega))
    · refine S_aload_0 (q := 69) dX10_restore_68 rfl ?_
      refine S_getR (q := 72) dX10_restore_69 fl_X10_26 (by first | assumption | rfl) (by rfl) rfl ?_
      refine S_iload_1 (q := 73) dX10_restore_72 rfl ?_
      refine S_aload_0 (q := 74) dX10_restore_73 rfl ?_
      refine S_getR (q := 77) dX10_restore_74 fl_X10_147 (by first | assumption | rfl) (by rfl) rfl ?_
      refine S_iload_1 (q := 78) dX10_restore_77 rfl ?_
      refine S_ialdE (i := i) (q := 79) dX10_restore_78 (by first | assumption | rfl) (by first | (simp only [nI_add, pk_mul, nI_1]; done) | rfl) (by omega) (by decide) rfl ?_
      refine S_iastE (i := i) (q := 80) dX10_restore_79 (by first | assumption | rfl) (by first | (simp only [nI_add, pk_mul, nI_1]; done) | rfl) (by omega) (by decide) rfl ?_
      refine S_iinc_1 (q := 83) (nI (i + 1)) dX10_restore_80 (inc1 _) rfl ?_
      refine S_goto (t := 62) dX10_restore_83 (by decide) ?_
      exact ih (i + 1) _ (by omega) hlt ⟨(fun a h0 => by rw [up_n h0]; exact hI.1 a h0), (fun x hx => by
        rw [up_eq]
        by_cases e : x = i
        · rw [if_pos ⟨rfl, by omega⟩, e]; exact (by exact congrFun (hI.1 160 (by decide)) _)
        · rw [if_neg (by omega)]; exact hI.2.1 x (by omega)), (fun x hx => by
        rw [up_eq, if_neg (by omega)]; exact hI.2.2 x (by omega))⟩
set_option maxHeartbeats 4000000 in
set_option maxRecDepth 100000 in
theorem q_rest3 {l : Launch} {G : Gd} {b0 : Nat} {M : Mem} {Post : PT}   (k : ∀ M2, (∀ a, a ≠ 143 → a ≠ 144 → M2 a = M a) ∧ (∀ x, x < 128 → M2 143 (x) = M 161 (x)) ∧ (∀ x, 128 ≤ x → M2 143 x = M 143 x) ∧ (∀ x, x < 128 → M2 144 (x) = M 162 (x)) ∧ (∀ x, 128 ≤ x → M2 144 x = M 144 x) → S l G b0 yX10_restore cX10_restore 2 (some .int) (rmZ 2 45) LAY Post 0 0 0 0 LAY 125 [some (.ref (b0 + 140)), some (.int (nI (128)))] [] M2) : S l G b0 yX10_restore cX10_restore 2 (some .int) (rmZ 2 45) LAY Post 0 0 0 0 LAY 88 [some (.ref (b0 + 140)), some (.int (nI (0)))] [] M := by
  suffices H : ∀ (d : Nat) (i : Nat) (M1 : Mem), 128 - i = d → i ≤ 128 → ((∀ a, a ≠ 143 → a ≠ 144 → M1 a = M a) ∧ (∀ x, x < i → M1 143 (x) = M 161 (x)) ∧ (∀ x, i ≤ x → M1 143 x = M 143 x) ∧ (∀ x, x < i → M1 144 (x) = M 162 (x)) ∧ (∀ x, i ≤ x → M1 144 x = M 144 x)) → S l G b0 yX10_restore cX10_restore 2 (some .int) (rmZ 2 45) LAY Post 0 0 0 0 LAY 88 [some (.ref (b0 + 140)), some (.int (nI (i)))] [] M1 from H _ 0 _ rfl (by omega) ⟨fun _ _ _ => rfl, fun x hx => absurd hx (Nat.not_lt_zero x), fun _ _ => rfl, fun x hx => absurd hx (Nat.not_lt_zero x), fun _ _ => rfl⟩
  intro d
  induction d with
  | zero =>
    intro i M1 hd hi hI
    have e : 128 = i := by omega
    subst e
    refine S_iload_1 (q := 89) dX10_restore_88 rfl ?_
    refine S_sipush (q := 92) (nI 128) dX10_restore_89 (by decide) rfl ?_
    refine S_icmp_ge (t := 125) (q := 95) dX10_restore_92 (by decide) rfl (fun hb92 => ?_) (fun hb92 => ?_)
    · exact k M1 hI
    · exact absurd (Int32.le_refl _) hb92
  | succ d ih =>
    intro i M1 hd hi hI
    have hlt : i < 128 := by omega
    refine S_iload_1 (q := 89) dX10_restore_88 rfl ?_
    refine S_sipush (q := 92) (nI 128) dX10_restore_89 (by decide) rfl ?_
    refine S_icmp_ge (t := 125) (q := 95) dX10_restore_92 (by decide) rfl (fun hb92 => ?_) (fun hb92 => ?_)
    · exact absurd hb92 (nI_ge hlt (by omega))
    · refine S_aload_0 (q := 96) dX10_restore_95 rfl ?_
      refine S_getR (q := 99) dX10_restore_96 fl_X10_29 (by first | assumption | rfl) (by rfl) rfl ?_
      refine S_iload_1 (q := 100) dX10_restore_99 rfl ?_
      refine S_aload_0 (q := 101) dX10_restore_100 rfl ?_
      refine S_getR (q := 104) dX10_restore_101 fl_X10_150 (by first | assumption | rfl) (by rfl) rfl ?_
      refine S_iload_1 (q := 105) dX10_restore_104 rfl ?_
      refine S_ialdE (i := i) (q := 106) dX10_restore_105 (by first | assumption | rfl) (by first | (simp only [nI_add, pk_mul, nI_1]; done) | rfl) (by omega) (by decide) rfl ?_
      refine S_iastE (i := i) (q := 107) dX10_restore_106 (by first | assumption | rfl) (by first | (simp only [nI_add, pk_mul, nI_1]; done) | rfl) (by omega) (by decide) rfl ?_
      refine S_aload_0 (q := 108) dX10_restore_107 rfl ?_
      refine S_getR (q := 111) dX10_restore_108 fl_X10_32 (by first | assumption | rfl) (by rfl) rfl ?_
      refine S_iload_1 (q := 112) dX10_restore_111 rfl ?_
      refine S_aload_0 (q := 113) dX10_restore_112 rfl ?_
      refine S_getR (q := 116) dX10_restore_113 fl_X10_153 (by first | assumption | rfl) (by rfl) rfl ?_
      refine S_iload_1 (q := 117) dX10_restore_116 rfl ?_
      refine S_ialdE (i := i) (q := 118) dX10_restore_117 (by first | assumption | rfl) (by first | (simp only [nI_add, pk_mul, nI_1]; done) | rfl) (by omega) (by decide) rfl ?_
      refine S_iastE (i := i) (q := 119) dX10_restore_118 (by first | assumption | rfl) (by first | (simp only [nI_add, pk_mul, nI_1]; done) | rfl) (by omega) (by decide) rfl ?_
      refine S_iinc_1 (q := 122) (nI (i + 1)) dX10_restore_119 (inc1 _) rfl ?_
      refine S_goto (t := 88) dX10_restore_122 (by decide) ?_
      exact ih (i + 1) _ (by omega) hlt ⟨(fun a h0 h1 => by rw [up_n h1, up_n h0]; exact hI.1 a h0 h1), (fun x hx => by
        rw [up_n (by decide), up_eq]
        by_cases e : x = i
        · rw [if_pos ⟨rfl, by omega⟩, e]; exact (by exact congrFun (hI.1 161 (by decide) (by decide)) _)
        · rw [if_neg (by omega)]; exact hI.2.1 x (by omega)), (fun x hx => by
        rw [up_n (by decide), up_eq, if_neg (by omega)]; exact hI.2.2.1 x (by omega)), (fun x hx => by
        rw [up_eq]
        by_cases e : x = i
        · rw [if_pos ⟨rfl, by omega⟩, e]; exact (by rw [up_n (by decide)]; exact congrFun (hI.1 162 (by decide) (by decide)) _)
        · rw [if_neg (by omega), up_n (by decide)]; exact hI.2.2.2.1 x (by omega)), (fun x hx => by
        rw [up_eq, if_neg (by omega), up_n (by decide)]; exact hI.2.2.2.2 x (by omega))⟩
set_option maxHeartbeats 4000000 in
set_option maxRecDepth 100000 in
theorem k_X10_restore {l : Launch} {G : Gd} {b0 : Nat} {M : Mem} {A : Ab}  (hC : RR M A) (hk : A.ok)  : Ct l G b0 yX10_restore cX10_restore 2 (some .int) (rmZ 2 45) LAY LAY M [.ref (b0 + 140)] (fun v M' => RSR M (o_rest A) v M') := by
  obtain ⟨⟨g0, g1, g2, gcu, gce⟩, hru, hhi, hbad, hask, htx, hfo, hsn, htb⟩ := id hC
  have hP := hk.P
  have hr1 := hP.r1
  have hr8 := hP.r8
  have hc1 := hP.c1
  have hc8 := hP.c8
  have hk1 := hP.k1
  have hk3 := hP.k3
  have h64 := rc64 hr8 hc8
  have hH8 := hk.H8
  have hN : A.N = A.P.r + A.P.c := rfl
  refine Ct.of [some (.ref (b0 + 140)), none] (by decide) (Nat.le_of_ble_eq_true rfl) rfl rfl ?_
  refine S_aload_0 (q := 1) dX10_restore_0 rfl ?_
  refine S_getI (q := 4) dX10_restore_1 fl_X10_132 (by first | assumption | rfl) (by rfl) rfl ?_
  rw [hsn.1]
  refine S_if_ne (t := 10) (q := 7) dX10_restore_4 (by decide) rfl (fun hb4 => ?_) (fun hb4 => ?_)
  · obtain ⟨P1, f1, hq⟩ : ∃ P1 f1, A.sn = some (P1, f1) := by
      cases e : A.sn with
      | none => rw [e] at hb4; exact absurd rfl hb4
      | some q => exact ⟨q.1, q.2, rfl⟩
    have hgd := hk.sn P1 f1 hq
    have hP1 := hgd.1
    obtain ⟨hS1, hS2, hS3, hS4, hS5, hS6⟩ := hsn.2 P1 f1 hq
    refine S_aload_0 (q := 11) dX10_restore_10 rfl ?_
    refine S_aload_0 (q := 12) dX10_restore_11 rfl ?_
    refine S_getI (q := 15) dX10_restore_12 fl_X10_135 (by first | assumption | rfl) (by rfl) rfl ?_
    rw [hS1]
    refine S_putI (q := 18) dX10_restore_15 fp_X10_7 (by first | assumption | rfl) (by rfl) rfl (by rfl) rfl ?_
    refine S_aload_0 (q := 19) dX10_restore_18 rfl ?_
    refine S_aload_0 (q := 20) dX10_restore_19 rfl ?_
    refine S_getI (q := 23) dX10_restore_20 fl_X10_138 (by first | assumption | rfl) (by rfl) rfl ?_
    rw [up_eq, if_neg (by decide), hS2]
    refine S_putI (q := 26) dX10_restore_23 fp_X10_13 (by first | assumption | rfl) (by rfl) rfl (by rfl) rfl ?_
    refine S_aload_0 (q := 27) dX10_restore_26 rfl ?_
    refine S_aload_0 (q := 28) dX10_restore_27 rfl ?_
    refine S_getI (q := 31) dX10_restore_28 fl_X10_141 (by first | assumption | rfl) (by rfl) rfl ?_
    rw [up_eq, if_neg (by decide), up_eq, if_neg (by decide), hS3]
    refine S_putI (q := 34) dX10_restore_31 fp_X10_16 (by first | assumption | rfl) (by rfl) rfl (by rfl) rfl ?_
    refine S_iconst (q := 35) (nI 0) dX10_restore_34 (by decide) rfl ?_
    refine S_istore_1 (q := 36) dX10_restore_35 rfl ?_
    refine q_rest1 (fun Ma ha => ?_)
    refine S_iconst (q := 61) (nI 0) dX10_restore_60 (by decide) rfl ?_
    refine S_istore_1 (q := 62) dX10_restore_61 rfl ?_
    refine q_rest2 (fun Mb hb => ?_)
    refine S_iconst (q := 87) (nI 0) dX10_restore_86 (by decide) rfl ?_
    refine S_istore_1 (q := 88) dX10_restore_87 rfl ?_
    refine q_rest3 (fun Mc hc => ?_)
    have e140 : ∀ k, 3 ≤ k → Mc 140 k = M 140 k := fun k hk2 => by rw [hc.1 140 (by decide) (by decide), hb.1 140 (by decide), ha.1 140 (by decide), up_eq, if_neg (by omega), up_eq, if_neg (by omega), up_eq, if_neg (by omega)]
    have eo : ∀ a, a ≠ 140 → (a < 141 ∨ 144 < a) → Mc a = M a := fun a h1 h2 => by rw [hc.1 a (by omega) (by omega), hb.1 a (by omega), ha.1 a (by omega), up_n h1, up_n h1, up_n h1]
    have e4 : ∀ k, Mc 140 k = (up (up (up M 140 0 (nI P1.r)) 140 1 (nI P1.c)) 140 2 (nI P1.k)) 140 k := fun k => by rw [hc.1 140 (by decide) (by decide), hb.1 140 (by decide), ha.1 140 (by decide)]
    have hG : RGr (up (up Mc 140 8 (nI 0)) 140 13 (-1)) P1 f1 := ⟨by rw [up_eq, if_neg (by decide), up_eq, if_neg (by decide), e4, up_eq, if_neg (by decide), up_eq, if_neg (by decide), up_s], by rw [up_eq, if_neg (by decide), up_eq, if_neg (by decide), e4, up_eq, if_neg (by decide), up_s], by rw [up_eq, if_neg (by decide), up_eq, if_neg (by decide), e4, up_s], fun i hi => (by
      have h2 := (hP1.cl i).1
      refine ⟨?_, h2, fun j hj => ?_⟩
      · rw [up_n (by decide), up_n (by decide), hc.1 142 (by decide) (by decide), hb.2.1 i hi, ha.1 160 (by decide), up_n (by decide), up_n (by decide), up_n (by decide)]; exact hS5 i hi
      · have h1 := hS6 i hi j hj
        have h3 := (hP1.cl i).2 j hj
        exact ⟨by rw [up_n (by decide), up_n (by decide), hc.2.1 (i * 8 + j) (by omega), hb.1 161 (by decide), ha.1 161 (by decide), up_n (by decide), up_n (by decide), up_n (by decide)]; exact h1.1, h3.1, h3.2.1, by rw [up_n (by decide), up_n (by decide), hc.2.2.2.1 (i * 8 + j) (by omega), hb.1 162 (by decide), ha.1 162 (by decide), up_n (by decide), up_n (by decide), up_n (by decide)]; exact h1.2, h3.2.2.1, h3.2.2.2⟩), fun x hx => ⟨(by
      rw [up_n (by decide), up_n (by decide), hc.1 141 (by decide) (by decide), hb.1 141 (by decide), Nat.zero_add, ha.2.1 _ (gx_64 hP1.r8 hP1.c8 hP1.c1 hx).1, up_n (by decide), up_n (by decide), up_n (by decide)]; exact hS4 x hx), hgd.2.1 x hx⟩⟩
    refine S_aload_0 (q := 126) dX10_restore_125 rfl ?_
    refine S_iconst (q := 127) (nI 0) dX10_restore_126 (by decide) rfl ?_
    refine S_putI (q := 130) dX10_restore_127 fp_X10_35 (by first | assumption | rfl) (by rfl) rfl (by rfl) rfl ?_
    refine S_aload_0 (q := 131) dX10_restore_130 rfl ?_
    refine S_iconst (q := 132) (-1) dX10_restore_131 (by decide) rfl ?_
    refine S_putI (q := 135) dX10_restore_132 fp_X10_50 (by first | assumption | rfl) (by rfl) rfl (by rfl) rfl ?_
    refine S_aload_0 (q := 136) dX10_restore_135 rfl ?_
    refine S_iconst (q := 137) (nI 0) dX10_restore_136 (by decide) rfl ?_
    refine S_callV1i (q := 140) dX10_restore_137 lk_X10_211 (by first | assumption | rfl) rfl rfl (k_X10_decidedIn (P := P1) (f := f1) (b := 0) hG.1 hG.2.1 hP1 (by decide) hG.2.2.2.2) rfl rfl (Nat.le_of_ble_eq_true rfl) ⟨Nat.le_of_ble_eq_true rfl, Nat.le_of_ble_eq_true rfl⟩ ⟨Nat.le_of_ble_eq_true rfl, Nat.le_of_ble_eq_true rfl⟩ rfl (fun v137 M137 hv137 => ?_)
    obtain ⟨e137, rfl⟩ := hv137
    rw [e137]
    exact S_iret rfl dX10_restore_140 rfl rfl (RSR.to (A := (A.sG P1 f1 []).sB none) (hC.gb (P := P1) (f := f1) (H := []) (b := none) (fun k hk2 => by rw [up_eq, if_neg (by omega), up_eq, if_neg (by omega), e140 k (by omega)]) (fun a ha => by rw [up_n (by omega), up_n (by omega), eo a (by omega) (by omega)]) hG (RHs.nil (by rw [up_eq, if_neg (by decide), up_s])) up_s) (fun a ha => by rw [up_n (by omega), up_n (by omega), eo a (by omega) (by omega)]) (by unfold o_rest; rw [hq]))
  · have hq : A.sn = none := by
      cases e : A.sn with
      | none => rfl
      | some q => rw [e] at hb4; exact absurd (show nI 1 = 0 from hb4) (by decide)
    refine S_bipush (q := 9) (-8) dX10_restore_7 (by decide) rfl ?_
    exact S_iret rfl dX10_restore_9 rfl rfl (RSR.same hC (by unfold o_rest; rw [hq]))
set_option maxHeartbeats 4000000 in
set_option maxRecDepth 100000 in
theorem k_X10_isTable {l : Launch} {G : Gd} {b0 : Nat} {M : Mem} {x : Int32}  : Ct l G b0 yX10_isTable cX10_isTable 2 (some .boolean) (rmZ 1 23) LAY LAY M [.ref (b0 + 140), .int x] (fun v M' => M' = M ∧ v = bI (0 ≤ x ∧ x < nI 3)) := by
  refine Ct.of [some (.ref (b0 + 140)), some (.int x)] (by decide) (Nat.le_of_ble_eq_true rfl) rfl rfl ?_
  refine S_aload_0 (q := 1) dX10_isTable_0 rfl ?_
  refine S_iload_1 (q := 2) dX10_isTable_1 rfl ?_
  refine S_iconst (q := 3) (nI 0) dX10_isTable_2 (by decide) rfl ?_
  refine S_iconst (q := 4) (nI 2) dX10_isTable_3 (by decide) rfl ?_
  refine S_callV3i (q := 7) dX10_isTable_4 lk_X10_172 (by first | assumption | rfl) rfl rfl (k_X10_within) rfl rfl (Nat.le_of_ble_eq_true rfl) ⟨Nat.le_of_ble_eq_true rfl, Nat.le_of_ble_eq_true rfl⟩ ⟨Nat.le_of_ble_eq_true rfl, Nat.le_of_ble_eq_true rfl⟩ rfl (fun v4 M4 hv4 => ?_)
  obtain ⟨e4, rfl⟩ := hv4
  rw [e4]
  exact S_iret rfl dX10_isTable_7 bI_nar rfl (⟨rfl, bI_c (ix_iw (n := 3) (by decide))⟩)
set_option maxHeartbeats 4000000 in
set_option maxRecDepth 100000 in
theorem k_X10_lay {l : Launch} {G : Gd} {b0 : Nat} {M : Mem} {t i ty : Nat} {x : Int32}  (ht : t < 3) (hi : i < 64) (hty : M 163 t = nI ty) (ht2 : ty ≤ 2)  : Ct l G b0 yX10_lay cX10_lay 4 none (rmZ 0 0) LAY LAY M [.ref (b0 + 140), .int (nI t), .int (nI i), .int x] (fun v M' => M' = up M 165 (64 * t + i) (kpV ty x)) := by
  refine Ct.of [some (.ref (b0 + 140)), some (.int (nI t)), some (.int (nI i)), some (.int x)] (by decide) (Nat.le_of_ble_eq_true rfl) rfl rfl ?_
  refine S_aload_0 (q := 1) dX10_lay_0 rfl ?_
  refine S_getR (q := 4) dX10_lay_1 fl_X10_162 (by first | assumption | rfl) (by rfl) rfl ?_
  refine S_bipush (q := 6) (nI 64) dX10_lay_4 (by decide) rfl ?_
  refine S_iload_1 (q := 7) dX10_lay_6 rfl ?_
  refine S_imul (q := 8) dX10_lay_7 rfl ?_
  refine S_iload_2 (q := 9) dX10_lay_8 rfl ?_
  refine S_iadd (q := 10) dX10_lay_9 rfl ?_
  refine S_aload_0 (q := 11) dX10_lay_10 rfl ?_
  refine S_getR (q := 14) dX10_lay_11 fl_X10_156 (by first | assumption | rfl) (by rfl) rfl ?_
  refine S_iload_1 (q := 15) dX10_lay_14 rfl ?_
  refine S_ialdV (i := t) (val := nI ty) (q := 16) dX10_lay_15 (by first | assumption | rfl) (by first | (simp only [nI_add, pk_mul, nI_1]; done) | rfl) (by omega) (by decide) hty rfl ?_
  refine S_if_ne (t := 24) (q := 19) dX10_lay_16 (by decide) rfl (fun hb16 => ?_) (fun hb16 => ?_)
  · have h0 : ¬ ty = 0 := fun e => hb16 (by rw [e]; rfl)
    refine S_aload_0 (q := 25) dX10_lay_24 rfl ?_
    refine S_getR (q := 28) dX10_lay_25 fl_X10_156 (by first | assumption | rfl) (by rfl) rfl ?_
    refine S_iload_1 (q := 29) dX10_lay_28 rfl ?_
    refine S_ialdV (i := t) (val := nI ty) (q := 30) dX10_lay_29 (by first | assumption | rfl) (by first | (simp only [nI_add, pk_mul, nI_1]; done) | rfl) (by omega) (by decide) hty rfl ?_
    refine S_iconst (q := 31) (nI 1) dX10_lay_30 (by decide) rfl ?_
    refine S_icmp_ne (t := 38) (q := 34) dX10_lay_31 (by decide) rfl (fun hb31 => ?_) (fun hb31 => ?_)
    · have h1 : ¬ ty = 1 := fun e => hb31 (by rw [e])
      have h2 : ty = 2 := by omega
      refine S_iload_3 (q := 39) dX10_lay_38 rfl ?_
      refine S_if_eq (t := 46) (q := 42) dX10_lay_39 (by decide) rfl (fun hb39 => ?_) (fun hb39 => ?_)
      · have hx : x = 0 := hb39
        refine S_iconst (q := 47) (nI 0) dX10_lay_46 (by decide) rfl ?_
        refine S_iastE (i := 64 * t + i) (q := 48) dX10_lay_47 (by first | assumption | rfl) (by rw [pk_mul, nI_add]) (by omega) (by decide) rfl ?_
        exact S_ret (v := 0) rfl dX10_lay_48 rfl (by unfold kpV; rw [if_neg h0, if_pos h2, if_pos hx])
      · have hx : ¬ x = 0 := hb39
        refine S_iconst (q := 43) (nI 1) dX10_lay_42 (by decide) rfl ?_
        refine S_goto (t := 47) dX10_lay_43 (by decide) ?_
        refine S_iastE (i := 64 * t + i) (q := 48) dX10_lay_47 (by first | assumption | rfl) (by rw [pk_mul, nI_add]) (by omega) (by decide) rfl ?_
        exact S_ret (v := 0) rfl dX10_lay_48 rfl (by unfold kpV; rw [if_neg h0, if_pos h2, if_neg hx])
    · have h1 : ty = 1 := nI_inj (by omega) (by decide) hb31
      refine S_iload_3 (q := 35) dX10_lay_34 rfl ?_
      refine S_goto (t := 47) dX10_lay_35 (by decide) ?_
      refine S_iastE (i := 64 * t + i) (q := 48) dX10_lay_47 (by first | assumption | rfl) (by rw [pk_mul, nI_add]) (by omega) (by decide) rfl ?_
      exact S_ret (v := 0) rfl dX10_lay_48 rfl (by unfold kpV; rw [if_neg h0, if_neg (by omega)])
  · have h0 : ty = 0 := nI_inj (by omega) (by decide) hb16
    refine S_iload_3 (q := 20) dX10_lay_19 rfl ?_
    refine S_i2b (q := 21) dX10_lay_20 rfl ?_
    refine S_goto (t := 47) dX10_lay_21 (by decide) ?_
    refine S_iastE (i := 64 * t + i) (q := 48) dX10_lay_47 (by first | assumption | rfl) (by rw [pk_mul, nI_add]) (by omega) (by decide) rfl ?_
    exact S_ret (v := 0) rfl dX10_lay_48 rfl (by unfold kpV; rw [if_pos h0])
theorem Rtb.set {M M1 : Mem} {tb : Nat → Option (Nat × Nat × (Nat → Int32))} {t ty n : Nat} {it : Nat → Int32} (h : Rtb M tb) (ht : t < 3) (h3 : ∀ u, u ≠ t → M1 163 u = M 163 u) (h4 : ∀ u, u ≠ t → M1 164 u = M 164 u) (h5 : ∀ j, (j < 64 * t ∨ 64 * t + 64 ≤ j) → M1 165 j = M 165 j) (q1 : M1 163 t = nI ty) (q2 : M1 164 t = nI n) (q3 : ∀ j, j < 64 → M1 165 (64 * t + j) = it j) : Rtb M1 (fun z => if z = t then some (ty, n, it) else tb z) := by
  intro u hu
  by_cases e : u = t
  · subst e
    refine ⟨fun y => ?_, fun ty' n' it' y => ?_⟩
    · have y' : (if u = u then some (ty, n, it) else tb u) = none := y
      rw [if_pos rfl] at y'; cases y'
    · have y' : (if u = u then some (ty, n, it) else tb u) = some (ty', n', it') := y
      rw [if_pos rfl] at y'; cases y'
      exact ⟨q1, q2, q3⟩
  · have e1 : (fun z => if z = t then some (ty, n, it) else tb z) u = tb u := if_neg e
    rw [e1, h3 u e, h4 u e]
    refine ⟨(h u hu).1, fun ty' n' it' y => ?_⟩
    obtain ⟨a1, a2, a3⟩ := (h u hu).2 ty' n' it' y
    exact ⟨a1, a2, fun j hj => by rw [h5 _ (by omega)]; exact a3 j hj⟩
set_option maxHeartbeats 4000000 in
set_option maxRecDepth 100000 in
theorem k_X10_createTable {l : Launch} {G : Gd} {b0 : Nat} {M : Mem} {A : Ab} {x y n : Int32}  (hC : RR M A) (hk : A.ok)  : Ct l G b0 yX10_createTable cX10_createTable 5 (some .int) (rmZ 2 44) LAY LAY M [.ref (b0 + 140), .int x, .int y, .int n] (fun v M' => RSR M (o_ctab A x y n) v M') := by
  obtain ⟨⟨g0, g1, g2, gcu, gce⟩, hru, hhi, hbad, hask, htx, hfo, hsn, htb⟩ := id hC
  have hP := hk.P
  have hr1 := hP.r1
  have hr8 := hP.r8
  have hc1 := hP.c1
  have hc8 := hP.c8
  have hk1 := hP.k1
  have hk3 := hP.k3
  have h64 := rc64 hr8 hc8
  have hH8 := hk.H8
  have hN : A.N = A.P.r + A.P.c := rfl
  refine Ct.of [some (.ref (b0 + 140)), some (.int x), some (.int y), some (.int n), none] (by decide) (Nat.le_of_ble_eq_true rfl) rfl rfl ?_
  refine S_aload_0 (q := 1) dX10_createTable_0 rfl ?_
  refine S_iload_1 (q := 2) dX10_createTable_1 rfl ?_
  refine S_callV1i (q := 5) dX10_createTable_2 lk_X10_275 (by first | assumption | rfl) rfl rfl (k_X10_isTable) rfl rfl (Nat.le_of_ble_eq_true rfl) ⟨Nat.le_of_ble_eq_true rfl, Nat.le_of_ble_eq_true rfl⟩ ⟨Nat.le_of_ble_eq_true rfl, Nat.le_of_ble_eq_true rfl⟩ rfl (fun v2 M2 hv2 => ?_)
  obtain ⟨e2, rfl⟩ := hv2
  rw [e2]
  refine S_if_eq (t := 24) (q := 8) dX10_createTable_5 (by decide) rfl (fun hb5 => ?_) (fun hb5 => ?_)
  · have hq := ix_no (bI_0.mp hb5)
    refine S_bipush (q := 26) (-2) dX10_createTable_24 (by decide) rfl ?_
    exact S_iret rfl dX10_createTable_26 rfl rfl (RSR.same hC (by unfold o_ctab; rw [hq]))
  · obtain ⟨t, ht, rfl, hq⟩ := ix_ok (n := 3) (by decide) (bI_n.mp hb5)
    refine S_aload_0 (q := 9) dX10_createTable_8 rfl ?_
    refine S_iload_2 (q := 10) dX10_createTable_9 rfl ?_
    refine S_iconst (q := 11) (nI 0) dX10_createTable_10 (by decide) rfl ?_
    refine S_iconst (q := 12) (nI 2) dX10_createTable_11 (by decide) rfl ?_
    refine S_callV3i (q := 15) dX10_createTable_12 lk_X10_172 (by first | assumption | rfl) rfl rfl (k_X10_within) rfl rfl (Nat.le_of_ble_eq_true rfl) ⟨Nat.le_of_ble_eq_true rfl, Nat.le_of_ble_eq_true rfl⟩ ⟨Nat.le_of_ble_eq_true rfl, Nat.le_of_ble_eq_true rfl⟩ rfl (fun v12 M12 hv12 => ?_)
    obtain ⟨e12, rfl⟩ := hv12
    rw [e12]
    refine S_if_eq (t := 24) (q := 18) dX10_createTable_15 (by decide) rfl (fun hb15 => ?_) (fun hb15 => ?_)
    · have hy := iw_no (bI_0.mp hb15)
      refine S_bipush (q := 26) (-2) dX10_createTable_24 (by decide) rfl ?_
      exact S_iret rfl dX10_createTable_26 rfl rfl (RSR.same hC (by unfold o_ctab; rw [hq]; simp only; rw [show iw y 0 2 = none from hy]))
    · obtain ⟨ty, hty, rfl, hy⟩ := iw0 (by decide) (bI_n.mp hb15)
      refine S_iload_3 (q := 19) dX10_createTable_18 rfl ?_
      refine S_bipush (q := 21) (nI 64) dX10_createTable_19 (by decide) rfl ?_
      refine S_icmp_le (t := 27) (q := 24) dX10_createTable_21 (by decide) rfl (fun hb21 => ?_) (fun hb21 => ?_)
      · have hn : ¬ nI 64 < n := Int32.not_lt.mpr hb21
        refine S_iload_3 (q := 28) dX10_createTable_27 rfl ?_
        refine S_if_ge (t := 34) (q := 31) dX10_createTable_28 (by decide) rfl (fun hb28 => ?_) (fun hb28 => ?_)
        · have hn0 : ¬ n < 0 := Int32.not_lt.mpr hb28
          obtain ⟨m, hm, rfl⟩ := nI_of hn0
          have hm64 : m ≤ 64 := Nat.le_of_not_lt (fun y => hn ((nI_ltI (by decide) hm).mpr y))
          refine S_aload_0 (q := 35) dX10_createTable_34 rfl ?_
          refine S_getR (q := 38) dX10_createTable_35 fl_X10_156 (by first | assumption | rfl) (by rfl) rfl ?_
          refine S_iload_1 (q := 39) dX10_createTable_38 rfl ?_
          refine S_iload_2 (q := 40) dX10_createTable_39 rfl ?_
          refine S_iastE (i := t) (q := 41) dX10_createTable_40 (by first | assumption | rfl) (by first | (simp only [nI_add, pk_mul, nI_1]; done) | rfl) ht (by decide) rfl ?_
          refine S_aload_0 (q := 42) dX10_createTable_41 rfl ?_
          refine S_getR (q := 45) dX10_createTable_42 fl_X10_159 (by first | assumption | rfl) (by rfl) rfl ?_
          refine S_iload_1 (q := 46) dX10_createTable_45 rfl ?_
          refine S_iload_3 (q := 47) dX10_createTable_46 rfl ?_
          refine S_iastE (i := t) (q := 48) dX10_createTable_47 (by first | assumption | rfl) (by first | (simp only [nI_add, pk_mul, nI_1]; done) | rfl) ht (by decide) rfl ?_
          refine S_iconst (q := 49) (nI 0) dX10_createTable_48 (by decide) rfl ?_
          refine S_istore_4 (q := 51) dX10_createTable_49 rfl ?_
          suffices H : ∀ (d : Nat) (i : Nat) (M1 : Mem), 64 - i = d → i ≤ 64 → ((∀ a, a ≠ 165 → M1 a = up (up M 163 t (nI ty)) 164 t (nI m) a) ∧ (∀ j, j < i → M1 165 (64 * t + j) = nI 0) ∧ ∀ j, (j < 64 * t ∨ 64 * t + 64 ≤ j) → M1 165 j = M 165 j) → S l G b0 yX10_createTable cX10_createTable 5 (some .int) (rmZ 2 44) LAY (fun v M' => RSR M (o_ctab A (nI t) (nI ty) (nI m)) v M') 0 0 0 0 LAY 51 [some (.ref (b0 + 140)), some (.int (nI t)), some (.int (nI ty)), some (.int (nI m)), some (.int (nI (i)))] [] M1 from H _ 0 _ rfl (by omega) ⟨fun _ _ => rfl, fun j hj => absurd hj (Nat.not_lt_zero j), fun j _ => by rw [up_n (by decide), up_n (by decide)]⟩
          intro d
          induction d with
          | zero =>
            intro i M1 hd hi hI
            have e : 64 = i := by omega
            subst e
            refine S_iload_4 (q := 53) dX10_createTable_51 rfl ?_
            refine S_bipush (q := 55) (nI 64) dX10_createTable_53 (by decide) rfl ?_
            refine S_icmp_ge (t := 77) (q := 58) dX10_createTable_55 (by decide) rfl (fun hb55 => ?_) (fun hb55 => ?_)
            · refine S_iconst (q := 78) (nI 1) dX10_createTable_77 (by decide) rfl ?_
              exact S_iret rfl dX10_createTable_78 rfl rfl (RSR.to (A := A.sE t (ty, m, fun _ => nI 0)) (hC.oth hk (fun k hk2 => by rw [hI.1 140 (by decide), up_n (by decide), up_n (by decide)]) (fun a ha => by rw [hI.1 a (by omega), up_n (by omega), up_n (by omega)]) (by rw [hI.1 140 (by decide), up_n (by decide), up_n (by decide)]; exact hru) (htx.fr (by rw [hI.1 140 (by decide), up_n (by decide), up_n (by decide)]) (by rw [hI.1 154 (by decide), up_n (by decide), up_n (by decide)])) (hfo.fr (by rw [hI.1 140 (by decide), up_n (by decide), up_n (by decide)]) (by rw [hI.1 155 (by decide), up_n (by decide), up_n (by decide)])) (hsn.fr (fun k _ _ => by rw [hI.1 140 (by decide), up_n (by decide), up_n (by decide)]) (fun a _ _ => by rw [hI.1 a (by omega), up_n (by omega), up_n (by omega)])) (Rtb.set (t := t) htb ht (fun u hu => by rw [hI.1 163 (by decide), up_n (by decide), up_eq, if_neg (by omega)]) (fun u hu => by rw [hI.1 164 (by decide), up_eq, if_neg (by omega), up_n (by decide)]) (fun j hj => hI.2.2 j hj) (by rw [hI.1 163 (by decide), up_n (by decide), up_s]) (by rw [hI.1 164 (by decide), up_s]) (fun j hj => hI.2.1 j hj))) (fun a ha => by rw [hI.1 a (by omega), up_n (by omega), up_n (by omega)]) (by unfold o_ctab; rw [hq]; simp only; rw [show iw (nI ty) 0 2 = some ty from hy]; simp only [if_neg hn, if_neg hn0]; rw [nI_clamp hm]))
            · exact absurd (Int32.le_refl _) hb55
          | succ d ih =>
            intro i M1 hd hi hI
            have hlt : i < 64 := by omega
            refine S_iload_4 (q := 53) dX10_createTable_51 rfl ?_
            refine S_bipush (q := 55) (nI 64) dX10_createTable_53 (by decide) rfl ?_
            refine S_icmp_ge (t := 77) (q := 58) dX10_createTable_55 (by decide) rfl (fun hb55 => ?_) (fun hb55 => ?_)
            · exact absurd hb55 (nI_ge hlt (by omega))
            · refine S_aload_0 (q := 59) dX10_createTable_58 rfl ?_
              refine S_getR (q := 62) dX10_createTable_59 fl_X10_162 (by first | assumption | rfl) (by rfl) rfl ?_
              refine S_bipush (q := 64) (nI 64) dX10_createTable_62 (by decide) rfl ?_
              refine S_iload_1 (q := 65) dX10_createTable_64 rfl ?_
              refine S_imul (q := 66) dX10_createTable_65 rfl ?_
              refine S_iload_4 (q := 68) dX10_createTable_66 rfl ?_
              refine S_iadd (q := 69) dX10_createTable_68 rfl ?_
              refine S_iconst (q := 70) (nI 0) dX10_createTable_69 (by decide) rfl ?_
              refine S_iastE (i := 64 * t + i) (q := 71) dX10_createTable_70 (by first | assumption | rfl) (by rw [pk_mul, nI_add]) (by omega) (by decide) rfl ?_
              refine S_iinc_4 (q := 74) (nI (i + 1)) dX10_createTable_71 (inc1 _) rfl ?_
              refine S_goto (t := 51) dX10_createTable_74 (by decide) ?_
              exact ih (i + 1) _ (by omega) hlt ⟨fun a ha => by rw [up_n ha]; exact hI.1 a ha, fun j hj => (by
                rw [up_eq]
                by_cases e : j = i
                · rw [if_pos ⟨rfl, by omega⟩]
                · rw [if_neg (by omega)]; exact hI.2.1 j (by omega)), fun j hj => by rw [up_eq, if_neg (by omega)]; exact hI.2.2 j hj⟩
        · have hn0 : n < 0 := Int32.not_le.mp hb28
          refine S_bipush (q := 33) (-14) dX10_createTable_31 (by decide) rfl ?_
          exact S_iret rfl dX10_createTable_33 rfl rfl (RSR.same hC (by unfold o_ctab; rw [hq]; simp only; rw [show iw (nI ty) 0 2 = some ty from hy]; simp only [if_neg hn, if_pos hn0]))
      · have hn : nI 64 < n := Int32.not_le.mp hb21
        refine S_bipush (q := 26) (-2) dX10_createTable_24 (by decide) rfl ?_
        exact S_iret rfl dX10_createTable_26 rfl rfl (RSR.same hC (by unfold o_ctab; rw [hq]; simp only; rw [show iw (nI ty) 0 2 = some ty from hy]; simp only [if_pos hn]))
set_option maxHeartbeats 4000000 in
set_option maxRecDepth 100000 in
theorem k_X10_writeTable {l : Launch} {G : Gd} {b0 : Nat} {M : Mem} {A : Ab} {x y v0 : Int32}  (hC : RR M A) (hk : A.ok)  : Ct l G b0 yX10_writeTable cX10_writeTable 4 (some .int) (rmZ 2 44) LAY LAY M [.ref (b0 + 140), .int x, .int y, .int v0] (fun v M' => RSR M (o_wtab A x y v0) v M') := by
  obtain ⟨⟨g0, g1, g2, gcu, gce⟩, hru, hhi, hbad, hask, htx, hfo, hsn, htb⟩ := id hC
  have hP := hk.P
  have hr1 := hP.r1
  have hr8 := hP.r8
  have hc1 := hP.c1
  have hc8 := hP.c8
  have hk1 := hP.k1
  have hk3 := hP.k3
  have h64 := rc64 hr8 hc8
  have hH8 := hk.H8
  have hN : A.N = A.P.r + A.P.c := rfl
  refine Ct.of [some (.ref (b0 + 140)), some (.int x), some (.int y), some (.int v0)] (by decide) (Nat.le_of_ble_eq_true rfl) rfl rfl ?_
  refine S_aload_0 (q := 1) dX10_writeTable_0 rfl ?_
  refine S_iload_1 (q := 2) dX10_writeTable_1 rfl ?_
  refine S_callV1i (q := 5) dX10_writeTable_2 lk_X10_275 (by first | assumption | rfl) rfl rfl (k_X10_isTable) rfl rfl (Nat.le_of_ble_eq_true rfl) ⟨Nat.le_of_ble_eq_true rfl, Nat.le_of_ble_eq_true rfl⟩ ⟨Nat.le_of_ble_eq_true rfl, Nat.le_of_ble_eq_true rfl⟩ rfl (fun v2 M2 hv2 => ?_)
  obtain ⟨e2, rfl⟩ := hv2
  rw [e2]
  refine S_if_ne (t := 11) (q := 8) dX10_writeTable_5 (by decide) rfl (fun hb5 => ?_) (fun hb5 => ?_)
  · obtain ⟨t, ht, rfl, hq⟩ := ix_ok (n := 3) (by decide) (bI_n.mp hb5)
    refine S_aload_0 (q := 12) dX10_writeTable_11 rfl ?_
    refine S_getR (q := 15) dX10_writeTable_12 fl_X10_156 (by first | assumption | rfl) (by rfl) rfl ?_
    refine S_iload_1 (q := 16) dX10_writeTable_15 rfl ?_
    refine S_ialdE (i := t) (q := 17) dX10_writeTable_16 (by first | assumption | rfl) (by first | (simp only [nI_add, pk_mul, nI_1]; done) | rfl) ht (by decide) rfl ?_
    refine S_if_ge (t := 23) (q := 20) dX10_writeTable_17 (by decide) rfl (fun hb17 => ?_) (fun hb17 => ?_)
    · obtain ⟨ty, n, it, hn⟩ : ∃ ty n it, A.tb t = some (ty, n, it) := by
        cases e : A.tb t with
        | none => rw [(htb t ht).1 e] at hb17; exact absurd hb17 (by decide)
        | some q => exact ⟨q.1, q.2.1, q.2.2, rfl⟩
      have h64n := (hk.tb t ty n it hn).2.1
      have hty2 := (hk.tb t ty n it hn).1
      obtain ⟨q1, q2, q3⟩ := (htb t ht).2 ty n it hn
      refine S_aload_0 (q := 24) dX10_writeTable_23 rfl ?_
      refine S_iload_2 (q := 25) dX10_writeTable_24 rfl ?_
      refine S_iconst (q := 26) (nI 0) dX10_writeTable_25 (by decide) rfl ?_
      refine S_aload_0 (q := 27) dX10_writeTable_26 rfl ?_
      refine S_getR (q := 30) dX10_writeTable_27 fl_X10_159 (by first | assumption | rfl) (by rfl) rfl ?_
      refine S_iload_1 (q := 31) dX10_writeTable_30 rfl ?_
      refine S_ialdV (i := t) (val := nI n) (q := 32) dX10_writeTable_31 (by first | assumption | rfl) (by first | (simp only [nI_add, pk_mul, nI_1]; done) | rfl) ht (by decide) q2 rfl ?_
      refine S_iconst (q := 33) (nI 1) dX10_writeTable_32 (by decide) rfl ?_
      refine S_isub (q := 34) dX10_writeTable_33 rfl ?_
      refine S_callV3i (q := 37) dX10_writeTable_34 lk_X10_172 (by first | assumption | rfl) rfl rfl (k_X10_within) rfl rfl (Nat.le_of_ble_eq_true rfl) ⟨Nat.le_of_ble_eq_true rfl, Nat.le_of_ble_eq_true rfl⟩ ⟨Nat.le_of_ble_eq_true rfl, Nat.le_of_ble_eq_true rfl⟩ rfl (fun v34 M34 hv34 => ?_)
      obtain ⟨e34, rfl⟩ := hv34
      rw [e34]
      refine S_if_ne (t := 43) (q := 40) dX10_writeTable_37 (by decide) rfl (fun hb37 => ?_) (fun hb37 => ?_)
      · obtain ⟨j, hj, rfl, hz⟩ := ix_ok (n := n) (by omega) ((ix_iw (by omega)).mp (bI_n.mp hb37))
        refine S_aload_0 (q := 44) dX10_writeTable_43 rfl ?_
        refine S_iload_1 (q := 45) dX10_writeTable_44 rfl ?_
        refine S_iload_2 (q := 46) dX10_writeTable_45 rfl ?_
        refine S_iload_3 (q := 47) dX10_writeTable_46 rfl ?_
        refine S_callV3v (q := 50) dX10_writeTable_47 lk_X10_278 (by first | assumption | rfl) rfl rfl (k_X10_lay (ty := ty) ht (show j < 64 by omega) q1 hty2) rfl rfl (Nat.le_of_ble_eq_true rfl) ⟨Nat.le_of_ble_eq_true rfl, Nat.le_of_ble_eq_true rfl⟩ ⟨Nat.le_of_ble_eq_true rfl, Nat.le_of_ble_eq_true rfl⟩ rfl (fun v47 M47 hv47 => ?_)
        subst hv47
        refine S_iconst (q := 51) (nI 1) dX10_writeTable_50 (by decide) rfl ?_
        exact S_iret rfl dX10_writeTable_51 rfl rfl (RSR.to (A := A.sE t (ty, n, fun z => if z = j then kpV ty v0 else it z)) (hC.oth hk (fun k hk2 => by rw [up_n (by decide)]) (fun a ha => up_n (by omega)) (by rw [up_n (by decide)]; exact hru) (htx.fr (by rw [up_n (by decide)]) (up_n (by decide))) (hfo.fr (by rw [up_n (by decide)]) (up_n (by decide))) (hsn.fr (fun k _ _ => by rw [up_n (by decide)]) (fun a _ _ => up_n (by omega))) (Rtb.set (t := t) htb ht (fun u hu => by rw [up_n (by decide)]) (fun u hu => by rw [up_n (by decide)]) (fun j hj => by rw [up_eq, if_neg (by omega)]) (by rw [up_n (by decide)]; exact q1) (by rw [up_n (by decide)]; exact q2) (fun z hz2 => by
              rw [up_eq]
              by_cases e : z = j
              · rw [if_pos ⟨rfl, by omega⟩, if_pos e]
              · rw [if_neg (by omega), if_neg e]; exact q3 z hz2))) (fun a ha => up_n (by omega)) (by unfold o_wtab; rw [hq]; simp only [hn, hz]))
      · have hz := ix_no (n := n) (fun y => bI_0.mp hb37 ((ix_iw (by omega)).mpr y))
        refine S_bipush (q := 42) (-13) dX10_writeTable_40 (by decide) rfl ?_
        exact S_iret rfl dX10_writeTable_42 rfl rfl (RSR.same hC (by unfold o_wtab; rw [hq]; simp only [hn, hz]))
    · have hn : A.tb t = none := by
        cases e : A.tb t with
        | none => rfl
        | some q =>
          have h1 := ((htb t ht).2 q.1 q.2.1 q.2.2 e).1
          have h2 := (hk.tb t q.1 q.2.1 q.2.2 e).1
          rw [h1] at hb17
          exact absurd (nI_pos' (by omega)) hb17
      refine S_bipush (q := 22) (-11) dX10_writeTable_20 (by decide) rfl ?_
      exact S_iret rfl dX10_writeTable_22 rfl rfl (RSR.same hC (by unfold o_wtab; rw [hq]; simp only [hn]))
  · have hq := ix_no (bI_0.mp hb5)
    refine S_bipush (q := 10) (-2) dX10_writeTable_8 (by decide) rfl ?_
    exact S_iret rfl dX10_writeTable_10 rfl rfl (RSR.same hC (by unfold o_wtab; rw [hq]))
set_option maxHeartbeats 4000000 in
set_option maxRecDepth 100000 in
theorem k_X10_readTable {l : Launch} {G : Gd} {b0 : Nat} {M : Mem} {A : Ab} {x y : Int32}  (hC : RR M A) (hk : A.ok)  : Ct l G b0 yX10_readTable cX10_readTable 3 (some .int) (rmZ 2 44) LAY LAY M [.ref (b0 + 140), .int x, .int y] (fun v M' => RSR M (o_rtab A x y) v M') := by
  obtain ⟨⟨g0, g1, g2, gcu, gce⟩, hru, hhi, hbad, hask, htx, hfo, hsn, htb⟩ := id hC
  have hP := hk.P
  have hr1 := hP.r1
  have hr8 := hP.r8
  have hc1 := hP.c1
  have hc8 := hP.c8
  have hk1 := hP.k1
  have hk3 := hP.k3
  have h64 := rc64 hr8 hc8
  have hH8 := hk.H8
  have hN : A.N = A.P.r + A.P.c := rfl
  refine Ct.of [some (.ref (b0 + 140)), some (.int x), some (.int y)] (by decide) (Nat.le_of_ble_eq_true rfl) rfl rfl ?_
  refine S_aload_0 (q := 1) dX10_readTable_0 rfl ?_
  refine S_iload_1 (q := 2) dX10_readTable_1 rfl ?_
  refine S_callV1i (q := 5) dX10_readTable_2 lk_X10_275 (by first | assumption | rfl) rfl rfl (k_X10_isTable) rfl rfl (Nat.le_of_ble_eq_true rfl) ⟨Nat.le_of_ble_eq_true rfl, Nat.le_of_ble_eq_true rfl⟩ ⟨Nat.le_of_ble_eq_true rfl, Nat.le_of_ble_eq_true rfl⟩ rfl (fun v2 M2 hv2 => ?_)
  obtain ⟨e2, rfl⟩ := hv2
  rw [e2]
  refine S_if_ne (t := 11) (q := 8) dX10_readTable_5 (by decide) rfl (fun hb5 => ?_) (fun hb5 => ?_)
  · obtain ⟨t, ht, rfl, hq⟩ := ix_ok (n := 3) (by decide) (bI_n.mp hb5)
    refine S_aload_0 (q := 12) dX10_readTable_11 rfl ?_
    refine S_getR (q := 15) dX10_readTable_12 fl_X10_156 (by first | assumption | rfl) (by rfl) rfl ?_
    refine S_iload_1 (q := 16) dX10_readTable_15 rfl ?_
    refine S_ialdE (i := t) (q := 17) dX10_readTable_16 (by first | assumption | rfl) (by first | (simp only [nI_add, pk_mul, nI_1]; done) | rfl) ht (by decide) rfl ?_
    refine S_if_ge (t := 23) (q := 20) dX10_readTable_17 (by decide) rfl (fun hb17 => ?_) (fun hb17 => ?_)
    · obtain ⟨ty, n, it, hn⟩ : ∃ ty n it, A.tb t = some (ty, n, it) := by
        cases e : A.tb t with
        | none => rw [(htb t ht).1 e] at hb17; exact absurd hb17 (by decide)
        | some q => exact ⟨q.1, q.2.1, q.2.2, rfl⟩
      have h64n := (hk.tb t ty n it hn).2.1
      have hty2 := (hk.tb t ty n it hn).1
      obtain ⟨q1, q2, q3⟩ := (htb t ht).2 ty n it hn
      refine S_aload_0 (q := 24) dX10_readTable_23 rfl ?_
      refine S_iload_2 (q := 25) dX10_readTable_24 rfl ?_
      refine S_iconst (q := 26) (nI 0) dX10_readTable_25 (by decide) rfl ?_
      refine S_aload_0 (q := 27) dX10_readTable_26 rfl ?_
      refine S_getR (q := 30) dX10_readTable_27 fl_X10_159 (by first | assumption | rfl) (by rfl) rfl ?_
      refine S_iload_1 (q := 31) dX10_readTable_30 rfl ?_
      refine S_ialdV (i := t) (val := nI n) (q := 32) dX10_readTable_31 (by first | assumption | rfl) (by first | (simp only [nI_add, pk_mul, nI_1]; done) | rfl) ht (by decide) q2 rfl ?_
      refine S_iconst (q := 33) (nI 1) dX10_readTable_32 (by decide) rfl ?_
      refine S_isub (q := 34) dX10_readTable_33 rfl ?_
      refine S_callV3i (q := 37) dX10_readTable_34 lk_X10_172 (by first | assumption | rfl) rfl rfl (k_X10_within) rfl rfl (Nat.le_of_ble_eq_true rfl) ⟨Nat.le_of_ble_eq_true rfl, Nat.le_of_ble_eq_true rfl⟩ ⟨Nat.le_of_ble_eq_true rfl, Nat.le_of_ble_eq_true rfl⟩ rfl (fun v34 M34 hv34 => ?_)
      obtain ⟨e34, rfl⟩ := hv34
      rw [e34]
      refine S_if_eq (t := 54) (q := 40) dX10_readTable_37 (by decide) rfl (fun hb37 => ?_) (fun hb37 => ?_)
      · have hz := ix_no (n := n) (fun y => bI_0.mp hb37 ((ix_iw (by omega)).mpr y))
        refine S_bipush (q := 56) (-13) dX10_readTable_54 (by decide) rfl ?_
        exact S_iret rfl dX10_readTable_56 rfl rfl (RSR.same hC (by unfold o_rtab; rw [hq]; simp only [hn, hz]))
      · obtain ⟨j, hj, rfl, hz⟩ := ix_ok (n := n) (by omega) ((ix_iw (by omega)).mp (bI_n.mp hb37))
        refine S_aload_0 (q := 41) dX10_readTable_40 rfl ?_
        refine S_getR (q := 44) dX10_readTable_41 fl_X10_162 (by first | assumption | rfl) (by rfl) rfl ?_
        refine S_bipush (q := 46) (nI 64) dX10_readTable_44 (by decide) rfl ?_
        refine S_iload_1 (q := 47) dX10_readTable_46 rfl ?_
        refine S_imul (q := 48) dX10_readTable_47 rfl ?_
        refine S_iload_2 (q := 49) dX10_readTable_48 rfl ?_
        refine S_iadd (q := 50) dX10_readTable_49 rfl ?_
        refine S_ialdV (i := 64 * t + j) (val := it j) (q := 51) dX10_readTable_50 (by first | assumption | rfl) (by rw [pk_mul, nI_add]) (by omega) (by decide) (q3 j (by omega)) rfl ?_
        refine S_goto (t := 56) dX10_readTable_51 (by decide) ?_
        exact S_iret rfl dX10_readTable_56 rfl rfl (RSR.same hC (by unfold o_rtab; rw [hq]; simp only [hn, hz]))
    · have hn : A.tb t = none := by
        cases e : A.tb t with
        | none => rfl
        | some q =>
          have h1 := ((htb t ht).2 q.1 q.2.1 q.2.2 e).1
          have h2 := (hk.tb t q.1 q.2.1 q.2.2 e).1
          rw [h1] at hb17
          exact absurd (nI_pos' (by omega)) hb17
      refine S_bipush (q := 22) (-11) dX10_readTable_20 (by decide) rfl ?_
      exact S_iret rfl dX10_readTable_22 rfl rfl (RSR.same hC (by unfold o_rtab; rw [hq]; simp only [hn]))
  · have hq := ix_no (bI_0.mp hb5)
    refine S_bipush (q := 10) (-2) dX10_readTable_8 (by decide) rfl ?_
    exact S_iret rfl dX10_readTable_10 rfl rfl (RSR.same hC (by unfold o_rtab; rw [hq]))
set_option maxHeartbeats 4000000 in
set_option maxRecDepth 100000 in
theorem k_X10_cellAt {l : Launch} {G : Gd} {b0 : Nat} {M : Mem} {c x : Nat} (g1 : M 140 1 = nI c) (hc1 : 1 ≤ c) (hc8 : c ≤ 8) (hx : x < 64)  : Ct l G b0 yX10_cellAt cX10_cellAt 2 (some .int) (rmZ 0 0) LAY LAY M [.ref (b0 + 140), .int (nI x)] (fun v M' => M' = M ∧ v = nI (gx c x)) := by
  refine Ct.of [some (.ref (b0 + 140)), some (.int (nI x))] (by decide) (Nat.le_of_ble_eq_true rfl) rfl rfl ?_
  refine S_iload_1 (q := 1) dX10_cellAt_0 rfl ?_
  refine S_aload_0 (q := 2) dX10_cellAt_1 rfl ?_
  refine S_getI (q := 5) dX10_cellAt_2 fl_X10_13 (by first | assumption | rfl) (by rfl) rfl ?_
  rw [g1]
  refine S_idiv (q := 6) dX10_cellAt_5 (nI_n0 (by omega) (by omega)) rfl ?_
  rw [pk_div (by omega) hc1 (by omega)]
  refine S_bipush (q := 8) (nI 8) dX10_cellAt_6 (by decide) rfl ?_
  refine S_imul (q := 9) dX10_cellAt_8 rfl ?_
  refine S_iload_1 (q := 10) dX10_cellAt_9 rfl ?_
  refine S_aload_0 (q := 11) dX10_cellAt_10 rfl ?_
  refine S_getI (q := 14) dX10_cellAt_11 fl_X10_13 (by first | assumption | rfl) (by rfl) rfl ?_
  rw [g1]
  refine S_irem (q := 15) dX10_cellAt_14 (nI_n0 (by omega) (by omega)) rfl ?_
  rw [pk_mul, pk_rem (by omega) hc1 (by omega)]
  refine S_iadd (q := 16) dX10_cellAt_15 rfl ?_
  rw [nI_add]
  exact S_iret rfl dX10_cellAt_16 rfl rfl (⟨rfl, by unfold gx; rw [Nat.mul_comm]⟩)
set_option maxHeartbeats 4000000 in
set_option maxRecDepth 100000 in
theorem k_X10_exportCandidates {l : Launch} {G : Gd} {b0 : Nat} {M : Mem} {A : Ab} {x : Int32}  (hC : RR M A) (hk : A.ok)  : Ct l G b0 yX10_exportCandidates cX10_exportCandidates 4 (some .int) (rmZ 2 44) LAY LAY M [.ref (b0 + 140), .int x] (fun v M' => RSR M (o_exp A x) v M') := by
  obtain ⟨⟨g0, g1, g2, gcu, gce⟩, hru, hhi, hbad, hask, htx, hfo, hsn, htb⟩ := id hC
  have hP := hk.P
  have hr1 := hP.r1
  have hr8 := hP.r8
  have hc1 := hP.c1
  have hc8 := hP.c8
  have hk1 := hP.k1
  have hk3 := hP.k3
  have h64 := rc64 hr8 hc8
  have hH8 := hk.H8
  have hN : A.N = A.P.r + A.P.c := rfl
  refine Ct.of [some (.ref (b0 + 140)), some (.int x), none, none] (by decide) (Nat.le_of_ble_eq_true rfl) rfl rfl ?_
  refine S_aload_0 (q := 1) dX10_exportCandidates_0 rfl ?_
  refine S_iload_1 (q := 2) dX10_exportCandidates_1 rfl ?_
  refine S_callV1i (q := 5) dX10_exportCandidates_2 lk_X10_275 (by first | assumption | rfl) rfl rfl (k_X10_isTable) rfl rfl (Nat.le_of_ble_eq_true rfl) ⟨Nat.le_of_ble_eq_true rfl, Nat.le_of_ble_eq_true rfl⟩ ⟨Nat.le_of_ble_eq_true rfl, Nat.le_of_ble_eq_true rfl⟩ rfl (fun v2 M2 hv2 => ?_)
  obtain ⟨e2, rfl⟩ := hv2
  rw [e2]
  refine S_if_ne (t := 11) (q := 8) dX10_exportCandidates_5 (by decide) rfl (fun hb5 => ?_) (fun hb5 => ?_)
  · obtain ⟨t, ht, rfl, hq⟩ := ix_ok (n := 3) (by decide) (bI_n.mp hb5)
    refine S_aload_0 (q := 12) dX10_exportCandidates_11 rfl ?_
    refine S_getR (q := 15) dX10_exportCandidates_12 fl_X10_156 (by first | assumption | rfl) (by rfl) rfl ?_
    refine S_iload_1 (q := 16) dX10_exportCandidates_15 rfl ?_
    refine S_ialdE (i := t) (q := 17) dX10_exportCandidates_16 (by first | assumption | rfl) (by first | (simp only [nI_add, pk_mul, nI_1]; done) | rfl) ht (by decide) rfl ?_
    refine S_if_ge (t := 23) (q := 20) dX10_exportCandidates_17 (by decide) rfl (fun hb17 => ?_) (fun hb17 => ?_)
    · obtain ⟨ty, n, it, hn⟩ : ∃ ty n it, A.tb t = some (ty, n, it) := by
        cases e : A.tb t with
        | none => rw [(htb t ht).1 e] at hb17; exact absurd hb17 (by decide)
        | some q => exact ⟨q.1, q.2.1, q.2.2, rfl⟩
      have h64n := (hk.tb t ty n it hn).2.1
      have hty2 := (hk.tb t ty n it hn).1
      obtain ⟨q1, q2, q3⟩ := (htb t ht).2 ty n it hn
      refine S_aload_0 (q := 24) dX10_exportCandidates_23 rfl ?_
      refine S_getR (q := 27) dX10_exportCandidates_24 fl_X10_156 (by first | assumption | rfl) (by rfl) rfl ?_
      refine S_iload_1 (q := 28) dX10_exportCandidates_27 rfl ?_
      refine S_ialdV (i := t) (val := nI ty) (q := 29) dX10_exportCandidates_28 (by first | assumption | rfl) (by first | (simp only [nI_add, pk_mul, nI_1]; done) | rfl) ht (by decide) q1 rfl ?_
      refine S_iconst (q := 30) (nI 2) dX10_exportCandidates_29 (by decide) rfl ?_
      refine S_icmp_ne (t := 36) (q := 33) dX10_exportCandidates_30 (by decide) rfl (fun hb30 => ?_) (fun hb30 => ?_)
      · have h2 : ¬ ty = 2 := fun e => hb30 (by rw [e])
        refine S_aload_0 (q := 37) dX10_exportCandidates_36 rfl ?_
        refine S_getI (q := 40) dX10_exportCandidates_37 fl_X10_7 (by first | assumption | rfl) (by rfl) rfl ?_
        rw [g0]
        refine S_aload_0 (q := 41) dX10_exportCandidates_40 rfl ?_
        refine S_getI (q := 44) dX10_exportCandidates_41 fl_X10_13 (by first | assumption | rfl) (by rfl) rfl ?_
        rw [g1]
        refine S_imul (q := 45) dX10_exportCandidates_44 rfl ?_
        rw [pk_mul]
        refine S_istore_2 (q := 46) dX10_exportCandidates_45 rfl ?_
        refine S_iconst (q := 47) (nI 0) dX10_exportCandidates_46 (by decide) rfl ?_
        refine S_istore_3 (q := 48) dX10_exportCandidates_47 rfl ?_
        suffices H : ∀ (d : Nat) (i : Nat) (M1 : Mem), (min (A.P.r * A.P.c) n) - i = d → i ≤ (min (A.P.r * A.P.c) n) → ((∀ a, a ≠ 165 → M1 a = M a) ∧ (∀ j, j < 64 → M1 165 (64 * t + j) = if j < i then kpV ty (nI (A.f j)) else it j) ∧ ∀ j, (j < 64 * t ∨ 64 * t + 64 ≤ j) → M1 165 j = M 165 j) → S l G b0 yX10_exportCandidates cX10_exportCandidates 4 (some .int) (rmZ 2 44) LAY (fun v M' => RSR M (o_exp A (nI t)) v M') 0 0 0 0 LAY 48 [some (.ref (b0 + 140)), some (.int (nI t)), some (.int (nI (A.P.r * A.P.c))), some (.int (nI (i)))] [] M1 from H _ 0 _ rfl (by omega) ⟨fun _ _ => rfl, fun j hj => by rw [if_neg (Nat.not_lt_zero j)]; exact q3 j hj, fun _ _ => rfl⟩
        intro d
        induction d with
        | zero =>
          intro i M1 hd hi hI
          have e : (min (A.P.r * A.P.c) n) = i := by omega
          subst e
          refine S_iload_3 (q := 49) dX10_exportCandidates_48 rfl ?_
          refine S_iload_2 (q := 50) dX10_exportCandidates_49 rfl ?_
          refine S_icmp_ge (t := 85) (q := 53) dX10_exportCandidates_50 (by decide) rfl (fun hb50 => ?_) (fun hb50 => ?_)
          · refine S_aload_0 (q := 86) dX10_exportCandidates_85 rfl ?_
            refine S_getR (q := 89) dX10_exportCandidates_86 fl_X10_159 (by first | assumption | rfl) (by rfl) rfl ?_
            refine S_iload_1 (q := 90) dX10_exportCandidates_89 rfl ?_
            refine S_ialdV (i := t) (val := nI n) (q := 91) dX10_exportCandidates_90 (by first | assumption | rfl) (by first | (simp only [nI_add, pk_mul, nI_1]; done) | rfl) ht (by decide) (by rw [hI.1 164 (by decide)]; exact q2) rfl ?_
            refine S_iload_2 (q := 92) dX10_exportCandidates_91 rfl ?_
            refine S_icmp_ge (t := 100) (q := 95) dX10_exportCandidates_92 (by decide) rfl (fun hb92 => ?_) (fun hb92 => ?_)
            · have h3 : ¬ n < A.P.r * A.P.c := fun y => nI_ge y (by omega) hb92
              refine S_iload_2 (q := 101) dX10_exportCandidates_100 rfl ?_
              exact S_iret rfl dX10_exportCandidates_101 rfl rfl (RSR.to (A := A.sE t (ty, n, fun z => if z < A.P.r * A.P.c ∧ z < n then kpV ty (nI (A.f z)) else it z)) (hC.oth hk (fun k hk2 => by rw [hI.1 140 (by decide)]) (fun a ha => hI.1 a (by omega)) (by rw [hI.1 140 (by decide)]; exact hru) (htx.fr (by rw [hI.1 140 (by decide)]) (hI.1 154 (by decide))) (hfo.fr (by rw [hI.1 140 (by decide)]) (hI.1 155 (by decide))) (hsn.fr (fun k _ _ => by rw [hI.1 140 (by decide)]) (fun a _ _ => hI.1 a (by omega))) (Rtb.set (t := t) htb ht (fun u hu => by rw [hI.1 163 (by decide)]) (fun u hu => by rw [hI.1 164 (by decide)]) (fun j hj => hI.2.2 j hj) (by rw [hI.1 163 (by decide)]; exact q1) (by rw [hI.1 164 (by decide)]; exact q2) (fun j hj => by rw [hI.2.1 j hj]; exact ifc (by omega)))) (fun a ha => hI.1 a (by omega)) (by unfold o_exp; rw [hq]; simp only [hn, if_neg h2, if_neg h3]))
            · have h3 : n < A.P.r * A.P.c := Nat.lt_of_not_le (fun y => hb92 ((nI_leI (by omega) (by omega)).mpr y))
              refine S_bipush (q := 97) (-13) dX10_exportCandidates_95 (by decide) rfl ?_
              refine S_goto (t := 101) dX10_exportCandidates_97 (by decide) ?_
              exact S_iret rfl dX10_exportCandidates_101 rfl rfl (RSR.to (A := A.sE t (ty, n, fun z => if z < A.P.r * A.P.c ∧ z < n then kpV ty (nI (A.f z)) else it z)) (hC.oth hk (fun k hk2 => by rw [hI.1 140 (by decide)]) (fun a ha => hI.1 a (by omega)) (by rw [hI.1 140 (by decide)]; exact hru) (htx.fr (by rw [hI.1 140 (by decide)]) (hI.1 154 (by decide))) (hfo.fr (by rw [hI.1 140 (by decide)]) (hI.1 155 (by decide))) (hsn.fr (fun k _ _ => by rw [hI.1 140 (by decide)]) (fun a _ _ => hI.1 a (by omega))) (Rtb.set (t := t) htb ht (fun u hu => by rw [hI.1 163 (by decide)]) (fun u hu => by rw [hI.1 164 (by decide)]) (fun j hj => hI.2.2 j hj) (by rw [hI.1 163 (by decide)]; exact q1) (by rw [hI.1 164 (by decide)]; exact q2) (fun j hj => by rw [hI.2.1 j hj]; exact ifc (by omega)))) (fun a ha => hI.1 a (by omega)) (by unfold o_exp; rw [hq]; simp only [hn, if_neg h2, if_pos h3]))
          · have hge : n ≤ A.P.r * A.P.c := by
              have : ¬ A.P.r * A.P.c ≤ min (A.P.r * A.P.c) n := fun y => hb50 ((nI_leI (by omega) (by omega)).mpr y)
              omega
            refine S_iload_3 (q := 54) dX10_exportCandidates_53 rfl ?_
            refine S_aload_0 (q := 55) dX10_exportCandidates_54 rfl ?_
            refine S_getR (q := 58) dX10_exportCandidates_55 fl_X10_159 (by first | assumption | rfl) (by rfl) rfl ?_
            refine S_iload_1 (q := 59) dX10_exportCandidates_58 rfl ?_
            refine S_ialdV (i := t) (val := nI n) (q := 60) dX10_exportCandidates_59 (by first | assumption | rfl) (by first | (simp only [nI_add, pk_mul, nI_1]; done) | rfl) ht (by decide) (by rw [hI.1 164 (by decide)]; exact q2) rfl ?_
            refine S_icmp_ge (t := 85) (q := 63) dX10_exportCandidates_60 (by decide) rfl (fun hb60 => ?_) (fun hb60 => ?_)
            · refine S_aload_0 (q := 86) dX10_exportCandidates_85 rfl ?_
              refine S_getR (q := 89) dX10_exportCandidates_86 fl_X10_159 (by first | assumption | rfl) (by rfl) rfl ?_
              refine S_iload_1 (q := 90) dX10_exportCandidates_89 rfl ?_
              refine S_ialdV (i := t) (val := nI n) (q := 91) dX10_exportCandidates_90 (by first | assumption | rfl) (by first | (simp only [nI_add, pk_mul, nI_1]; done) | rfl) ht (by decide) (by rw [hI.1 164 (by decide)]; exact q2) rfl ?_
              refine S_iload_2 (q := 92) dX10_exportCandidates_91 rfl ?_
              refine S_icmp_ge (t := 100) (q := 95) dX10_exportCandidates_92 (by decide) rfl (fun hb92 => ?_) (fun hb92 => ?_)
              · have h3 : ¬ n < A.P.r * A.P.c := fun y => nI_ge y (by omega) hb92
                refine S_iload_2 (q := 101) dX10_exportCandidates_100 rfl ?_
                exact S_iret rfl dX10_exportCandidates_101 rfl rfl (RSR.to (A := A.sE t (ty, n, fun z => if z < A.P.r * A.P.c ∧ z < n then kpV ty (nI (A.f z)) else it z)) (hC.oth hk (fun k hk2 => by rw [hI.1 140 (by decide)]) (fun a ha => hI.1 a (by omega)) (by rw [hI.1 140 (by decide)]; exact hru) (htx.fr (by rw [hI.1 140 (by decide)]) (hI.1 154 (by decide))) (hfo.fr (by rw [hI.1 140 (by decide)]) (hI.1 155 (by decide))) (hsn.fr (fun k _ _ => by rw [hI.1 140 (by decide)]) (fun a _ _ => hI.1 a (by omega))) (Rtb.set (t := t) htb ht (fun u hu => by rw [hI.1 163 (by decide)]) (fun u hu => by rw [hI.1 164 (by decide)]) (fun j hj => hI.2.2 j hj) (by rw [hI.1 163 (by decide)]; exact q1) (by rw [hI.1 164 (by decide)]; exact q2) (fun j hj => by rw [hI.2.1 j hj]; exact ifc (by omega)))) (fun a ha => hI.1 a (by omega)) (by unfold o_exp; rw [hq]; simp only [hn, if_neg h2, if_neg h3]))
              · have h3 : n < A.P.r * A.P.c := Nat.lt_of_not_le (fun y => hb92 ((nI_leI (by omega) (by omega)).mpr y))
                refine S_bipush (q := 97) (-13) dX10_exportCandidates_95 (by decide) rfl ?_
                refine S_goto (t := 101) dX10_exportCandidates_97 (by decide) ?_
                exact S_iret rfl dX10_exportCandidates_101 rfl rfl (RSR.to (A := A.sE t (ty, n, fun z => if z < A.P.r * A.P.c ∧ z < n then kpV ty (nI (A.f z)) else it z)) (hC.oth hk (fun k hk2 => by rw [hI.1 140 (by decide)]) (fun a ha => hI.1 a (by omega)) (by rw [hI.1 140 (by decide)]; exact hru) (htx.fr (by rw [hI.1 140 (by decide)]) (hI.1 154 (by decide))) (hfo.fr (by rw [hI.1 140 (by decide)]) (hI.1 155 (by decide))) (hsn.fr (fun k _ _ => by rw [hI.1 140 (by decide)]) (fun a _ _ => hI.1 a (by omega))) (Rtb.set (t := t) htb ht (fun u hu => by rw [hI.1 163 (by decide)]) (fun u hu => by rw [hI.1 164 (by decide)]) (fun j hj => hI.2.2 j hj) (by rw [hI.1 163 (by decide)]; exact q1) (by rw [hI.1 164 (by decide)]; exact q2) (fun j hj => by rw [hI.2.1 j hj]; exact ifc (by omega)))) (fun a ha => hI.1 a (by omega)) (by unfold o_exp; rw [hq]; simp only [hn, if_neg h2, if_pos h3]))
            · exact absurd ((nI_leI (by omega) (by omega)).mpr (show n ≤ min (A.P.r * A.P.c) n by omega)) hb60
        | succ d ih =>
          intro i M1 hd hi hI
          have hlt : i < (min (A.P.r * A.P.c) n) := by omega
          have hmin : i < A.P.r * A.P.c ∧ i < n := by omega
          refine S_iload_3 (q := 49) dX10_exportCandidates_48 rfl ?_
          refine S_iload_2 (q := 50) dX10_exportCandidates_49 rfl ?_
          refine S_icmp_ge (t := 85) (q := 53) dX10_exportCandidates_50 (by decide) rfl (fun hb50 => ?_) (fun hb50 => ?_)
          · exact absurd hb50 (nI_ge (show i < A.P.r * A.P.c by omega) (by omega))
          · refine S_iload_3 (q := 54) dX10_exportCandidates_53 rfl ?_
            refine S_aload_0 (q := 55) dX10_exportCandidates_54 rfl ?_
            refine S_getR (q := 58) dX10_exportCandidates_55 fl_X10_159 (by first | assumption | rfl) (by rfl) rfl ?_
            refine S_iload_1 (q := 59) dX10_exportCandidates_58 rfl ?_
            refine S_ialdV (i := t) (val := nI n) (q := 60) dX10_exportCandidates_59 (by first | assumption | rfl) (by first | (simp only [nI_add, pk_mul, nI_1]; done) | rfl) ht (by decide) (by rw [hI.1 164 (by decide)]; exact q2) rfl ?_
            refine S_icmp_ge (t := 85) (q := 63) dX10_exportCandidates_60 (by decide) rfl (fun hb60 => ?_) (fun hb60 => ?_)
            · exact absurd hb60 (nI_ge (show i < n by omega) (by omega))
            · refine S_aload_0 (q := 64) dX10_exportCandidates_63 rfl ?_
              refine S_iload_1 (q := 65) dX10_exportCandidates_64 rfl ?_
              refine S_iload_3 (q := 66) dX10_exportCandidates_65 rfl ?_
              refine S_aload_0 (q := 67) dX10_exportCandidates_66 rfl ?_
              refine S_getR (q := 70) dX10_exportCandidates_67 fl_X10_22 (by first | assumption | rfl) (by rfl) rfl ?_
              refine S_aload_0 (q := 71) dX10_exportCandidates_70 rfl ?_
              refine S_iload_3 (q := 72) dX10_exportCandidates_71 rfl ?_
              refine S_callV1i (q := 75) dX10_exportCandidates_72 lk_X10_281 (by first | assumption | rfl) rfl rfl (k_X10_cellAt (by rw [hI.1 140 (by decide)]; exact g1) hc1 hc8 (show i < 64 by omega)) rfl rfl (Nat.le_of_ble_eq_true rfl) ⟨Nat.le_of_ble_eq_true rfl, Nat.le_of_ble_eq_true rfl⟩ ⟨Nat.le_of_ble_eq_true rfl, Nat.le_of_ble_eq_true rfl⟩ rfl (fun v72 M72 hv72 => ?_)
              obtain ⟨e72, rfl⟩ := hv72
              rw [e72]
              refine S_ialdV (i := gx A.P.c i) (val := nI (A.f i)) (q := 76) dX10_exportCandidates_75 (by first | assumption | rfl) (by first | (simp only [nI_add, pk_mul, nI_1]; done) | rfl) (by have := (gx_64 hr8 hc8 hc1 hmin.1).1; omega) (by decide) (by rw [hI.1 141 (by decide)]; have := gce i hmin.1; rw [Nat.zero_add] at this; exact this.1) rfl ?_
              refine S_callV3v (q := 79) dX10_exportCandidates_76 lk_X10_278 (by first | assumption | rfl) rfl rfl (k_X10_lay (ty := ty) ht (show i < 64 by omega) (by rw [hI.1 163 (by decide)]; exact q1) hty2) rfl rfl (Nat.le_of_ble_eq_true rfl) ⟨Nat.le_of_ble_eq_true rfl, Nat.le_of_ble_eq_true rfl⟩ ⟨Nat.le_of_ble_eq_true rfl, Nat.le_of_ble_eq_true rfl⟩ rfl (fun v76 M76 hv76 => ?_)
              subst hv76
              refine S_iinc_3 (q := 82) (nI (i + 1)) dX10_exportCandidates_79 (inc1 _) rfl ?_
              refine S_goto (t := 48) dX10_exportCandidates_82 (by decide) ?_
              exact ih (i + 1) _ (by omega) hlt ⟨fun a ha => by rw [up_n ha]; exact hI.1 a ha, fun j hj => (by
                rw [up_eq]
                by_cases e : j = i
                · rw [if_pos ⟨rfl, by omega⟩, if_pos (by omega), e]
                · rw [if_neg (by omega), hI.2.1 j hj]; exact ifc (by omega)), fun j hj => by rw [up_eq, if_neg (by omega)]; exact hI.2.2 j hj⟩
      · have h2 : ty = 2 := nI_inj (by omega) (by decide) hb30
        refine S_bipush (q := 35) (-12) dX10_exportCandidates_33 (by decide) rfl ?_
        exact S_iret rfl dX10_exportCandidates_35 rfl rfl (RSR.same hC (by unfold o_exp; rw [hq]; simp only [hn, if_pos h2]))
    · have hn : A.tb t = none := by
        cases e : A.tb t with
        | none => rfl
        | some q =>
          have h1 := ((htb t ht).2 q.1 q.2.1 q.2.2 e).1
          have h2 := (hk.tb t q.1 q.2.1 q.2.2 e).1
          rw [h1] at hb17
          exact absurd (nI_pos' (by omega)) hb17
      refine S_bipush (q := 22) (-11) dX10_exportCandidates_20 (by decide) rfl ?_
      exact S_iret rfl dX10_exportCandidates_22 rfl rfl (RSR.same hC (by unfold o_exp; rw [hq]; simp only [hn]))
  · have hq := ix_no (bI_0.mp hb5)
    refine S_bipush (q := 10) (-2) dX10_exportCandidates_8 (by decide) rfl ?_
    exact S_iret rfl dX10_exportCandidates_10 rfl rfl (RSR.same hC (by unfold o_exp; rw [hq]))
theorem and1_s : ∀ m, m < 16 → nI m &&& nI 1 = nI (if m.testBit 0 = true then 1 else 0) := by decide +kernel
theorem cmp_s {x : Int32} (h : x = nI 0 ∨ x = nI 1) (m : Nat) : ¬ x = nI (if m.testBit 0 = true then 1 else 0) ↔ (x = nI 0 ↔ m.testBit 0 = true) := by
  by_cases e : m.testBit 0 = true
  · rw [if_pos e]
    rcases h with rfl | rfl
    · exact ⟨fun _ => ⟨fun _ => e, fun _ => rfl⟩, fun _ => by decide⟩
    · exact ⟨fun y => absurd rfl y, fun y => absurd (y.mpr e) (by decide)⟩
  · rw [if_neg e]
    rcases h with rfl | rfl
    · exact ⟨fun y => absurd rfl y, fun y => absurd (y.mp rfl) e⟩
    · exact ⟨fun _ => ⟨fun y => absurd y (by decide), fun y => absurd y e⟩, fun _ => by decide⟩
theorem cmT_at {f : Nat → Nat} {it : Nat → Int32} {n N i : Nat} (hi : i < N) : cmT f it n N (N - i) = if n ≤ i then -13 else if (it i = nI 0) ↔ ((f i).testBit 0 = true) then cmT f it n N (N - (i + 1)) else nI i := by
  rw [show N - i = N - (i + 1) + 1 by omega]
  show (if n ≤ N - (N - (i + 1) + 1) then _ else if (it (N - (N - (i + 1) + 1)) = nI 0) ↔ ((f (N - (N - (i + 1) + 1))).testBit 0 = true) then _ else nI (N - (N - (i + 1) + 1))) = _
  rw [show N - (N - (i + 1) + 1) = i by omega]
set_option maxHeartbeats 4000000 in
set_option maxRecDepth 100000 in
theorem k_X10_compareTable {l : Launch} {G : Gd} {b0 : Nat} {M : Mem} {A : Ab} {x : Int32}  (hC : RR M A) (hk : A.ok)  : Ct l G b0 yX10_compareTable cX10_compareTable 3 (some .int) (rmZ 2 44) LAY LAY M [.ref (b0 + 140), .int x] (fun v M' => RSR M (o_cmp A x) v M') := by
  obtain ⟨⟨g0, g1, g2, gcu, gce⟩, hru, hhi, hbad, hask, htx, hfo, hsn, htb⟩ := id hC
  have hP := hk.P
  have hr1 := hP.r1
  have hr8 := hP.r8
  have hc1 := hP.c1
  have hc8 := hP.c8
  have hk1 := hP.k1
  have hk3 := hP.k3
  have h64 := rc64 hr8 hc8
  have hH8 := hk.H8
  have hN : A.N = A.P.r + A.P.c := rfl
  refine Ct.of [some (.ref (b0 + 140)), some (.int x), none] (by decide) (Nat.le_of_ble_eq_true rfl) rfl rfl ?_
  refine S_aload_0 (q := 1) dX10_compareTable_0 rfl ?_
  refine S_iload_1 (q := 2) dX10_compareTable_1 rfl ?_
  refine S_callV1i (q := 5) dX10_compareTable_2 lk_X10_275 (by first | assumption | rfl) rfl rfl (k_X10_isTable) rfl rfl (Nat.le_of_ble_eq_true rfl) ⟨Nat.le_of_ble_eq_true rfl, Nat.le_of_ble_eq_true rfl⟩ ⟨Nat.le_of_ble_eq_true rfl, Nat.le_of_ble_eq_true rfl⟩ rfl (fun v2 M2 hv2 => ?_)
  obtain ⟨e2, rfl⟩ := hv2
  rw [e2]
  refine S_if_ne (t := 11) (q := 8) dX10_compareTable_5 (by decide) rfl (fun hb5 => ?_) (fun hb5 => ?_)
  · obtain ⟨t, ht, rfl, hq⟩ := ix_ok (n := 3) (by decide) (bI_n.mp hb5)
    refine S_aload_0 (q := 12) dX10_compareTable_11 rfl ?_
    refine S_getR (q := 15) dX10_compareTable_12 fl_X10_156 (by first | assumption | rfl) (by rfl) rfl ?_
    refine S_iload_1 (q := 16) dX10_compareTable_15 rfl ?_
    refine S_ialdE (i := t) (q := 17) dX10_compareTable_16 (by first | assumption | rfl) (by first | (simp only [nI_add, pk_mul, nI_1]; done) | rfl) ht (by decide) rfl ?_
    refine S_if_ge (t := 23) (q := 20) dX10_compareTable_17 (by decide) rfl (fun hb17 => ?_) (fun hb17 => ?_)
    · obtain ⟨ty, n, it, hn⟩ : ∃ ty n it, A.tb t = some (ty, n, it) := by
        cases e : A.tb t with
        | none => rw [(htb t ht).1 e] at hb17; exact absurd hb17 (by decide)
        | some q => exact ⟨q.1, q.2.1, q.2.2, rfl⟩
      have h64n := (hk.tb t ty n it hn).2.1
      have hty2 := (hk.tb t ty n it hn).1
      obtain ⟨q1, q2, q3⟩ := (htb t ht).2 ty n it hn
      refine S_aload_0 (q := 24) dX10_compareTable_23 rfl ?_
      refine S_getR (q := 27) dX10_compareTable_24 fl_X10_156 (by first | assumption | rfl) (by rfl) rfl ?_
      refine S_iload_1 (q := 28) dX10_compareTable_27 rfl ?_
      refine S_ialdV (i := t) (val := nI ty) (q := 29) dX10_compareTable_28 (by first | assumption | rfl) (by first | (simp only [nI_add, pk_mul, nI_1]; done) | rfl) ht (by decide) q1 rfl ?_
      refine S_iconst (q := 30) (nI 2) dX10_compareTable_29 (by decide) rfl ?_
      refine S_icmp_eq (t := 36) (q := 33) dX10_compareTable_30 (by decide) rfl (fun hb30 => ?_) (fun hb30 => ?_)
      · have h2 : ty = 2 := nI_inj (by omega) (by decide) hb30
        refine S_iconst (q := 37) (nI 0) dX10_compareTable_36 (by decide) rfl ?_
        refine S_istore_2 (q := 38) dX10_compareTable_37 rfl ?_
        suffices H : ∀ (d : Nat) (i : Nat), (A.P.r * A.P.c) - i = d → i ≤ (A.P.r * A.P.c) → (cmT A.f it n (A.P.r * A.P.c) (A.P.r * A.P.c - (i)) = cmT A.f it n (A.P.r * A.P.c) (A.P.r * A.P.c)) → S l G b0 yX10_compareTable cX10_compareTable 3 (some .int) (rmZ 2 44) LAY (fun v M' => RSR M (o_cmp A (nI t)) v M') 0 0 0 0 LAY 38 [some (.ref (b0 + 140)), some (.int (nI t)), some (.int (nI (i)))] [] M from H _ 0 rfl (by omega) rfl
        intro d
        induction d with
        | zero =>
          intro i hd hi hI
          have e : (A.P.r * A.P.c) = i := by omega
          subst e
          refine S_iload_2 (q := 39) dX10_compareTable_38 rfl ?_
          refine S_aload_0 (q := 40) dX10_compareTable_39 rfl ?_
          refine S_getI (q := 43) dX10_compareTable_40 fl_X10_7 (by first | assumption | rfl) (by rfl) rfl ?_
          rw [g0]
          refine S_aload_0 (q := 44) dX10_compareTable_43 rfl ?_
          refine S_getI (q := 47) dX10_compareTable_44 fl_X10_13 (by first | assumption | rfl) (by rfl) rfl ?_
          rw [g1]
          refine S_imul (q := 48) dX10_compareTable_47 rfl ?_
          rw [pk_mul]
          refine S_icmp_ge (t := 98) (q := 51) dX10_compareTable_48 (by decide) rfl (fun hb48 => ?_) (fun hb48 => ?_)
          · refine S_bipush (q := 100) (-8) dX10_compareTable_98 (by decide) rfl ?_
            exact S_iret rfl dX10_compareTable_100 rfl rfl (RSR.same hC (by unfold o_cmp; rw [hq]; simp only [hn, if_pos h2]; rw [← hI, Nat.sub_self]; rfl))
          · exact absurd (Int32.le_refl _) hb48
        | succ d ih =>
          intro i hd hi hI
          have hlt : i < (A.P.r * A.P.c) := by omega
          have hcm := cmT_at (f := A.f) (it := it) (n := n) hlt
          refine S_iload_2 (q := 39) dX10_compareTable_38 rfl ?_
          refine S_aload_0 (q := 40) dX10_compareTable_39 rfl ?_
          refine S_getI (q := 43) dX10_compareTable_40 fl_X10_7 (by first | assumption | rfl) (by rfl) rfl ?_
          rw [g0]
          refine S_aload_0 (q := 44) dX10_compareTable_43 rfl ?_
          refine S_getI (q := 47) dX10_compareTable_44 fl_X10_13 (by first | assumption | rfl) (by rfl) rfl ?_
          rw [g1]
          refine S_imul (q := 48) dX10_compareTable_47 rfl ?_
          rw [pk_mul]
          refine S_icmp_ge (t := 98) (q := 51) dX10_compareTable_48 (by decide) rfl (fun hb48 => ?_) (fun hb48 => ?_)
          · exact absurd hb48 (nI_ge hlt (by omega))
          · refine S_iload_2 (q := 52) dX10_compareTable_51 rfl ?_
            refine S_aload_0 (q := 53) dX10_compareTable_52 rfl ?_
            refine S_getR (q := 56) dX10_compareTable_53 fl_X10_159 (by first | assumption | rfl) (by rfl) rfl ?_
            refine S_iload_1 (q := 57) dX10_compareTable_56 rfl ?_
            refine S_ialdV (i := t) (val := nI n) (q := 58) dX10_compareTable_57 (by first | assumption | rfl) (by first | (simp only [nI_add, pk_mul, nI_1]; done) | rfl) ht (by decide) q2 rfl ?_
            refine S_icmp_lt (t := 64) (q := 61) dX10_compareTable_58 (by decide) rfl (fun hb58 => ?_) (fun hb58 => ?_)
            · have hin : i < n := (nI_ltI (by omega) (by omega)).mp hb58
              have h01 := (hk.tb t ty n it hn).2.2 h2 i
              refine S_aload_0 (q := 65) dX10_compareTable_64 rfl ?_
              refine S_getR (q := 68) dX10_compareTable_65 fl_X10_162 (by first | assumption | rfl) (by rfl) rfl ?_
              refine S_bipush (q := 70) (nI 64) dX10_compareTable_68 (by decide) rfl ?_
              refine S_iload_1 (q := 71) dX10_compareTable_70 rfl ?_
              refine S_imul (q := 72) dX10_compareTable_71 rfl ?_
              refine S_iload_2 (q := 73) dX10_compareTable_72 rfl ?_
              refine S_iadd (q := 74) dX10_compareTable_73 rfl ?_
              refine S_ialdV (i := 64 * t + i) (val := it i) (q := 75) dX10_compareTable_74 (by first | assumption | rfl) (by rw [pk_mul, nI_add]) (by omega) (by decide) (q3 i (by omega)) rfl ?_
              refine S_aload_0 (q := 76) dX10_compareTable_75 rfl ?_
              refine S_getR (q := 79) dX10_compareTable_76 fl_X10_22 (by first | assumption | rfl) (by rfl) rfl ?_
              refine S_aload_0 (q := 80) dX10_compareTable_79 rfl ?_
              refine S_iload_2 (q := 81) dX10_compareTable_80 rfl ?_
              refine S_callV1i (q := 84) dX10_compareTable_81 lk_X10_281 (by first | assumption | rfl) rfl rfl (k_X10_cellAt g1 hc1 hc8 (show i < 64 by omega)) rfl rfl (Nat.le_of_ble_eq_true rfl) ⟨Nat.le_of_ble_eq_true rfl, Nat.le_of_ble_eq_true rfl⟩ ⟨Nat.le_of_ble_eq_true rfl, Nat.le_of_ble_eq_true rfl⟩ rfl (fun v81 M81 hv81 => ?_)
              obtain ⟨e81, rfl⟩ := hv81
              rw [e81]
              refine S_ialdV (i := gx A.P.c i) (val := nI (A.f i)) (q := 85) dX10_compareTable_84 (by first | assumption | rfl) (by first | (simp only [nI_add, pk_mul, nI_1]; done) | rfl) (by have := (gx_64 hr8 hc8 hc1 hlt).1; omega) (by decide) (by have := gce i hlt; rw [Nat.zero_add] at this; exact this.1) rfl ?_
              refine S_iconst (q := 86) (nI 1) dX10_compareTable_85 (by decide) rfl ?_
              refine S_iand (q := 87) dX10_compareTable_86 rfl ?_
              rw [and1_s _ (gce i hlt).2.2]
              refine S_icmp_ne (t := 92) (q := 90) dX10_compareTable_87 (by decide) rfl (fun hb87 => ?_) (fun hb87 => ?_)
              · have hgo := (cmp_s h01 (A.f i)).mp hb87
                refine S_iinc_2 (q := 95) (nI (i + 1)) dX10_compareTable_92 (inc1 _) rfl ?_
                refine S_goto (t := 38) dX10_compareTable_95 (by decide) ?_
                exact ih (i + 1) (by omega) hlt (by rw [← hI, hcm, if_neg (by omega), if_pos hgo])
              · have hgo : ¬ (it i = nI 0 ↔ (A.f i).testBit 0 = true) := fun y => (cmp_s h01 (A.f i)).mpr y hb87
                refine S_iload_2 (q := 91) dX10_compareTable_90 rfl ?_
                exact S_iret rfl dX10_compareTable_91 rfl rfl (RSR.same hC (by unfold o_cmp; rw [hq]; simp only [hn, if_pos h2]; rw [← hI, hcm, if_neg (by omega), if_neg hgo]))
            · have hin : ¬ i < n := fun y => hb58 ((nI_ltI (by omega) (by omega)).mpr y)
              refine S_bipush (q := 63) (-13) dX10_compareTable_61 (by decide) rfl ?_
              exact S_iret rfl dX10_compareTable_63 rfl rfl (RSR.same hC (by unfold o_cmp; rw [hq]; simp only [hn, if_pos h2]; rw [← hI, hcm, if_pos (by omega)]))
      · have h2 : ¬ ty = 2 := fun e => hb30 (by rw [e])
        refine S_bipush (q := 35) (-12) dX10_compareTable_33 (by decide) rfl ?_
        exact S_iret rfl dX10_compareTable_35 rfl rfl (RSR.same hC (by unfold o_cmp; rw [hq]; simp only [hn, if_neg h2]))
    · have hn : A.tb t = none := by
        cases e : A.tb t with
        | none => rfl
        | some q =>
          have h1 := ((htb t ht).2 q.1 q.2.1 q.2.2 e).1
          have h2 := (hk.tb t q.1 q.2.1 q.2.2 e).1
          rw [h1] at hb17
          exact absurd (nI_pos' (by omega)) hb17
      refine S_bipush (q := 22) (-11) dX10_compareTable_20 (by decide) rfl ?_
      exact S_iret rfl dX10_compareTable_22 rfl rfl (RSR.same hC (by unfold o_cmp; rw [hq]; simp only [hn]))
  · have hq := ix_no (bI_0.mp hb5)
    refine S_bipush (q := 10) (-2) dX10_compareTable_8 (by decide) rfl ?_
    exact S_iret rfl dX10_compareTable_10 rfl rfl (RSR.same hC (by unfold o_cmp; rw [hq]))
