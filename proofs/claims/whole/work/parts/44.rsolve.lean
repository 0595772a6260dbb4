set_option maxHeartbeats 4000000 in
set_option maxRecDepth 100000 in
theorem k_X10_decidedCount {l : Launch} {G : Gd} {b0 : Nat} {M : Mem} {A : Ab}  (hC : RR M A) (hk : A.ok)  : Ct l G b0 yX10_decidedCount cX10_decidedCount 1 (some .int) (rmZ 2 45) LAY LAY M [.ref (b0 + 140)] (fun v M' => RSR M (o_dec A) v M') := by
  obtain ⟨⟨g0, g1, g2, gcu, gce⟩, hru, hhi, hbad, hask, htx, hfo, hsn, htb⟩ := id hC
  have hP := hk.P
  have hr1 := hP.r1
  have hr8 := hP.r8
  have hc1 := hP.c1
  have hc8 := hP.c8
  have hk1 := hP.k1
  have hk3 := hP.k3
  have h64 := rc64 hr8 hc8
  have hH8 := hk.H8
  have hN : A.N = A.P.r + A.P.c := rfl
  refine Ct.of [some (.ref (b0 + 140))] (by decide) (Nat.le_of_ble_eq_true rfl) rfl rfl ?_
  refine S_aload_0 (q := 1) dX10_decidedCount_0 rfl ?_
  refine S_iconst (q := 2) (nI 0) dX10_decidedCount_1 (by decide) rfl ?_
  refine S_callV1i (q := 5) dX10_decidedCount_2 lk_X10_211 (by first | assumption | rfl) rfl rfl (k_X10_decidedIn g0 g1 hP (by decide) gce) rfl rfl (Nat.le_of_ble_eq_true rfl) ⟨Nat.le_of_ble_eq_true rfl, Nat.le_of_ble_eq_true rfl⟩ ⟨Nat.le_of_ble_eq_true rfl, Nat.le_of_ble_eq_true rfl⟩ rfl (fun v2 M2 hv2 => ?_)
  obtain ⟨e2, rfl⟩ := hv2
  rw [e2]
  exact S_iret rfl dX10_decidedCount_5 rfl rfl (RSR.same hC rfl)
set_option maxHeartbeats 4000000 in
set_option maxRecDepth 100000 in
theorem k_X10_reset {l : Launch} {G : Gd} {b0 : Nat} {M : Mem} {A : Ab} {x y z : Int32}  (hC : RR M A) (hk : A.ok)  : Ct l G b0 yX10_reset cX10_reset 5 (some .int) (rmZ 1 23) LAY LAY M [.ref (b0 + 140), .int x, .int y, .int z] (fun v M' => RSR M (o_reset A x y z) v M') := by
  obtain ⟨⟨g0, g1, g2, gcu, gce⟩, hru, hhi, hbad, hask, htx, hfo, hsn, htb⟩ := id hC
  have hP := hk.P
  have hr1 := hP.r1
  have hr8 := hP.r8
  have hc1 := hP.c1
  have hc8 := hP.c8
  have hk1 := hP.k1
  have hk3 := hP.k3
  have h64 := rc64 hr8 hc8
  have hH8 := hk.H8
  have hN : A.N = A.P.r + A.P.c := rfl
  refine Ct.of [some (.ref (b0 + 140)), some (.int x), some (.int y), some (.int z), none] (by decide) (Nat.le_of_ble_eq_true rfl) rfl rfl ?_
  refine S_aload_0 (q := 1) dX10_reset_0 rfl ?_
  refine S_iload_1 (q := 2) dX10_reset_1 rfl ?_
  refine S_iconst (q := 3) (nI 1) dX10_reset_2 (by decide) rfl ?_
  refine S_bipush (q := 5) (nI 8) dX10_reset_3 (by decide) rfl ?_
  refine S_callV3i (q := 8) dX10_reset_5 lk_X10_172 (by first | assumption | rfl) rfl rfl (k_X10_within) rfl rfl (Nat.le_of_ble_eq_true rfl) ⟨Nat.le_of_ble_eq_true rfl, Nat.le_of_ble_eq_true rfl⟩ ⟨Nat.le_of_ble_eq_true rfl, Nat.le_of_ble_eq_true rfl⟩ rfl (fun v5 M5 hv5 => ?_)
  obtain ⟨e5, rfl⟩ := hv5
  rw [e5]
  refine S_if_eq (t := 32) (q := 11) dX10_reset_8 (by decide) rfl (fun hb8 => ?_) (fun hb8 => ?_)
  · have h1 := iw_no (bI_0.mp hb8)
    refine S_bipush (q := 34) (-2) dX10_reset_32 (by decide) rfl ?_
    exact S_iret rfl dX10_reset_34 rfl rfl (RSR.same hC (by unfold o_reset; rw [h1]))
  · obtain ⟨r, hr1', hr8', rfl, h1⟩ := iw_ok (by decide) (by decide) (bI_n.mp hb8)
    refine S_aload_0 (q := 12) dX10_reset_11 rfl ?_
    refine S_iload_2 (q := 13) dX10_reset_12 rfl ?_
    refine S_iconst (q := 14) (nI 1) dX10_reset_13 (by decide) rfl ?_
    refine S_bipush (q := 16) (nI 8) dX10_reset_14 (by decide) rfl ?_
    refine S_callV3i (q := 19) dX10_reset_16 lk_X10_172 (by first | assumption | rfl) rfl rfl (k_X10_within) rfl rfl (Nat.le_of_ble_eq_true rfl) ⟨Nat.le_of_ble_eq_true rfl, Nat.le_of_ble_eq_true rfl⟩ ⟨Nat.le_of_ble_eq_true rfl, Nat.le_of_ble_eq_true rfl⟩ rfl (fun v16 M16 hv16 => ?_)
    obtain ⟨e16, rfl⟩ := hv16
    rw [e16]
    refine S_if_eq (t := 32) (q := 22) dX10_reset_19 (by decide) rfl (fun hb19 => ?_) (fun hb19 => ?_)
    · have h2 := iw_no (bI_0.mp hb19)
      refine S_bipush (q := 34) (-2) dX10_reset_32 (by decide) rfl ?_
      exact S_iret rfl dX10_reset_34 rfl rfl (RSR.same hC (by unfold o_reset; rw [h1]; simp only [h2]))
    · obtain ⟨c, hc1', hc8', rfl, h2⟩ := iw_ok (by decide) (by decide) (bI_n.mp hb19)
      refine S_aload_0 (q := 23) dX10_reset_22 rfl ?_
      refine S_iload_3 (q := 24) dX10_reset_23 rfl ?_
      refine S_iconst (q := 25) (nI 1) dX10_reset_24 (by decide) rfl ?_
      refine S_iconst (q := 26) (nI 3) dX10_reset_25 (by decide) rfl ?_
      refine S_callV3i (q := 29) dX10_reset_26 lk_X10_172 (by first | assumption | rfl) rfl rfl (k_X10_within) rfl rfl (Nat.le_of_ble_eq_true rfl) ⟨Nat.le_of_ble_eq_true rfl, Nat.le_of_ble_eq_true rfl⟩ ⟨Nat.le_of_ble_eq_true rfl, Nat.le_of_ble_eq_true rfl⟩ rfl (fun v26 M26 hv26 => ?_)
      obtain ⟨e26, rfl⟩ := hv26
      rw [e26]
      refine S_if_ne (t := 35) (q := 32) dX10_reset_29 (by decide) rfl (fun hb29 => ?_) (fun hb29 => ?_)
      · obtain ⟨k, hk1', hk3', rfl, h3⟩ := iw_ok (by decide) (by decide) (bI_n.mp hb29)
        refine S_aload_0 (q := 36) dX10_reset_35 rfl ?_
        refine S_iload_1 (q := 37) dX10_reset_36 rfl ?_
        refine S_putI (q := 40) dX10_reset_37 fp_X10_7 (by first | assumption | rfl) (by rfl) rfl (by rfl) rfl ?_
        refine S_aload_0 (q := 41) dX10_reset_40 rfl ?_
        refine S_iload_2 (q := 42) dX10_reset_41 rfl ?_
        refine S_putI (q := 45) dX10_reset_42 fp_X10_13 (by first | assumption | rfl) (by rfl) rfl (by rfl) rfl ?_
        refine S_aload_0 (q := 46) dX10_reset_45 rfl ?_
        refine S_iload_3 (q := 47) dX10_reset_46 rfl ?_
        refine S_putI (q := 50) dX10_reset_47 fp_X10_16 (by first | assumption | rfl) (by rfl) rfl (by rfl) rfl ?_
        refine S_aload_0 (q := 51) dX10_reset_50 rfl ?_
        refine S_callV0v (q := 54) dX10_reset_51 lk_X10_165 (by first | assumption | rfl) rfl rfl (k_X10_open (k := k) up_s hk3') rfl rfl (Nat.le_of_ble_eq_true rfl) ⟨Nat.le_of_ble_eq_true rfl, Nat.le_of_ble_eq_true rfl⟩ ⟨Nat.le_of_ble_eq_true rfl, Nat.le_of_ble_eq_true rfl⟩ rfl (fun v51 M51 hv51 => ?_)
        have f0 : M51 140 0 = nI r := by rw [hv51.1 140 (by decide), up_eq, if_neg (by decide), up_eq, if_neg (by decide), up_s]
        have f1 : M51 140 1 = nI c := by rw [hv51.1 140 (by decide), up_eq, if_neg (by decide), up_s]
        have f2 : M51 140 2 = nI k := by rw [hv51.1 140 (by decide), up_s]
        refine S_iconst (q := 55) (nI 0) dX10_reset_54 (by decide) rfl ?_
        refine S_istore_4 (q := 57) dX10_reset_55 rfl ?_
        suffices H : ∀ (d : Nat) (i : Nat) (M1 : Mem), 16 - i = d → i ≤ 16 → ((∀ a, a ≠ 142 → M1 a = M51 a) ∧ ∀ x, x < i → M1 142 x = nI 0) → S l G b0 yX10_reset cX10_reset 5 (some .int) (rmZ 1 23) LAY (fun v M' => RSR M (o_reset A (nI r) (nI c) (nI k)) v M') 0 0 0 0 LAY 57 [some (.ref (b0 + 140)), some (.int (nI r)), some (.int (nI c)), some (.int (nI k)), some (.int (nI (i)))] [] M1 from H _ 0 _ rfl (by omega) ⟨fun _ _ => rfl, fun x hx => absurd hx (Nat.not_lt_zero x)⟩
        intro d
        induction d with
        | zero =>
          intro i M1 hd hi hI
          have e : 16 = i := by omega
          subst e
          refine S_iload_4 (q := 59) dX10_reset_57 rfl ?_
          refine S_bipush (q := 61) (nI 16) dX10_reset_59 (by decide) rfl ?_
          refine S_icmp_ge (t := 78) (q := 64) dX10_reset_61 (by decide) rfl (fun hb61 => ?_) (fun hb61 => ?_)
          · refine S_aload_0 (q := 79) dX10_reset_78 rfl ?_
            refine S_iconst (q := 80) (nI 0) dX10_reset_79 (by decide) rfl ?_
            refine S_putI (q := 83) dX10_reset_80 fp_X10_35 (by first | assumption | rfl) (by rfl) rfl (by rfl) rfl ?_
            refine S_aload_0 (q := 84) dX10_reset_83 rfl ?_
            refine S_iconst (q := 85) (-1) dX10_reset_84 (by decide) rfl ?_
            refine S_putI (q := 88) dX10_reset_85 fp_X10_50 (by first | assumption | rfl) (by rfl) rfl (by rfl) rfl ?_
            refine S_aload_0 (q := 89) dX10_reset_88 rfl ?_
            refine S_callV0i (q := 92) dX10_reset_89 lk_X10_168 (by first | assumption | rfl) rfl rfl (k_X10_lines (r := r) (c := c) (by rw [up_eq, if_neg (by decide), up_eq, if_neg (by decide), hI.1 140 (by decide)]; exact f0) (by rw [up_eq, if_neg (by decide), up_eq, if_neg (by decide), hI.1 140 (by decide)]; exact f1)) rfl rfl (Nat.le_of_ble_eq_true rfl) ⟨Nat.le_of_ble_eq_true rfl, Nat.le_of_ble_eq_true rfl⟩ ⟨Nat.le_of_ble_eq_true rfl, Nat.le_of_ble_eq_true rfl⟩ rfl (fun v89 M89 hv89 => ?_)
            obtain ⟨e89, rfl⟩ := hv89
            rw [e89]
            exact S_iret rfl dX10_reset_92 rfl rfl (RSR.to (A := (A.sG (r, c, k, fun _ => 0, fun _ _ => 0, fun _ _ => 0) (fun _ => 2 ^ (k + 1) - 1) []).sB none) (hC.gb (P := (r, c, k, fun _ => 0, fun _ _ => 0, fun _ _ => 0)) (f := fun _ => 2 ^ (k + 1) - 1) (H := []) (b := none) (fun z hz => by rw [up_eq, if_neg (by omega), up_eq, if_neg (by omega), hI.1 140 (by decide), hv51.1 140 (by decide), up_eq, if_neg (by omega), up_eq, if_neg (by omega), up_eq, if_neg (by omega)]) (fun a ha => by rw [up_n (by omega), up_n (by omega), hI.1 a (by omega), hv51.1 a (by omega), up_n (by omega), up_n (by omega), up_n (by omega)]) ⟨by rw [up_eq, if_neg (by decide), up_eq, if_neg (by decide), hI.1 140 (by decide)]; exact f0, by rw [up_eq, if_neg (by decide), up_eq, if_neg (by decide), hI.1 140 (by decide)]; exact f1, by rw [up_eq, if_neg (by decide), up_eq, if_neg (by decide), hI.1 140 (by decide)]; exact f2, fun i hi => ⟨by rw [up_n (by decide), up_n (by decide)]; exact hI.2 i hi, Nat.zero_le _, fun j (hj : j < 0) => absurd hj (Nat.not_lt_zero j)⟩, fun x hx => ⟨(by
              have hx' : x < r * c := hx
              rw [up_n (by decide), up_n (by decide), hI.1 141 (by decide), Nat.zero_add]
              exact hv51.2.2 _ (gx_64 hr8' hc8' hc1' hx').1), (fl_16 hk3').1, (fl_16 hk3').2⟩⟩ (RHs.nil (by rw [up_eq, if_neg (by decide), up_s])) up_s) (fun a ha => by rw [up_n (by omega), up_n (by omega), hI.1 a (by omega), hv51.1 a (by omega), up_n (by omega), up_n (by omega), up_n (by omega)]) (by unfold o_reset; rw [h1]; simp only [h2, h3]; rfl))
          · exact absurd (Int32.le_refl _) hb61
        | succ d ih =>
          intro i M1 hd hi hI
          have hlt : i < 16 := by omega
          refine S_iload_4 (q := 59) dX10_reset_57 rfl ?_
          refine S_bipush (q := 61) (nI 16) dX10_reset_59 (by decide) rfl ?_
          refine S_icmp_ge (t := 78) (q := 64) dX10_reset_61 (by decide) rfl (fun hb61 => ?_) (fun hb61 => ?_)
          · exact absurd hb61 (nI_ge hlt (by omega))
          · refine S_aload_0 (q := 65) dX10_reset_64 rfl ?_
            refine S_getR (q := 68) dX10_reset_65 fl_X10_26 (by first | assumption | rfl) (by rfl) rfl ?_
            refine S_iload_4 (q := 70) dX10_reset_68 rfl ?_
            refine S_iconst (q := 71) (nI 0) dX10_reset_70 (by decide) rfl ?_
            refine S_iastE (i := i) (q := 72) dX10_reset_71 (by first | assumption | rfl) (by first | (simp only [nI_add, pk_mul, nI_1]; done) | rfl) (by omega) (by decide) rfl ?_
            refine S_iinc_4 (q := 75) (nI (i + 1)) dX10_reset_72 (inc1 _) rfl ?_
            refine S_goto (t := 57) dX10_reset_75 (by decide) ?_
            exact ih (i + 1) _ (by omega) hlt ⟨fun a ha => by rw [up_n ha]; exact hI.1 a ha, fun x hx => by
              rw [up_eq]
              by_cases e : x = i
              · rw [if_pos ⟨rfl, e⟩]
              · rw [if_neg (fun y => e y.2)]; exact hI.2 x (by omega)⟩
      · have h3 := iw_no (bI_0.mp hb29)
        refine S_bipush (q := 34) (-2) dX10_reset_32 (by decide) rfl ?_
        exact S_iret rfl dX10_reset_34 rfl rfl (RSR.same hC (by unfold o_reset; rw [h1]; simp only [h2, h3]))
set_option maxHeartbeats 4000000 in
set_option maxRecDepth 100000 in
theorem q_undo1 {l : Launch} {G : Gd} {b0 : Nat} {M : Mem} {Post : PT} {n : Nat} (hn : n < 8) (h8 : M 140 8 = nI n)  (k : ∀ M2, (∀ a, a ≠ 141 → M2 a = M a) ∧ (∀ x, x < 64 → M2 141 (x) = M 145 (64 * n + x)) ∧ (∀ x, 64 ≤ x → M2 141 x = M 141 x) → S l G b0 yX10_undo cX10_undo 2 (some .int) (rmZ 0 0) LAY Post 0 0 0 0 LAY 54 [some (.ref (b0 + 140)), some (.int (nI (64)))] [] M2) : S l G b0 yX10_undo cX10_undo 2 (some .int) (rmZ 0 0) LAY Post 0 0 0 0 LAY 22 [some (.ref (b0 + 140)), some (.int (nI (0)))] [] M := by
  suffices H : ∀ (d : Nat) (i : Nat) (M1 : Mem), 64 - i = d → i ≤ 64 → ((∀ a, a ≠ 141 → M1 a = M a) ∧ (∀ x, x < i → M1 141 (x) = M 145 (64 * n + x)) ∧ (∀ x, i ≤ x → M1 141 x = M 141 x)) → S l G b0 yX10_undo cX10_undo 2 (some .int) (rmZ 0 0) LAY Post 0 0 0 0 LAY 22 [some (.ref (b0 + 140)), some (.int (nI (i)))] [] M1 from H _ 0 _ rfl (by omega) ⟨fun _ _ => rfl, fun x hx => absurd hx (Nat.not_lt_zero x), fun _ _ => rfl⟩
  intro d
  induction d with
  | zero =>
    intro i M1 hd hi hI
    have e : 64 = i := by omega
    subst e
    refine S_iload_1 (q := 23) dX10_undo_22 rfl ?_
    refine S_bipush (q := 25) (nI 64) dX10_undo_23 (by decide) rfl ?_
    refine S_icmp_ge (t := 54) (q := 28) dX10_undo_25 (by decide) rfl (fun hb25 => ?_) (fun hb25 => ?_)
    · exact k M1 hI
    · exact absurd (Int32.le_refl _) hb25
  | succ d ih =>
    intro i M1 hd hi hI
    have hlt : i < 64 := by omega
    refine S_iload_1 (q := 23) dX10_undo_22 rfl ?_
    refine S_bipush (q := 25) (nI 64) dX10_undo_23 (by decide) rfl ?_
    refine S_icmp_ge (t := 54) (q := 28) dX10_undo_25 (by decide) rfl (fun hb25 => ?_) (fun hb25 => ?_)
    · exact absurd hb25 (nI_ge hlt (by omega))
    · refine S_aload_0 (q := 29) dX10_undo_28 rfl ?_
      refine S_getR (q := 32) dX10_undo_29 fl_X10_22 (by first | assumption | rfl) (by rfl) rfl ?_
      refine S_iload_1 (q := 33) dX10_undo_32 rfl ?_
      refine S_aload_0 (q := 34) dX10_undo_33 rfl ?_
      refine S_getR (q := 37) dX10_undo_34 fl_X10_38 (by first | assumption | rfl) (by rfl) rfl ?_
      refine S_bipush (q := 39) (nI 64) dX10_undo_37 (by decide) rfl ?_
      refine S_aload_0 (q := 40) dX10_undo_39 rfl ?_
      refine S_getI (q := 43) dX10_undo_40 fl_X10_35 (by first | assumption | rfl) (by rfl) rfl ?_
      rw [hI.1 140 (by decide), h8]
      refine S_imul (q := 44) dX10_undo_43 rfl ?_
      refine S_iload_1 (q := 45) dX10_undo_44 rfl ?_
      refine S_iadd (q := 46) dX10_undo_45 rfl ?_
      refine S_ialdE (i := 64 * n + i) (q := 47) dX10_undo_46 (by first | assumption | rfl) (by first | (simp only [nI_add, pk_mul, nI_1]; done) | rfl) (by omega) (by decide) rfl ?_
      refine S_iastE (i := i) (q := 48) dX10_undo_47 (by first | assumption | rfl) (by first | (simp only [nI_add, pk_mul, nI_1]; done) | rfl) (by omega) (by decide) rfl ?_
      refine S_iinc_1 (q := 51) (nI (i + 1)) dX10_undo_48 (inc1 _) rfl ?_
      refine S_goto (t := 22) dX10_undo_51 (by decide) ?_
      exact ih (i + 1) _ (by omega) hlt ⟨(fun a h0 => by rw [up_n h0]; exact hI.1 a h0), (fun x hx => by
        rw [up_eq]
        by_cases e : x = i
        · rw [if_pos ⟨rfl, by omega⟩, e]; exact (by exact congrFun (hI.1 145 (by decide)) _)
        · rw [if_neg (by omega)]; exact hI.2.1 x (by omega)), (fun x hx => by
        rw [up_eq, if_neg (by omega)]; exact hI.2.2 x (by omega))⟩
set_option maxHeartbeats 4000000 in
set_option maxRecDepth 100000 in
theorem q_undo2 {l : Launch} {G : Gd} {b0 : Nat} {M : Mem} {Post : PT} {n : Nat} (hn : n < 8) (h8 : M 140 8 = nI n)  (k : ∀ M2, (∀ a, a ≠ 142 → M2 a = M a) ∧ (∀ x, x < 16 → M2 142 (x) = M 146 (16 * n + x)) ∧ (∀ x, 16 ≤ x → M2 142 x = M 142 x) → S l G b0 yX10_undo cX10_undo 2 (some .int) (rmZ 0 0) LAY Post 0 0 0 0 LAY 88 [some (.ref (b0 + 140)), some (.int (nI (16)))] [] M2) : S l G b0 yX10_undo cX10_undo 2 (some .int) (rmZ 0 0) LAY Post 0 0 0 0 LAY 56 [some (.ref (b0 + 140)), some (.int (nI (0)))] [] M := by
  suffices H : ∀ (d : Nat) (i : Nat) (M1 : Mem), 16 - i = d → i ≤ 16 → ((∀ a, a ≠ 142 → M1 a = M a) ∧ (∀ x, x < i → M1 142 (x) = M 146 (16 * n + x)) ∧ (∀ x, i ≤ x → M1 142 x = M 142 x)) → S l G b0 yX10_undo cX10_undo 2 (some .int) (rmZ 0 0) LAY Post 0 0 0 0 LAY 56 [some (.ref (b0 + 140)), some (.int (nI (i)))] [] M1 from H _ 0 _ rfl (by omega) ⟨fun _ _ => rfl, fun x hx => absurd hx (Nat.not_lt_zero x), fun _ _ => rfl⟩
  intro d
  induction d with
  | zero =>
    intro i M1 hd hi hI
    have e : 16 = i := by omega
    subst e
    refine S_iload_1 (q := 57) dX10_undo_56 rfl ?_
    refine S_bipush (q := 59) (nI 16) dX10_undo_57 (by decide) rfl ?_
    refine S_icmp_ge (t := 88) (q := 62) dX10_undo_59 (by decide) rfl (fun hb59 => ?_) (fun hb59 => ?_)
    · exact k M1 hI
    · exact absurd (Int32.le_refl _) hb59
  | succ d ih =>
    intro i M1 hd hi hI
    have hlt : i < 16 := by omega
    refine S_iload_1 (q := 57) dX10_undo_56 rfl ?_
    refine S_bipush (q := 59) (nI 16) dX10_undo_57 (by decide) rfl ?_
    refine S_icmp_ge (t := 88) (q := 62) dX10_undo_59 (by decide) rfl (fun hb59 => ?_) (fun hb59 => ?_)
    · exact absurd hb59 (nI_ge hlt (by omega))
    · refine S_aload_0 (q := 63) dX10_undo_62 rfl ?_
      refine S_getR (q := 66) dX10_undo_63 fl_X10_26 (by first | assumption | rfl) (by rfl) rfl ?_
      refine S_iload_1 (q := 67) dX10_undo_66 rfl ?_
      refine S_aload_0 (q := 68) dX10_undo_67 rfl ?_
      refine S_getR (q := 71) dX10_undo_68 fl_X10_41 (by first | assumption | rfl) (by rfl) rfl ?_
      refine S_bipush (q := 73) (nI 16) dX10_undo_71 (by decide) rfl ?_
      refine S_aload_0 (q := 74) dX10_undo_73 rfl ?_
      refine S_getI (q := 77) dX10_undo_74 fl_X10_35 (by first | assumption | rfl) (by rfl) rfl ?_
      rw [hI.1 140 (by decide), h8]
      refine S_imul (q := 78) dX10_undo_77 rfl ?_
      refine S_iload_1 (q := 79) dX10_undo_78 rfl ?_
      refine S_iadd (q := 80) dX10_undo_79 rfl ?_
      refine S_ialdE (i := 16 * n + i) (q := 81) dX10_undo_80 (by first | assumption | rfl) (by first | (simp only [nI_add, pk_mul, nI_1]; done) | rfl) (by omega) (by decide) rfl ?_
      refine S_iastE (i := i) (q := 82) dX10_undo_81 (by first | assumption | rfl) (by first | (simp only [nI_add, pk_mul, nI_1]; done) | rfl) (by omega) (by decide) rfl ?_
      refine S_iinc_1 (q := 85) (nI (i + 1)) dX10_undo_82 (inc1 _) rfl ?_
      refine S_goto (t := 56) dX10_undo_85 (by decide) ?_
      exact ih (i + 1) _ (by omega) hlt ⟨(fun a h0 => by rw [up_n h0]; exact hI.1 a h0), (fun x hx => by
        rw [up_eq]
        by_cases e : x = i
        · rw [if_pos ⟨rfl, by omega⟩, e]; exact (by exact congrFun (hI.1 146 (by decide)) _)
        · rw [if_neg (by omega)]; exact hI.2.1 x (by omega)), (fun x hx => by
        rw [up_eq, if_neg (by omega)]; exact hI.2.2 x (by omega))⟩
set_option maxHeartbeats 4000000 in
set_option maxRecDepth 100000 in
theorem q_undo3 {l : Launch} {G : Gd} {b0 : Nat} {M : Mem} {Post : PT} {n : Nat} (hn : n < 8) (h8 : M 140 8 = nI n)  (k : ∀ M2, (∀ a, a ≠ 143 → a ≠ 144 → M2 a = M a) ∧ (∀ x, x < 128 → M2 143 (x) = M 147 (128 * n + x)) ∧ (∀ x, 128 ≤ x → M2 143 x = M 143 x) ∧ (∀ x, x < 128 → M2 144 (x) = M 148 (128 * n + x)) ∧ (∀ x, 128 ≤ x → M2 144 x = M 144 x) → S l G b0 yX10_undo cX10_undo 2 (some .int) (rmZ 0 0) LAY Post 0 0 0 0 LAY 145 [some (.ref (b0 + 140)), some (.int (nI (128)))] [] M2) : S l G b0 yX10_undo cX10_undo 2 (some .int) (rmZ 0 0) LAY Post 0 0 0 0 LAY 90 [some (.ref (b0 + 140)), some (.int (nI (0)))] [] M := by
  suffices H : ∀ (d : Nat) (i : Nat) (M1 : Mem), 128 - i = d → i ≤ 128 → ((∀ a, a ≠ 143 → a ≠ 144 → M1 a = M a) ∧ (∀ x, x < i → M1 143 (x) = M 147 (128 * n + x)) ∧ (∀ x, i ≤ x → M1 143 x = M 143 x) ∧ (∀ x, x < i → M1 144 (x) = M 148 (128 * n + x)) ∧ (∀ x, i ≤ x → M1 144 x = M 144 x)) → S l G b0 yX10_undo cX10_undo 2 (some .int) (rmZ 0 0) LAY Post 0 0 0 0 LAY 90 [some (.ref (b0 + 140)), some (.int (nI (i)))] [] M1 from H _ 0 _ rfl (by omega) ⟨fun _ _ _ => rfl, fun x hx => absurd hx (Nat.not_lt_zero x), fun _ _ => rfl, fun x hx => absurd hx (Nat.not_lt_zero x), fun _ _ => rfl⟩
  intro d
  induction d with
  | zero =>
    intro i M1 hd hi hI
    have e : 128 = i := by omega
    subst e
    refine S_iload_1 (q := 91) dX10_undo_90 rfl ?_
    refine S_sipush (q := 94) (nI 128) dX10_undo_91 (by decide) rfl ?_
    refine S_icmp_ge (t := 145) (q := 97) dX10_undo_94 (by decide) rfl (fun hb94 => ?_) (fun hb94 => ?_)
    · exact k M1 hI
    · exact absurd (Int32.le_refl _) hb94
  | succ d ih =>
    intro i M1 hd hi hI
    have hlt : i < 128 := by omega
    refine S_iload_1 (q := 91) dX10_undo_90 rfl ?_
    refine S_sipush (q := 94) (nI 128) dX10_undo_91 (by decide) rfl ?_
    refine S_icmp_ge (t := 145) (q := 97) dX10_undo_94 (by decide) rfl (fun hb94 => ?_) (fun hb94 => ?_)
    · exact absurd hb94 (nI_ge hlt (by omega))
    · refine S_aload_0 (q := 98) dX10_undo_97 rfl ?_
      refine S_getR (q := 101) dX10_undo_98 fl_X10_29 (by first | assumption | rfl) (by rfl) rfl ?_
      refine S_iload_1 (q := 102) dX10_undo_101 rfl ?_
      refine S_aload_0 (q := 103) dX10_undo_102 rfl ?_
      refine S_getR (q := 106) dX10_undo_103 fl_X10_44 (by first | assumption | rfl) (by rfl) rfl ?_
      refine S_sipush (q := 109) (nI 128) dX10_undo_106 (by decide) rfl ?_
      refine S_aload_0 (q := 110) dX10_undo_109 rfl ?_
      refine S_getI (q := 113) dX10_undo_110 fl_X10_35 (by first | assumption | rfl) (by rfl) rfl ?_
      rw [hI.1 140 (by decide) (by decide), h8]
      refine S_imul (q := 114) dX10_undo_113 rfl ?_
      refine S_iload_1 (q := 115) dX10_undo_114 rfl ?_
      refine S_iadd (q := 116) dX10_undo_115 rfl ?_
      refine S_ialdE (i := 128 * n + i) (q := 117) dX10_undo_116 (by first | assumption | rfl) (by first | (simp only [nI_add, pk_mul, nI_1]; done) | rfl) (by omega) (by decide) rfl ?_
      refine S_iastE (i := i) (q := 118) dX10_undo_117 (by first | assumption | rfl) (by first | (simp only [nI_add, pk_mul, nI_1]; done) | rfl) (by omega) (by decide) rfl ?_
      refine S_aload_0 (q := 119) dX10_undo_118 rfl ?_
      refine S_getR (q := 122) dX10_undo_119 fl_X10_32 (by first | assumption | rfl) (by rfl) rfl ?_
      refine S_iload_1 (q := 123) dX10_undo_122 rfl ?_
      refine S_aload_0 (q := 124) dX10_undo_123 rfl ?_
      refine S_getR (q := 127) dX10_undo_124 fl_X10_47 (by first | assumption | rfl) (by rfl) rfl ?_
      refine S_sipush (q := 130) (nI 128) dX10_undo_127 (by decide) rfl ?_
      refine S_aload_0 (q := 131) dX10_undo_130 rfl ?_
      refine S_getI (q := 134) dX10_undo_131 fl_X10_35 (by first | assumption | rfl) (by rfl) rfl ?_
      rw [up_n (by decide), hI.1 140 (by decide) (by decide), h8]
      refine S_imul (q := 135) dX10_undo_134 rfl ?_
      refine S_iload_1 (q := 136) dX10_undo_135 rfl ?_
      refine S_iadd (q := 137) dX10_undo_136 rfl ?_
      refine S_ialdE (i := 128 * n + i) (q := 138) dX10_undo_137 (by first | assumption | rfl) (by first | (simp only [nI_add, pk_mul, nI_1]; done) | rfl) (by omega) (by decide) rfl ?_
      refine S_iastE (i := i) (q := 139) dX10_undo_138 (by first | assumption | rfl) (by first | (simp only [nI_add, pk_mul, nI_1]; done) | rfl) (by omega) (by decide) rfl ?_
      refine S_iinc_1 (q := 142) (nI (i + 1)) dX10_undo_139 (inc1 _) rfl ?_
      refine S_goto (t := 90) dX10_undo_142 (by decide) ?_
      exact ih (i + 1) _ (by omega) hlt ⟨(fun a h0 h1 => by rw [up_n h1, up_n h0]; exact hI.1 a h0 h1), (fun x hx => by
        rw [up_n (by decide), up_eq]
        by_cases e : x = i
        · rw [if_pos ⟨rfl, by omega⟩, e]; exact (by exact congrFun (hI.1 147 (by decide) (by decide)) _)
        · rw [if_neg (by omega)]; exact hI.2.1 x (by omega)), (fun x hx => by
        rw [up_n (by decide), up_eq, if_neg (by omega)]; exact hI.2.2.1 x (by omega)), (fun x hx => by
        rw [up_eq]
        by_cases e : x = i
        · rw [if_pos ⟨rfl, by omega⟩, e]; exact (by rw [up_n (by decide)]; exact congrFun (hI.1 148 (by decide) (by decide)) _)
        · rw [if_neg (by omega), up_n (by decide)]; exact hI.2.2.2.1 x (by omega)), (fun x hx => by
        rw [up_eq, if_neg (by omega), up_n (by decide)]; exact hI.2.2.2.2 x (by omega))⟩
set_option maxHeartbeats 4000000 in
set_option maxRecDepth 100000 in
theorem k_X10_undo {l : Launch} {G : Gd} {b0 : Nat} {M : Mem} {A : Ab}  (hC : RR M A) (hk : A.ok)  : Ct l G b0 yX10_undo cX10_undo 2 (some .int) (rmZ 0 0) LAY LAY M [.ref (b0 + 140)] (fun v M' => RSR M (o_undo A) v M') := by
  obtain ⟨⟨g0, g1, g2, gcu, gce⟩, hru, hhi, hbad, hask, htx, hfo, hsn, htb⟩ := id hC
  have hP := hk.P
  have hr1 := hP.r1
  have hr8 := hP.r8
  have hc1 := hP.c1
  have hc8 := hP.c8
  have hk1 := hP.k1
  have hk3 := hP.k3
  have h64 := rc64 hr8 hc8
  have hH8 := hk.H8
  have hN : A.N = A.P.r + A.P.c := rfl
  refine Ct.of [some (.ref (b0 + 140)), none] (by decide) (Nat.le_of_ble_eq_true rfl) rfl rfl ?_
  refine S_aload_0 (q := 1) dX10_undo_0 rfl ?_
  refine S_getI (q := 4) dX10_undo_1 fl_X10_35 (by first | assumption | rfl) (by rfl) rfl ?_
  rw [hhi.1]
  refine S_if_ne (t := 10) (q := 7) dX10_undo_4 (by decide) rfl (fun hb4 => ?_) (fun hb4 => ?_)
  · have hn0 : A.H.length ≠ 0 := fun e => hb4 (by rw [e]; rfl)
    obtain ⟨e, t, hH⟩ : ∃ e t, A.H = e :: t := List.exists_cons_of_length_pos (by omega)
    have hge := hk.H e (by rw [hH]; exact List.mem_cons_self)
    have hl : A.H.length = t.length + 1 := by rw [hH]; rfl
    have hk0 := hhi.2 0 e (by rw [hH]; rfl)
    rw [hl] at hk0
    refine S_aload_0 (q := 11) dX10_undo_10 rfl ?_
    refine S_dup (q := 12) dX10_undo_11 rfl rfl ?_
    refine S_getI (q := 15) dX10_undo_12 fl_X10_35 (by first | assumption | rfl) (by rfl) rfl ?_
    rw [hhi.1]
    refine S_iconst (q := 16) (nI 1) dX10_undo_15 (by decide) rfl ?_
    refine S_isub (q := 17) dX10_undo_16 rfl ?_
    rw [hl, pk_sub (show 1 ≤ t.length + 1 by omega), show t.length + 1 - 1 = t.length from rfl]
    refine S_putI (q := 20) dX10_undo_17 fp_X10_35 (by first | assumption | rfl) (by rfl) rfl (by rfl) rfl ?_
    refine S_iconst (q := 21) (nI 0) dX10_undo_20 (by decide) rfl ?_
    refine S_istore_1 (q := 22) dX10_undo_21 rfl ?_
    refine q_undo1 (n := t.length) (by omega) up_s (fun Ma ha => ?_)
    refine S_iconst (q := 55) (nI 0) dX10_undo_54 (by decide) rfl ?_
    refine S_istore_1 (q := 56) dX10_undo_55 rfl ?_
    refine q_undo2 (n := t.length) (by omega) (by rw [ha.1 140 (by decide)]; exact up_s) (fun Mb hb => ?_)
    refine S_iconst (q := 89) (nI 0) dX10_undo_88 (by decide) rfl ?_
    refine S_istore_1 (q := 90) dX10_undo_89 rfl ?_
    refine q_undo3 (n := t.length) (by omega) (by rw [hb.1 140 (by decide), ha.1 140 (by decide)]; exact up_s) (fun Mc hc => ?_)
    refine S_aload_0 (q := 146) dX10_undo_145 rfl ?_
    refine S_getI (q := 149) dX10_undo_146 fl_X10_35 (by first | assumption | rfl) (by rfl) rfl ?_
    exact S_iret rfl dX10_undo_149 rfl rfl (RSR.to (A := A.sG (hPx A.P e) (hF e) t) (hC.grid (fun k hk2 => by rw [hc.1 140 (by decide) (by decide), hb.1 140 (by decide), ha.1 140 (by decide), up_eq, if_neg (by omega)]) (fun a ha2 => by rw [hc.1 a (by omega) (by omega), hb.1 a (by omega), ha.1 a (by omega), up_n (by omega)]) ⟨by rw [hc.1 140 (by decide) (by decide), hb.1 140 (by decide), ha.1 140 (by decide), up_eq, if_neg (by decide)]; exact g0, by rw [hc.1 140 (by decide) (by decide), hb.1 140 (by decide), ha.1 140 (by decide), up_eq, if_neg (by decide)]; exact g1, by rw [hc.1 140 (by decide) (by decide), hb.1 140 (by decide), ha.1 140 (by decide), up_eq, if_neg (by decide)]; exact g2, fun i hi => ⟨(by rw [hc.1 142 (by decide) (by decide), hb.2.1 i hi, ha.1 146 (by decide), up_n (by decide)]; exact hk0.2.1 i hi), (hge.1.cl i).1, fun j hj => (by
        have hR : (hPx A.P e).R i ≤ 8 := (hge.1.cl i).1
        have hj' : j < (hPx A.P e).R i := hj
        have h1 := hk0.2.2 i hi j hj
        have h2 := (hge.1.cl i).2 j hj
        refine ⟨?_, h2.1, h2.2.1, ?_, h2.2.2.1, h2.2.2.2⟩
        · rw [hc.2.1 (i * 8 + j) (by omega), hb.1 147 (by decide), ha.1 147 (by decide), up_n (by decide)]; exact h1.1
        · rw [hc.2.2.2.1 (i * 8 + j) (by omega), hb.1 148 (by decide), ha.1 148 (by decide), up_n (by decide)]; exact h1.2)⟩, fun x hx => ⟨(by
        rw [hc.1 141 (by decide) (by decide), hb.1 141 (by decide), Nat.zero_add, ha.2.1 _ (gx_64 hge.1.r8 hge.1.c8 hge.1.c1 hx).1, up_n (by decide)]; exact hk0.1 x hx), hge.2.1 x hx⟩⟩ ⟨by rw [hc.1 140 (by decide) (by decide), hb.1 140 (by decide), ha.1 140 (by decide), up_s], fun s e' he' => (by
        have hs7 : s < t.length := (List.getElem?_eq_some_iff.mp he').1
        have := hhi.2 (s + 1) e' (by rw [hH]; exact he')
        rw [hl, show t.length + 1 - 1 - (s + 1) = t.length - 1 - s by omega] at this
        exact this.seq (hk.H e' (by rw [hH]; exact List.mem_cons_of_mem _ (List.mem_of_getElem? he'))).1 (SEQ.same (fun a a1 a2 => by rw [hc.1 a (by omega) (by omega), hb.1 a (by omega), ha.1 a (by omega), up_n (by omega)])))⟩) (fun a ha2 => by rw [hc.1 a (by omega) (by omega), hb.1 a (by omega), ha.1 a (by omega), up_n (by omega)]) (by unfold o_undo; rw [hH]; simp only; rw [hc.1 140 (by decide) (by decide), hb.1 140 (by decide), ha.1 140 (by decide), up_s]))
  · have hn0 : A.H.length = 0 := nI_inj (by omega) (by decide) hb4
    have hH : A.H = [] := List.length_eq_zero_iff.mp hn0
    refine S_bipush (q := 9) (-8) dX10_undo_7 (by decide) rfl ?_
    exact S_iret rfl dX10_undo_9 rfl rfl (RSR.same hC (by unfold o_undo; rw [hH]))
/-- the cells that a clue needs, as the reference counts them -/
def mnR (len col : Nat → Nat) (n : Nat) : Nat := sm (fun t => len t + (if 0 < t ∧ col t = col (t - 1) then 1 else 0)) n
theorem mn_nd {R : Nat} {len col : Nat → Nat} : ∀ n, n + 1 ≤ R → ndL R len col (n + 1) = mnR len col (n + 1) + (if gp R col n = true then 1 else 0)
  | 0, _ => by
    show 0 + (len 0 + (if gp R col 0 = true then 1 else 0)) = 0 + (len 0 + (if 0 < 0 ∧ col 0 = col (0 - 1) then 1 else 0)) + (if gp R col 0 = true then 1 else 0)
    rw [if_neg (show ¬ (0 < 0 ∧ col 0 = col (0 - 1)) from fun y => absurd y.1 (Nat.lt_irrefl 0))]; omega
  | n + 1, h => by
    have ih := mn_nd (R := R) (len := len) (col := col) n (by omega)
    have e1 : ndL R len col (n + 1 + 1) = ndL R len col (n + 1) + (len (n + 1) + (if gp R col (n + 1) = true then 1 else 0)) := rfl
    have e2 : mnR len col (n + 1 + 1) = mnR len col (n + 1) + (len (n + 1) + (if 0 < n + 1 ∧ col (n + 1) = col (n + 1 - 1) then 1 else 0)) := rfl
    have e3 : (if gp R col n = true then 1 else 0) = (if 0 < n + 1 ∧ col (n + 1) = col (n + 1 - 1) then 1 else 0) := by
      by_cases c : col n = col (n + 1)
      · have g1 : gp R col n = true := decide_eq_true ⟨by omega, c⟩
        rw [if_pos g1, if_pos ⟨by omega, c.symm⟩]
      · have g1 : ¬ gp R col n = true := fun y => c (of_decide_eq_true y).2
        rw [if_neg g1, if_neg (fun y => c y.2.symm)]
    rw [e1, e2, ih, e3]; omega
theorem mn_all {R : Nat} {len col : Nat → Nat} : ndL R len col R = mnR len col R := by
  cases R with
  | zero => rfl
  | succ R =>
    have g1 : ¬ gp (R + 1) col R = true := fun y => absurd (of_decide_eq_true y).1 (Nat.lt_irrefl _)
    rw [mn_nd R (Nat.le_refl _), if_neg g1]; rfl
set_option maxHeartbeats 4000000 in
set_option maxRecDepth 100000 in
theorem k_X10_minimumLength {l : Launch} {G : Gd} {b0 : Nat} {M : Mem} {A : Ab} {x : Int32}  (hC : RR M A) (hk : A.ok)  : Ct l G b0 yX10_minimumLength cX10_minimumLength 4 (some .int) (rmZ 2 44) LAY LAY M [.ref (b0 + 140), .int x] (fun v M' => RSR M (o_min A x) v M') := by
  obtain ⟨⟨g0, g1, g2, gcu, gce⟩, hru, hhi, hbad, hask, htx, hfo, hsn, htb⟩ := id hC
  have hP := hk.P
  have hr1 := hP.r1
  have hr8 := hP.r8
  have hc1 := hP.c1
  have hc8 := hP.c8
  have hk1 := hP.k1
  have hk3 := hP.k3
  have h64 := rc64 hr8 hc8
  have hH8 := hk.H8
  have hN : A.N = A.P.r + A.P.c := rfl
  refine Ct.of [some (.ref (b0 + 140)), some (.int x), none, none] (by decide) (Nat.le_of_ble_eq_true rfl) rfl rfl ?_
  refine S_aload_0 (q := 1) dX10_minimumLength_0 rfl ?_
  refine S_iload_1 (q := 2) dX10_minimumLength_1 rfl ?_
  refine S_callV1i (q := 5) dX10_minimumLength_2 lk_X10_180 (by first | assumption | rfl) rfl rfl (k_X10_isLine g0 g1 hr8 hc8 hr1 hc1) rfl rfl (Nat.le_of_ble_eq_true rfl) ⟨Nat.le_of_ble_eq_true rfl, Nat.le_of_ble_eq_true rfl⟩ ⟨Nat.le_of_ble_eq_true rfl, Nat.le_of_ble_eq_true rfl⟩ rfl (fun v2 M2 hv2 => ?_)
  obtain ⟨e2, rfl⟩ := hv2
  rw [e2]
  refine S_if_ne (t := 10) (q := 8) dX10_minimumLength_5 (by decide) rfl (fun hb5 => ?_) (fun hb5 => ?_)
  · obtain ⟨i0, hi0, rfl, hl⟩ := ln_ok (A := A) hP (bI_n.mp hb5)
    have hi16 : i0 < 16 := by omega
    have hR8 := (gcu i0 hi16).2.1
    refine S_iconst (q := 11) (nI 0) dX10_minimumLength_10 (by decide) rfl ?_
    refine S_istore_2 (q := 12) dX10_minimumLength_11 rfl ?_
    refine S_iconst (q := 13) (nI 0) dX10_minimumLength_12 (by decide) rfl ?_
    refine S_istore_3 (q := 14) dX10_minimumLength_13 rfl ?_
    suffices H : ∀ (d : Nat) (i : Nat), (A.P.R i0) - i = d → i ≤ (A.P.R i0) → S l G b0 yX10_minimumLength cX10_minimumLength 4 (some .int) (rmZ 2 44) LAY (fun v M' => RSR M (o_min A (nI i0)) v M') 0 0 0 0 LAY 14 [some (.ref (b0 + 140)), some (.int (nI i0)), some (.int (nI (mnR (A.P.len i0) (A.P.col i0) (i)))), some (.int (nI (i)))] [] M from H _ 0 rfl (by omega)
    intro d
    induction d with
    | zero =>
      intro i hd hi
      have e : (A.P.R i0) = i := by omega
      subst e
      refine S_iload_3 (q := 15) dX10_minimumLength_14 rfl ?_
      refine S_aload_0 (q := 16) dX10_minimumLength_15 rfl ?_
      refine S_getR (q := 19) dX10_minimumLength_16 fl_X10_26 (by first | assumption | rfl) (by rfl) rfl ?_
      refine S_iload_1 (q := 20) dX10_minimumLength_19 rfl ?_
      refine S_ialdV (i := i0) (val := nI (A.P.R i0)) (q := 21) dX10_minimumLength_20 (by first | assumption | rfl) (by first | (simp only [nI_add, pk_mul, nI_1]; done) | rfl) (by omega) (by decide) (gcu i0 hi16).1 rfl ?_
      refine S_icmp_ge (t := 81) (q := 24) dX10_minimumLength_21 (by decide) rfl (fun hb21 => ?_) (fun hb21 => ?_)
      · refine S_iload_2 (q := 82) dX10_minimumLength_81 rfl ?_
        exact S_iret rfl dX10_minimumLength_82 rfl rfl (RSR.same hC (by unfold o_min; rw [hl]; simp only; rw [mn_all]))
      · exact absurd (Int32.le_refl _) hb21
    | succ d ih =>
      intro i hd hi
      have hlt : i < (A.P.R i0) := by omega
      have hcu := (gcu i0 hi16).2.2 i hlt
      refine S_iload_3 (q := 15) dX10_minimumLength_14 rfl ?_
      refine S_aload_0 (q := 16) dX10_minimumLength_15 rfl ?_
      refine S_getR (q := 19) dX10_minimumLength_16 fl_X10_26 (by first | assumption | rfl) (by rfl) rfl ?_
      refine S_iload_1 (q := 20) dX10_minimumLength_19 rfl ?_
      refine S_ialdV (i := i0) (val := nI (A.P.R i0)) (q := 21) dX10_minimumLength_20 (by first | assumption | rfl) (by first | (simp only [nI_add, pk_mul, nI_1]; done) | rfl) (by omega) (by decide) (gcu i0 hi16).1 rfl ?_
      refine S_icmp_ge (t := 81) (q := 24) dX10_minimumLength_21 (by decide) rfl (fun hb21 => ?_) (fun hb21 => ?_)
      · exact absurd hb21 (nI_ge hlt (by omega))
      · refine S_iload_2 (q := 25) dX10_minimumLength_24 rfl ?_
        refine S_aload_0 (q := 26) dX10_minimumLength_25 rfl ?_
        refine S_getR (q := 29) dX10_minimumLength_26 fl_X10_29 (by first | assumption | rfl) (by rfl) rfl ?_
        refine S_bipush (q := 31) (nI 8) dX10_minimumLength_29 (by decide) rfl ?_
        refine S_iload_1 (q := 32) dX10_minimumLength_31 rfl ?_
        refine S_imul (q := 33) dX10_minimumLength_32 rfl ?_
        refine S_iload_3 (q := 34) dX10_minimumLength_33 rfl ?_
        refine S_iadd (q := 35) dX10_minimumLength_34 rfl ?_
        refine S_ialdV (i := i0 * 8 + i) (val := nI (A.P.len i0 i)) (q := 36) dX10_minimumLength_35 (by first | assumption | rfl) (by rw [pk_mul, nI_add]; exact congrArg nI (by omega)) (by omega) (by decide) hcu.1 rfl ?_
        refine S_iload_3 (q := 37) dX10_minimumLength_36 rfl ?_
        refine S_if_le (t := 71) (q := 40) dX10_minimumLength_37 (by decide) rfl (fun hb37 => ?_) (fun hb37 => ?_)
        · have h0 : ¬ 0 < i := fun y => absurd ((nI_leI (b := 0) (by omega) (by decide)).mp hb37) (by omega)
          have es : mnR (A.P.len i0) (A.P.col i0) (i + 1) = mnR (A.P.len i0) (A.P.col i0) i + (A.P.len i0 i + 0) := by show _ + (_ + (if _ then _ else _)) = _; rw [if_neg (fun y => h0 y.1)]; rfl
          refine S_iconst (q := 72) (nI 0) dX10_minimumLength_71 (by decide) rfl ?_
          refine S_iadd (q := 73) dX10_minimumLength_72 rfl ?_
          refine S_iadd (q := 74) dX10_minimumLength_73 rfl ?_
          rw [nI_add, nI_add, ← es]
          refine S_istore_2 (q := 75) dX10_minimumLength_74 rfl ?_
          refine S_iinc_3 (q := 78) (nI (i + 1)) dX10_minimumLength_75 (inc1 _) rfl ?_
          refine S_goto (t := 14) dX10_minimumLength_78 (by decide) ?_
          exact ih (i + 1) (by omega) hlt
        · have h0 : 0 < i := Nat.lt_of_not_le (fun y => hb37 ((nI_leI (b := 0) (by omega) (by decide)).mpr y))
          have hcu2 := (gcu i0 hi16).2.2 (i - 1) (by omega)
          refine S_aload_0 (q := 41) dX10_minimumLength_40 rfl ?_
          refine S_getR (q := 44) dX10_minimumLength_41 fl_X10_32 (by first | assumption | rfl) (by rfl) rfl ?_
          refine S_bipush (q := 46) (nI 8) dX10_minimumLength_44 (by decide) rfl ?_
          refine S_iload_1 (q := 47) dX10_minimumLength_46 rfl ?_
          refine S_imul (q := 48) dX10_minimumLength_47 rfl ?_
          refine S_iload_3 (q := 49) dX10_minimumLength_48 rfl ?_
          refine S_iadd (q := 50) dX10_minimumLength_49 rfl ?_
          refine S_ialdV (i := i0 * 8 + i) (val := nI (A.P.col i0 i)) (q := 51) dX10_minimumLength_50 (by first | assumption | rfl) (by rw [pk_mul, nI_add]; exact congrArg nI (by omega)) (by omega) (by decide) hcu.2.2.2.1 rfl ?_
          refine S_aload_0 (q := 52) dX10_minimumLength_51 rfl ?_
          refine S_getR (q := 55) dX10_minimumLength_52 fl_X10_32 (by first | assumption | rfl) (by rfl) rfl ?_
          refine S_bipush (q := 57) (nI 8) dX10_minimumLength_55 (by decide) rfl ?_
          refine S_iload_1 (q := 58) dX10_minimumLength_57 rfl ?_
          refine S_imul (q := 59) dX10_minimumLength_58 rfl ?_
          refine S_iload_3 (q := 60) dX10_minimumLength_59 rfl ?_
          refine S_iadd (q := 61) dX10_minimumLength_60 rfl ?_
          refine S_iconst (q := 62) (nI 1) dX10_minimumLength_61 (by decide) rfl ?_
          refine S_isub (q := 63) dX10_minimumLength_62 rfl ?_
          refine S_ialdV (i := i0 * 8 + (i - 1)) (val := nI (A.P.col i0 (i - 1))) (q := 64) dX10_minimumLength_63 (by first | assumption | rfl) (by rw [pk_mul, nI_add, pk_sub (by omega)]; exact congrArg nI (by omega)) (by omega) (by decide) hcu2.2.2.2.1 rfl ?_
          refine S_icmp_ne (t := 71) (q := 67) dX10_minimumLength_64 (by decide) rfl (fun hb64 => ?_) (fun hb64 => ?_)
          · have hne : ¬ A.P.col i0 i = A.P.col i0 (i - 1) := fun e => hb64 (by rw [e])
            have es : mnR (A.P.len i0) (A.P.col i0) (i + 1) = mnR (A.P.len i0) (A.P.col i0) i + (A.P.len i0 i + 0) := by show _ + (_ + (if _ then _ else _)) = _; rw [if_neg (fun y => hne y.2)]; rfl
            refine S_iconst (q := 72) (nI 0) dX10_minimumLength_71 (by decide) rfl ?_
            refine S_iadd (q := 73) dX10_minimumLength_72 rfl ?_
            refine S_iadd (q := 74) dX10_minimumLength_73 rfl ?_
            rw [nI_add, nI_add, ← es]
            refine S_istore_2 (q := 75) dX10_minimumLength_74 rfl ?_
            refine S_iinc_3 (q := 78) (nI (i + 1)) dX10_minimumLength_75 (inc1 _) rfl ?_
            refine S_goto (t := 14) dX10_minimumLength_78 (by decide) ?_
            exact ih (i + 1) (by omega) hlt
          · have heq : A.P.col i0 i = A.P.col i0 (i - 1) := nI_inj (by omega) (by omega) hb64
            have es : mnR (A.P.len i0) (A.P.col i0) (i + 1) = mnR (A.P.len i0) (A.P.col i0) i + (A.P.len i0 i + 1) := by show _ + (_ + (if _ then _ else _)) = _; rw [if_pos ⟨h0, heq⟩]; rfl
            refine S_iconst (q := 68) (nI 1) dX10_minimumLength_67 (by decide) rfl ?_
            refine S_goto (t := 72) dX10_minimumLength_68 (by decide) ?_
            refine S_iadd (q := 73) dX10_minimumLength_72 rfl ?_
            refine S_iadd (q := 74) dX10_minimumLength_73 rfl ?_
            rw [nI_add, nI_add, ← es]
            refine S_istore_2 (q := 75) dX10_minimumLength_74 rfl ?_
            refine S_iinc_3 (q := 78) (nI (i + 1)) dX10_minimumLength_75 (inc1 _) rfl ?_
            refine S_goto (t := 14) dX10_minimumLength_78 (by decide) ?_
            exact ih (i + 1) (by omega) hlt
  · have hl := ln_no (A := A) (bI_0.mp hb5)
    refine S_iconst (q := 9) (-1) dX10_minimumLength_8 (by decide) rfl ?_
    exact S_iret rfl dX10_minimumLength_9 rfl rfl (RSR.same hC (by unfold o_min; rw [hl]))
set_option maxHeartbeats 4000000 in
set_option maxRecDepth 100000 in
theorem k_X10_averageCandidates {l : Launch} {G : Gd} {b0 : Nat} {M : Mem} {A : Ab} {x : Int32}  (hC : RR M A) (hk : A.ok)  : Ct l G b0 yX10_averageCandidates cX10_averageCandidates 6 (some .int) (rmZ 2 44) LAY LAY M [.ref (b0 + 140), .int x] (fun v M' => RSR M (o_avg A x) v M') := by
  obtain ⟨⟨g0, g1, g2, gcu, gce⟩, hru, hhi, hbad, hask, htx, hfo, hsn, htb⟩ := id hC
  have hP := hk.P
  have hr1 := hP.r1
  have hr8 := hP.r8
  have hc1 := hP.c1
  have hc8 := hP.c8
  have hk1 := hP.k1
  have hk3 := hP.k3
  have h64 := rc64 hr8 hc8
  have hH8 := hk.H8
  have hN : A.N = A.P.r + A.P.c := rfl
  refine Ct.of [some (.ref (b0 + 140)), some (.int x), none, none, none, none] (by decide) (Nat.le_of_ble_eq_true rfl) rfl rfl ?_
  refine S_aload_0 (q := 1) dX10_averageCandidates_0 rfl ?_
  refine S_iload_1 (q := 2) dX10_averageCandidates_1 rfl ?_
  refine S_callV1i (q := 5) dX10_averageCandidates_2 lk_X10_180 (by first | assumption | rfl) rfl rfl (k_X10_isLine g0 g1 hr8 hc8 hr1 hc1) rfl rfl (Nat.le_of_ble_eq_true rfl) ⟨Nat.le_of_ble_eq_true rfl, Nat.le_of_ble_eq_true rfl⟩ ⟨Nat.le_of_ble_eq_true rfl, Nat.le_of_ble_eq_true rfl⟩ rfl (fun v2 M2 hv2 => ?_)
  obtain ⟨e2, rfl⟩ := hv2
  rw [e2]
  refine S_if_ne (t := 10) (q := 8) dX10_averageCandidates_5 (by decide) rfl (fun hb5 => ?_) (fun hb5 => ?_)
  · obtain ⟨i0, hi0, rfl, hl⟩ := ln_ok (A := A) hP (bI_n.mp hb5)
    have hi16 : i0 < 16 := by omega
    have hl8 := lnLen_le (i := i0) hr8 hc8
    refine S_iconst (q := 11) (nI 0) dX10_averageCandidates_10 (by decide) rfl ?_
    refine S_istore_2 (q := 12) dX10_averageCandidates_11 rfl ?_
    refine S_iconst (q := 13) (nI 0) dX10_averageCandidates_12 (by decide) rfl ?_
    refine S_istore_3 (q := 14) dX10_averageCandidates_13 rfl ?_
    refine S_iconst (q := 15) (nI 0) dX10_averageCandidates_14 (by decide) rfl ?_
    refine S_istore_4 (q := 17) dX10_averageCandidates_15 rfl ?_
    suffices H : ∀ (d : Nat) (i : Nat), (lnLen A.P.r A.P.c i0) - i = d → i ≤ (lnLen A.P.r A.P.c i0) → S l G b0 yX10_averageCandidates cX10_averageCandidates 6 (some .int) (rmZ 2 44) LAY (fun v M' => RSR M (o_avg A (nI i0)) v M') 0 0 0 0 LAY 17 [some (.ref (b0 + 140)), some (.int (nI i0)), some (.int (nI (unL A.P A.f i0 (i)))), some (.int (nI (unS A.P A.f i0 (i)))), some (.int (nI (i))), none] [] M from H _ 0 rfl (by omega)
    intro d
    induction d with
    | zero =>
      intro i hd hi
      have e : (lnLen A.P.r A.P.c i0) = i := by omega
      subst e
      have hu8 : unL A.P A.f i0 (lnLen A.P.r A.P.c i0) ≤ 8 := by unfold unL; exact Nat.le_trans (sm_le (b := 1) (fun j _ => by split <;> omega)) (by omega)
      have hs8 : unS A.P A.f i0 (lnLen A.P.r A.P.c i0) ≤ 32 := by unfold unS; exact Nat.le_trans (sm_le (b := 4) (fun j _ => by split <;> first | omega | exact pc4_le _)) (by omega)
      refine S_iload_4 (q := 19) dX10_averageCandidates_17 rfl ?_
      refine S_aload_0 (q := 20) dX10_averageCandidates_19 rfl ?_
      refine S_iload_1 (q := 21) dX10_averageCandidates_20 rfl ?_
      refine S_callV1i (q := 24) dX10_averageCandidates_21 lk_X10_214 (by first | assumption | rfl) rfl rfl (k_X10_size g0 g1 hr8 hc8 hr1 hc1 hi16) rfl rfl (Nat.le_of_ble_eq_true rfl) ⟨Nat.le_of_ble_eq_true rfl, Nat.le_of_ble_eq_true rfl⟩ ⟨Nat.le_of_ble_eq_true rfl, Nat.le_of_ble_eq_true rfl⟩ rfl (fun v21 M21 hv21 => ?_)
      obtain ⟨e21, rfl⟩ := hv21
      rw [e21]
      refine S_icmp_ge (t := 71) (q := 27) dX10_averageCandidates_24 (by decide) rfl (fun hb24 => ?_) (fun hb24 => ?_)
      · refine S_iload_2 (q := 72) dX10_averageCandidates_71 rfl ?_
        refine S_if_ne (t := 80) (q := 75) dX10_averageCandidates_72 (by decide) rfl (fun hb72 => ?_) (fun hb72 => ?_)
        · have hu : ¬ unL A.P A.f i0 (lnLen A.P.r A.P.c i0) = 0 := fun e => hb72 (by rw [e]; rfl)
          refine S_bipush (q := 82) (nI 100) dX10_averageCandidates_80 (by decide) rfl ?_
          refine S_iload_3 (q := 83) dX10_averageCandidates_82 rfl ?_
          refine S_imul (q := 84) dX10_averageCandidates_83 rfl ?_
          refine S_iload_2 (q := 85) dX10_averageCandidates_84 rfl ?_
          refine S_idiv (q := 86) dX10_averageCandidates_85 hb72 rfl ?_
          exact S_iret rfl dX10_averageCandidates_86 rfl rfl (RSR.same hC (by unfold o_avg; rw [hl]; simp only [if_neg hu]; rw [pk_mul, Nat.mul_comm 100, pk_div (by omega) (by omega) (by omega)]))
        · have hu : unL A.P A.f i0 (lnLen A.P.r A.P.c i0) = 0 := nI_inj (by omega) (by decide) hb72
          refine S_bipush (q := 77) (-8) dX10_averageCandidates_75 (by decide) rfl ?_
          refine S_goto (t := 86) dX10_averageCandidates_77 (by decide) ?_
          exact S_iret rfl dX10_averageCandidates_86 rfl rfl (RSR.same hC (by unfold o_avg; rw [hl]; simp only [if_pos hu]))
      · exact absurd (Int32.le_refl _) hb24
    | succ d ih =>
      intro i hd hi
      have hlt : i < (lnLen A.P.r A.P.c i0) := by omega
      have hg := gce.ln hi0 hlt
      rw [Nat.zero_add] at hg
      have hG64 := lnG_64 hr8 hc8 hi0 hlt
      refine S_iload_4 (q := 19) dX10_averageCandidates_17 rfl ?_
      refine S_aload_0 (q := 20) dX10_averageCandidates_19 rfl ?_
      refine S_iload_1 (q := 21) dX10_averageCandidates_20 rfl ?_
      refine S_callV1i (q := 24) dX10_averageCandidates_21 lk_X10_214 (by first | assumption | rfl) rfl rfl (k_X10_size g0 g1 hr8 hc8 hr1 hc1 hi16) rfl rfl (Nat.le_of_ble_eq_true rfl) ⟨Nat.le_of_ble_eq_true rfl, Nat.le_of_ble_eq_true rfl⟩ ⟨Nat.le_of_ble_eq_true rfl, Nat.le_of_ble_eq_true rfl⟩ rfl (fun v21 M21 hv21 => ?_)
      obtain ⟨e21, rfl⟩ := hv21
      rw [e21]
      refine S_icmp_ge (t := 71) (q := 27) dX10_averageCandidates_24 (by decide) rfl (fun hb24 => ?_) (fun hb24 => ?_)
      · exact absurd hb24 (nI_ge hlt (by omega))
      · refine S_aload_0 (q := 28) dX10_averageCandidates_27 rfl ?_
        refine S_iload_1 (q := 29) dX10_averageCandidates_28 rfl ?_
        refine S_iload_4 (q := 31) dX10_averageCandidates_29 rfl ?_
        refine S_callV2i (q := 34) dX10_averageCandidates_31 lk_X10_217 (by first | assumption | rfl) rfl rfl (k_X10_cellOf g0 g1 hr8 hc8 hr1 hc1 hi16) rfl rfl (Nat.le_of_ble_eq_true rfl) ⟨Nat.le_of_ble_eq_true rfl, Nat.le_of_ble_eq_true rfl⟩ ⟨Nat.le_of_ble_eq_true rfl, Nat.le_of_ble_eq_true rfl⟩ rfl (fun v31 M31 hv31 => ?_)
        obtain ⟨e31, rfl⟩ := hv31
        rw [e31]
        refine S_istore_5 (q := 36) dX10_averageCandidates_34 rfl ?_
        refine S_aload_0 (q := 37) dX10_averageCandidates_36 rfl ?_
        refine S_iload_5 (q := 39) dX10_averageCandidates_37 rfl ?_
        refine S_callV1i (q := 42) dX10_averageCandidates_39 lk_X10_198 (by first | assumption | rfl) rfl rfl (k_X10_isDecided (by omega) hg.1 hg.2.1 hg.2.2) rfl rfl (Nat.le_of_ble_eq_true rfl) ⟨Nat.le_of_ble_eq_true rfl, Nat.le_of_ble_eq_true rfl⟩ ⟨Nat.le_of_ble_eq_true rfl, Nat.le_of_ble_eq_true rfl⟩ rfl (fun v39 M39 hv39 => ?_)
        obtain ⟨e39, rfl⟩ := hv39
        rw [e39]
        refine S_if_eq (t := 48) (q := 45) dX10_averageCandidates_42 (by decide) rfl (fun hb42 => ?_) (fun hb42 => ?_)
        · have hd : ¬ pc4 (A.f (lnCell A.P.r A.P.c i0 i)) = 1 := bI_0.mp hb42
          have e1 : unL A.P A.f i0 (i + 1) = unL A.P A.f i0 i + 1 := by show _ + (if _ then _ else _) = _; rw [if_neg hd]; rfl
          have e2 : unS A.P A.f i0 (i + 1) = unS A.P A.f i0 i + pc4 (A.f (lnCell A.P.r A.P.c i0 i)) := by show _ + (if _ then _ else _) = _; rw [if_neg hd]; rfl
          refine S_iinc_2 (q := 51) (nI (unL A.P A.f i0 i + 1)) dX10_averageCandidates_48 (inc1 _) rfl ?_
          refine S_iload_3 (q := 52) dX10_averageCandidates_51 rfl ?_
          refine S_aload_0 (q := 53) dX10_averageCandidates_52 rfl ?_
          refine S_aload_0 (q := 54) dX10_averageCandidates_53 rfl ?_
          refine S_getR (q := 57) dX10_averageCandidates_54 fl_X10_22 (by first | assumption | rfl) (by rfl) rfl ?_
          refine S_iload_5 (q := 59) dX10_averageCandidates_57 rfl ?_
          refine S_ialdV (i := lnG A.P.r A.P.c i0 i) (val := nI (A.f (lnCell A.P.r A.P.c i0 i))) (q := 60) dX10_averageCandidates_59 (by first | assumption | rfl) (by first | (simp only [nI_add, pk_mul, nI_1]; done) | rfl) (by omega) (by decide) hg.1 rfl ?_
          refine S_callV1i (q := 63) dX10_averageCandidates_60 lk_X10_208 (by first | assumption | rfl) rfl rfl (k_X10_ones hg.2.2) rfl rfl (Nat.le_of_ble_eq_true rfl) ⟨Nat.le_of_ble_eq_true rfl, Nat.le_of_ble_eq_true rfl⟩ ⟨Nat.le_of_ble_eq_true rfl, Nat.le_of_ble_eq_true rfl⟩ rfl (fun v60 M60 hv60 => ?_)
          obtain ⟨e60, rfl⟩ := hv60
          rw [e60]
          refine S_iadd (q := 64) dX10_averageCandidates_63 rfl ?_
          rw [nI_add]
          refine S_istore_3 (q := 65) dX10_averageCandidates_64 rfl ?_
          refine S_iinc_4 (q := 68) (nI (i + 1)) dX10_averageCandidates_65 (inc1 _) rfl ?_
          refine S_goto (t := 17) dX10_averageCandidates_68 (by decide) ?_
          try rw [← e1, ← e2]
          refine S_fgt5 ?_
          exact ih (i + 1) (by omega) hlt
        · have hd : pc4 (A.f (lnCell A.P.r A.P.c i0 i)) = 1 := bI_n.mp hb42
          have e1 : unL A.P A.f i0 (i + 1) = unL A.P A.f i0 i := by show _ + (if _ then _ else _) = _; rw [if_pos hd]; rfl
          have e2 : unS A.P A.f i0 (i + 1) = unS A.P A.f i0 i := by show _ + (if _ then _ else _) = _; rw [if_pos hd]; rfl
          refine S_goto (t := 65) dX10_averageCandidates_45 (by decide) ?_
          refine S_iinc_4 (q := 68) (nI (i + 1)) dX10_averageCandidates_65 (inc1 _) rfl ?_
          refine S_goto (t := 17) dX10_averageCandidates_68 (by decide) ?_
          try rw [← e1, ← e2]
          refine S_fgt5 ?_
          exact ih (i + 1) (by omega) hlt
  · have hl := ln_no (A := A) (bI_0.mp hb5)
    refine S_iconst (q := 9) (-1) dX10_averageCandidates_8 (by decide) rfl ?_
    exact S_iret rfl dX10_averageCandidates_9 rfl rfl (RSR.same hC (by unfold o_avg; rw [hl]))
set_option maxHeartbeats 4000000 in
set_option maxRecDepth 100000 in
theorem k_X10_contradiction {l : Launch} {G : Gd} {b0 : Nat} {M : Mem} {x z : Int32}  : Ct l G b0 yX10_contradiction cX10_contradiction 3 (some .int) (rmZ 0 0) LAY LAY M [.ref (b0 + 140), .int x, .int z] (fun v M' => M' = up (up M 140 13 x) 140 14 z ∧ v = -4) := by
  refine Ct.of [some (.ref (b0 + 140)), some (.int x), some (.int z)] (by decide) (Nat.le_of_ble_eq_true rfl) rfl rfl ?_
  refine S_aload_0 (q := 1) dX10_contradiction_0 rfl ?_
  refine S_iload_1 (q := 2) dX10_contradiction_1 rfl ?_
  refine S_putI (q := 5) dX10_contradiction_2 fp_X10_50 (by first | assumption | rfl) (by rfl) rfl (by rfl) rfl ?_
  refine S_aload_0 (q := 6) dX10_contradiction_5 rfl ?_
  refine S_iload_2 (q := 7) dX10_contradiction_6 rfl ?_
  refine S_putI (q := 10) dX10_contradiction_7 fp_X10_53 (by first | assumption | rfl) (by rfl) rfl (by rfl) rfl ?_
  refine S_bipush (q := 12) (-4) dX10_contradiction_10 (by decide) rfl ?_
  exact S_iret rfl dX10_contradiction_12 rfl rfl (⟨rfl, rfl⟩)
set_option maxHeartbeats 4000000 in
set_option maxRecDepth 100000 in
theorem k_X10_takeOver {l : Launch} {G : Gd} {b0 : Nat} {M : Mem} {A : Ab} {x : Int32} {g : Nat → Nat}  (hC : RR M A) (hk : A.ok) (hg : RCE M 64 A.P g)  : Ct l G b0 yX10_takeOver cX10_takeOver 2 (some .int) (rmZ 2 44) LAY LAY M [.ref (b0 + 140), .int x] (fun v M' => RR M' (A.sG A.P g A.ps) ∧ (∀ a, a < 140 → M' a = M a) ∧ v = x) := by
  have hP := hk.P
  refine Ct.of [some (.ref (b0 + 140)), some (.int x)] (by decide) (Nat.le_of_ble_eq_true rfl) rfl rfl ?_
  refine S_aload_0 (q := 1) dX10_takeOver_0 rfl ?_
  refine S_callV0v (q := 4) dX10_takeOver_1 lk_X10_184 (by first | assumption | rfl) rfl rfl (k_X10_keep hC hk) rfl rfl (Nat.le_of_ble_eq_true rfl) ⟨Nat.le_of_ble_eq_true rfl, Nat.le_of_ble_eq_true rfl⟩ ⟨Nat.le_of_ble_eq_true rfl, Nat.le_of_ble_eq_true rfl⟩ rfl (fun v1 M1 hv1 => ?_)
  have hp : KPT M M1 A := hv1
  refine S_aload_0 (q := 5) dX10_takeOver_4 rfl ?_
  refine S_bipush (q := 7) (nI 64) dX10_takeOver_5 (by decide) rfl ?_
  refine S_iconst (q := 8) (nI 0) dX10_takeOver_7 (by decide) rfl ?_
  refine S_callV2v (q := 11) dX10_takeOver_8 lk_X10_230 (by first | assumption | rfl) rfl rfl (k_X10_copy (s := 64) (t := 0) (by decide) (by decide) (by decide)) rfl rfl (Nat.le_of_ble_eq_true rfl) ⟨Nat.le_of_ble_eq_true rfl, Nat.le_of_ble_eq_true rfl⟩ ⟨Nat.le_of_ble_eq_true rfl, Nat.le_of_ble_eq_true rfl⟩ rfl (fun v8 M8 hv8 => ?_)
  refine S_iload_1 (q := 12) dX10_takeOver_11 rfl ?_
  exact S_iret rfl dX10_takeOver_12 rfl rfl (⟨hC.ed hk hp rfl rfl rfl (fun k _ => by rw [hv8.1 140 (by decide)]) (fun a ha => hv8.1 a (by omega)) (hC.1.ce (fun k hk => by rw [hv8.1 140 (by decide), hp.2.1 k (by omega)]) (fun a a1 a2 => by rw [hv8.1 a (by omega), hp.1 a (by omega) (by omega)]) (hg.cp hP (fun x hx => by rw [hv8.2.2 x hx, hp.1 141 (by decide) (by decide)]))), fun a ha => by rw [hv8.1 a (by omega), hp.1 a (by omega) (by omega)], rfl⟩)
/-- a copy of the grid, to work in -/
theorem RR.lw {M : Mem} {A : Ab} {b : Nat} {g : Nat → Nat} (h : RR M A) (hg : RCE M b A.P g) : ∃ ap, ap < 8 ∧ LWR M A.P g b (-1) ap := by
  obtain ⟨⟨g0, g1, g2, gcu, gce⟩, hru, hhi, hbad, ⟨q1, ap, q2, q3⟩, hrest⟩ := h
  exact ⟨ap, q2, g0, g1, gcu, hg, q1, q3⟩
theorem RR.cpy {M M1 : Mem} {A : Ab} {s b : Nat} {g : Nat → Nat} (h : RR M A) (hk : A.ok) (hb : 64 ≤ b) (hs : RCE M s A.P g) (hv : (∀ a, a ≠ 141 → M1 a = M a) ∧ (∀ x, (x < b ∨ b + 64 ≤ x) → M1 141 x = M 141 x) ∧ ∀ x, x < 64 → M1 141 (b + x) = M 141 (s + x)) : RR M1 A ∧ RCE M1 b A.P g ∧ ∀ a, a < 140 → M1 a = M a :=
  ⟨h.fr hk (fun k _ => by rw [hv.1 140 (by decide)]) (fun a ha => hv.1 a (by omega)) (fun x hx => hv.2.1 x (.inl (by omega))), hs.cp hk.P hv.2.2, fun a ha => hv.1 a (by omega)⟩
/-- what spread changes is no state -/
theorem RR.sp {M M1 : Mem} {A : Ab} {b : Nat} (h : RR M A) (hk : A.ok) (hb : 64 ≤ b) (hs : SFR M M1 b) : RR M1 A ∧ ∀ a, a < 140 → M1 a = M a :=
  ⟨h.fr hk (fun k hk => hs.2.1 k (by omega) (by omega) (by omega) (by omega) (by omega) (by omega)) (fun a ha => hs.1 a (by omega) (by omega) (by omega) (by omega)) (fun x hx => hs.2.2 x (.inl (by omega))), fun a ha => hs.1 a (by omega) (by omega) (by omega) (by omega)⟩
theorem RR.up64 {M : Mem} {A : Ab} {x : Nat} {v : Int32} (h : RR M A) (hk : A.ok) (hx : 64 ≤ x) : RR (up M 141 x v) A := h.fr hk (fun k _ => by rw [up_n (by decide)]) (fun a ha => up_n (by omega)) (fun z hz => by rw [up_eq, if_neg (by omega)])
set_option maxHeartbeats 4000000 in
set_option maxRecDepth 100000 in
theorem k_X10_assignmentCount {l : Launch} {G : Gd} {b0 : Nat} {M : Mem} {A : Ab} {x : Int32}  (hC : RR M A) (hk : A.ok)  : Ct l G b0 yX10_assignmentCount cX10_assignmentCount 2 (some .int) (rmZ 11 410) LAY LAY M [.ref (b0 + 140), .int x] (fun v M' => RSR M (o_asn A x) v M') := by
  obtain ⟨⟨g0, g1, g2, gcu, gce⟩, hru, hhi, hbad, hask, htx, hfo, hsn, htb⟩ := id hC
  have hP := hk.P
  have hr1 := hP.r1
  have hr8 := hP.r8
  have hc1 := hP.c1
  have hc8 := hP.c8
  have hk1 := hP.k1
  have hk3 := hP.k3
  have h64 := rc64 hr8 hc8
  have hH8 := hk.H8
  have hN : A.N = A.P.r + A.P.c := rfl
  refine Ct.of [some (.ref (b0 + 140)), some (.int x)] (by decide) (Nat.le_of_ble_eq_true rfl) rfl rfl ?_
  refine S_aload_0 (q := 1) dX10_assignmentCount_0 rfl ?_
  refine S_iload_1 (q := 2) dX10_assignmentCount_1 rfl ?_
  refine S_callV1i (q := 5) dX10_assignmentCount_2 lk_X10_180 (by first | assumption | rfl) rfl rfl (k_X10_isLine g0 g1 hr8 hc8 hr1 hc1) rfl rfl (Nat.le_of_ble_eq_true rfl) ⟨Nat.le_of_ble_eq_true rfl, Nat.le_of_ble_eq_true rfl⟩ ⟨Nat.le_of_ble_eq_true rfl, Nat.le_of_ble_eq_true rfl⟩ rfl (fun v2 M2 hv2 => ?_)
  obtain ⟨e2, rfl⟩ := hv2
  rw [e2]
  refine S_if_ne (t := 10) (q := 8) dX10_assignmentCount_5 (by decide) rfl (fun hb5 => ?_) (fun hb5 => ?_)
  · obtain ⟨i, hi, rfl, hl⟩ := ln_ok (A := A) hP (bI_n.mp hb5)
    obtain ⟨ap, hap, hW⟩ := hC.lw gce
    refine S_aload_0 (q := 11) dX10_assignmentCount_10 rfl ?_
    refine S_iconst (q := 12) (nI 0) dX10_assignmentCount_11 (by decide) rfl ?_
    refine S_iload_1 (q := 13) dX10_assignmentCount_12 rfl ?_
    refine S_callV2v (q := 16) dX10_assignmentCount_13 lk_X10_224 (by first | assumption | rfl) rfl rfl (k_X10_assignAll (bb := 0) (ask := -1) hP (by decide) hi hap (.inr rfl) hW) rfl rfl (Nat.le_of_ble_eq_true rfl) ⟨Nat.le_of_ble_eq_true rfl, Nat.le_of_ble_eq_true rfl⟩ ⟨Nat.le_of_ble_eq_true rfl, Nat.le_of_ble_eq_true rfl⟩ rfl (fun v13 M13 hv13 => ?_)
    obtain ⟨hs1, hs2, hs3, hs4, hs5⟩ := hv13
    refine S_aload_0 (q := 17) dX10_assignmentCount_16 rfl ?_
    refine S_getI (q := 20) dX10_assignmentCount_17 fl_X10_68 (by first | assumption | rfl) (by rfl) rfl ?_
    exact S_iret rfl dX10_assignmentCount_20 rfl rfl (RSR.to (hC.fr hk (fun k hk => hs2 k (by omega) (by omega) (by omega) (by omega)) (fun a ha => hs1 a (by omega) (by omega) (by omega)) (fun x hx => by rw [hs1 141 (by decide) (by decide) (by decide)])) (fun a ha => hs1 a (by omega) (by omega) (by omega)) (by unfold o_asn; rw [hl]; simp only; rw [hs3]))
  · have hl := ln_no (A := A) (bI_0.mp hb5)
    refine S_iconst (q := 9) (-1) dX10_assignmentCount_8 (by decide) rfl ?_
    exact S_iret rfl dX10_assignmentCount_9 rfl rfl (RSR.same hC (by unfold o_asn; rw [hl]))
set_option maxHeartbeats 4000000 in
set_option maxRecDepth 100000 in
theorem k_X10_solveLine {l : Launch} {G : Gd} {b0 : Nat} {M : Mem} {A : Ab} {x : Int32}  (hC : RR M A) (hk : A.ok)  : Ct l G b0 yX10_solveLine cX10_solveLine 3 (some .int) (rmZ 12 435) LAY LAY M [.ref (b0 + 140), .int x] (fun v M' => RSR M (o_solve A x) v M') := by
  obtain ⟨⟨g0, g1, g2, gcu, gce⟩, hru, hhi, hbad, hask, htx, hfo, hsn, htb⟩ := id hC
  have hP := hk.P
  have hr1 := hP.r1
  have hr8 := hP.r8
  have hc1 := hP.c1
  have hc8 := hP.c8
  have hk1 := hP.k1
  have hk3 := hP.k3
  have h64 := rc64 hr8 hc8
  have hH8 := hk.H8
  have hN : A.N = A.P.r + A.P.c := rfl
  refine Ct.of [some (.ref (b0 + 140)), some (.int x), none] (by decide) (Nat.le_of_ble_eq_true rfl) rfl rfl ?_
  refine S_aload_0 (q := 1) dX10_solveLine_0 rfl ?_
  refine S_iload_1 (q := 2) dX10_solveLine_1 rfl ?_
  refine S_callV1i (q := 5) dX10_solveLine_2 lk_X10_180 (by first | assumption | rfl) rfl rfl (k_X10_isLine g0 g1 hr8 hc8 hr1 hc1) rfl rfl (Nat.le_of_ble_eq_true rfl) ⟨Nat.le_of_ble_eq_true rfl, Nat.le_of_ble_eq_true rfl⟩ ⟨Nat.le_of_ble_eq_true rfl, Nat.le_of_ble_eq_true rfl⟩ rfl (fun v2 M2 hv2 => ?_)
  obtain ⟨e2, rfl⟩ := hv2
  rw [e2]
  refine S_if_ne (t := 10) (q := 8) dX10_solveLine_5 (by decide) rfl (fun hb5 => ?_) (fun hb5 => ?_)
  · obtain ⟨i, hi, rfl, hl⟩ := ln_ok (A := A) hP (bI_n.mp hb5)
    have hi16 : i < 16 := by omega
    refine S_aload_0 (q := 11) dX10_solveLine_10 rfl ?_
    refine S_iconst (q := 12) (nI 0) dX10_solveLine_11 (by decide) rfl ?_
    refine S_bipush (q := 14) (nI 64) dX10_solveLine_12 (by decide) rfl ?_
    refine S_callV2v (q := 17) dX10_solveLine_14 lk_X10_230 (by first | assumption | rfl) rfl rfl (k_X10_copy (s := 0) (t := 64) (by decide) (by decide) (by decide)) rfl rfl (Nat.le_of_ble_eq_true rfl) ⟨Nat.le_of_ble_eq_true rfl, Nat.le_of_ble_eq_true rfl⟩ ⟨Nat.le_of_ble_eq_true rfl, Nat.le_of_ble_eq_true rfl⟩ rfl (fun v14 M14 hv14 => ?_)
    obtain ⟨hC2, hw2, hf2⟩ := hC.cpy hk (by decide) gce hv14
    obtain ⟨ap, hap, hW⟩ := hC2.lw hw2
    refine S_aload_0 (q := 18) dX10_solveLine_17 rfl ?_
    refine S_bipush (q := 20) (nI 64) dX10_solveLine_18 (by decide) rfl ?_
    refine S_iload_1 (q := 21) dX10_solveLine_20 rfl ?_
    refine S_callV2i (q := 24) dX10_solveLine_21 lk_X10_227 (by first | assumption | rfl) rfl rfl (k_X10_solve hP (by decide) hi hap rfl hW) rfl rfl (Nat.le_of_ble_eq_true rfl) ⟨Nat.le_of_ble_eq_true rfl, Nat.le_of_ble_eq_true rfl⟩ ⟨Nat.le_of_ble_eq_true rfl, Nat.le_of_ble_eq_true rfl⟩ rfl (fun v21 M21 hv21 => ?_)
    obtain ⟨hs1, hs2, hs3, hs4, hs5⟩ := hv21
    obtain ⟨hC3, hf3⟩ := hC2.sp hk (b := 64) (by decide) ⟨hs1, fun k h1 h2 h3 h4 _ _ => hs2 k h1 h2 h3 h4, hs3⟩
    have h256 := WT_le hP (f := A.f)
    refine S_istore_2 (q := 25) dX10_solveLine_24 rfl ?_
    refine S_iload_2 (q := 26) dX10_solveLine_25 rfl ?_
    refine S_if_ge (t := 38) (q := 29) dX10_solveLine_26 (by decide) rfl (fun hb26 => ?_) (fun hb26 => ?_)
    · have hz : ¬ wyL A.P A.f i = 0 := fun y => by rw [hs4 y] at hb26; exact absurd hb26 (by decide)
      refine S_aload_0 (q := 39) dX10_solveLine_38 rfl ?_
      refine S_iload_2 (q := 40) dX10_solveLine_39 rfl ?_
      refine S_callV1i (q := 43) dX10_solveLine_40 lk_X10_236 (by first | assumption | rfl) rfl rfl (k_X10_takeOver hC3 hk (hs5 hz).2) rfl rfl (Nat.le_of_ble_eq_true rfl) ⟨Nat.le_of_ble_eq_true rfl, Nat.le_of_ble_eq_true rfl⟩ ⟨Nat.le_of_ble_eq_true rfl, Nat.le_of_ble_eq_true rfl⟩ rfl (fun v40 M40 hv40 => ?_)
      exact S_iret rfl dX10_solveLine_43 rfl rfl (RSR.to hv40.1 (fun a ha => by rw [hv40.2.1 a ha, hf3 a ha, hf2 a ha]) (by unfold o_solve; rw [hl]; simp only [if_neg hz]; rw [hv40.2.2, (hs5 hz).1]))
    · have hz : wyL A.P A.f i = 0 := Decidable.byContradiction (fun y => by rw [(hs5 y).1] at hb26; exact hb26 (nI_pos' (by omega)))
      refine S_aload_0 (q := 30) dX10_solveLine_29 rfl ?_
      refine S_iload_1 (q := 31) dX10_solveLine_30 rfl ?_
      refine S_iconst (q := 32) (nI 0) dX10_solveLine_31 (by decide) rfl ?_
      refine S_callV2i (q := 35) dX10_solveLine_32 lk_X10_233 (by first | assumption | rfl) rfl rfl (k_X10_contradiction) rfl rfl (Nat.le_of_ble_eq_true rfl) ⟨Nat.le_of_ble_eq_true rfl, Nat.le_of_ble_eq_true rfl⟩ ⟨Nat.le_of_ble_eq_true rfl, Nat.le_of_ble_eq_true rfl⟩ rfl (fun v32 M32 hv32 => ?_)
      obtain ⟨e32, rfl⟩ := hv32
      rw [e32]
      refine S_goto (t := 43) dX10_solveLine_35 (by decide) ?_
      exact S_iret rfl dX10_solveLine_43 rfl rfl (RSR.to (A := A.sB (some (i, 0))) (hC3.sB hk (fun k h1 h2 => by rw [up_eq, if_neg (by omega), up_eq, if_neg (by omega)]) (fun a ha => by rw [up_n ha, up_n ha]) ⟨by rw [up_eq, if_neg (by decide), up_s], up_s⟩) (fun a ha => by rw [up_n (by omega), up_n (by omega), hf3 a ha, hf2 a ha]) (by unfold o_solve; rw [hl]; simp only [if_pos hz]))
  · have hl := ln_no (A := A) (bI_0.mp hb5)
    refine S_iconst (q := 9) (-1) dX10_solveLine_8 (by decide) rfl ?_
    exact S_iret rfl dX10_solveLine_9 rfl rfl (RSR.same hC (by unfold o_solve; rw [hl]))
set_option maxHeartbeats 4000000 in
set_option maxRecDepth 100000 in
theorem k_X10_propagate {l : Launch} {G : Gd} {b0 : Nat} {M : Mem} {A : Ab}  (hC : RR M A) (hk : A.ok)  : Ct l G b0 yX10_propagate cX10_propagate 2 (some .int) (rmZ 13 460) LAY LAY M [.ref (b0 + 140)] (fun v M' => RSR M (o_prop A) v M') := by
  obtain ⟨⟨g0, g1, g2, gcu, gce⟩, hru, hhi, hbad, hask, htx, hfo, hsn, htb⟩ := id hC
  have hP := hk.P
  have hr1 := hP.r1
  have hr8 := hP.r8
  have hc1 := hP.c1
  have hc8 := hP.c8
  have hk1 := hP.k1
  have hk3 := hP.k3
  have h64 := rc64 hr8 hc8
  have hH8 := hk.H8
  have hN : A.N = A.P.r + A.P.c := rfl
  refine Ct.of [some (.ref (b0 + 140)), none] (by decide) (Nat.le_of_ble_eq_true rfl) rfl rfl ?_
  refine S_aload_0 (q := 1) dX10_propagate_0 rfl ?_
  refine S_iconst (q := 2) (nI 0) dX10_propagate_1 (by decide) rfl ?_
  refine S_bipush (q := 4) (nI 64) dX10_propagate_2 (by decide) rfl ?_
  refine S_callV2v (q := 7) dX10_propagate_4 lk_X10_230 (by first | assumption | rfl) rfl rfl (k_X10_copy (s := 0) (t := 64) (by decide) (by decide) (by decide)) rfl rfl (Nat.le_of_ble_eq_true rfl) ⟨Nat.le_of_ble_eq_true rfl, Nat.le_of_ble_eq_true rfl⟩ ⟨Nat.le_of_ble_eq_true rfl, Nat.le_of_ble_eq_true rfl⟩ rfl (fun v4 M4 hv4 => ?_)
  obtain ⟨hC2, hw2, hf2⟩ := hC.cpy hk (by decide) gce hv4
  obtain ⟨ap, hap, hW⟩ := hC2.lw hw2
  refine S_aload_0 (q := 8) dX10_propagate_7 rfl ?_
  refine S_bipush (q := 10) (nI 64) dX10_propagate_8 (by decide) rfl ?_
  refine S_callV1i (q := 13) dX10_propagate_10 lk_X10_239 (by first | assumption | rfl) rfl rfl (k_X10_spread hP (by decide) hap rfl hW) rfl rfl (Nat.le_of_ble_eq_true rfl) ⟨Nat.le_of_ble_eq_true rfl, Nat.le_of_ble_eq_true rfl⟩ ⟨Nat.le_of_ble_eq_true rfl, Nat.le_of_ble_eq_true rfl⟩ rfl (fun v10 M10 hv10 => ?_)
  obtain ⟨hs1, hs2, hs3⟩ := hv10
  obtain ⟨hC3, hf3⟩ := hC2.sp hk (b := 64) (by decide) hs1
  have h256 := WT_le hP (f := A.f)
  refine S_istore_1 (q := 14) dX10_propagate_13 rfl ?_
  refine S_iload_1 (q := 15) dX10_propagate_14 rfl ?_
  refine S_if_ge (t := 30) (q := 18) dX10_propagate_15 (by decide) rfl (fun hb15 => ?_) (fun hb15 => ?_)
  · obtain ⟨g, n, hz⟩ : ∃ g n, spr A.P A.f = .inr (g, n) := by
      cases e : spr A.P A.f with
      | inl j => rw [(hs2 j e).1] at hb15; exact absurd hb15 (by decide)
      | inr q => exact ⟨q.1, q.2, rfl⟩
    refine S_aload_0 (q := 31) dX10_propagate_30 rfl ?_
    refine S_iload_1 (q := 32) dX10_propagate_31 rfl ?_
    refine S_callV1i (q := 35) dX10_propagate_32 lk_X10_236 (by first | assumption | rfl) rfl rfl (k_X10_takeOver hC3 hk (hs3 g n hz).2.2) rfl rfl (Nat.le_of_ble_eq_true rfl) ⟨Nat.le_of_ble_eq_true rfl, Nat.le_of_ble_eq_true rfl⟩ ⟨Nat.le_of_ble_eq_true rfl, Nat.le_of_ble_eq_true rfl⟩ rfl (fun v32 M32 hv32 => ?_)
    exact S_iret rfl dX10_propagate_35 rfl rfl (RSR.to hv32.1 (fun a ha => by rw [hv32.2.1 a ha, hf3 a ha, hf2 a ha]) (by unfold o_prop; rw [hz]; simp only; rw [hv32.2.2, (hs3 g n hz).1]))
  · obtain ⟨j9, hz⟩ : ∃ j, spr A.P A.f = .inl j := by
      cases e : spr A.P A.f with
      | inl j => exact ⟨j, rfl⟩
      | inr q => rw [(hs3 q.1 q.2 e).1] at hb15; exact absurd (nI_pos' (by omega)) hb15
    refine S_aload_0 (q := 19) dX10_propagate_18 rfl ?_
    refine S_aload_0 (q := 20) dX10_propagate_19 rfl ?_
    refine S_getI (q := 23) dX10_propagate_20 fl_X10_83 (by first | assumption | rfl) (by rfl) rfl ?_
    rw [(hs2 j9 hz).2]
    refine S_iconst (q := 24) (nI 0) dX10_propagate_23 (by decide) rfl ?_
    refine S_callV2i (q := 27) dX10_propagate_24 lk_X10_233 (by first | assumption | rfl) rfl rfl (k_X10_contradiction) rfl rfl (Nat.le_of_ble_eq_true rfl) ⟨Nat.le_of_ble_eq_true rfl, Nat.le_of_ble_eq_true rfl⟩ ⟨Nat.le_of_ble_eq_true rfl, Nat.le_of_ble_eq_true rfl⟩ rfl (fun v24 M24 hv24 => ?_)
    obtain ⟨e24, rfl⟩ := hv24
    rw [e24]
    refine S_goto (t := 35) dX10_propagate_27 (by decide) ?_
    exact S_iret rfl dX10_propagate_35 rfl rfl (RSR.to (A := A.sB (some (j9, 0))) (hC3.sB hk (fun k h1 h2 => by rw [up_eq, if_neg (by omega), up_eq, if_neg (by omega)]) (fun a ha => by rw [up_n ha, up_n ha]) ⟨by rw [up_eq, if_neg (by decide), up_s], up_s⟩) (fun a ha => by rw [up_n (by omega), up_n (by omega), hf3 a ha, hf2 a ha]) (by unfold o_prop; rw [hz]))
set_option maxHeartbeats 4000000 in
set_option maxRecDepth 100000 in
theorem k_X10_passCount {l : Launch} {G : Gd} {b0 : Nat} {M : Mem} {A : Ab}  (hC : RR M A) (hk : A.ok)  : Ct l G b0 yX10_passCount cX10_passCount 1 (some .int) (rmZ 13 460) LAY LAY M [.ref (b0 + 140)] (fun v M' => RSR M (o_pass A) v M') := by
  obtain ⟨⟨g0, g1, g2, gcu, gce⟩, hru, hhi, hbad, hask, htx, hfo, hsn, htb⟩ := id hC
  have hP := hk.P
  have hr1 := hP.r1
  have hr8 := hP.r8
  have hc1 := hP.c1
  have hc8 := hP.c8
  have hk1 := hP.k1
  have hk3 := hP.k3
  have h64 := rc64 hr8 hc8
  have hH8 := hk.H8
  have hN : A.N = A.P.r + A.P.c := rfl
  refine Ct.of [some (.ref (b0 + 140))] (by decide) (Nat.le_of_ble_eq_true rfl) rfl rfl ?_
  refine S_aload_0 (q := 1) dX10_passCount_0 rfl ?_
  refine S_iconst (q := 2) (nI 0) dX10_passCount_1 (by decide) rfl ?_
  refine S_bipush (q := 4) (nI 64) dX10_passCount_2 (by decide) rfl ?_
  refine S_callV2v (q := 7) dX10_passCount_4 lk_X10_230 (by first | assumption | rfl) rfl rfl (k_X10_copy (s := 0) (t := 64) (by decide) (by decide) (by decide)) rfl rfl (Nat.le_of_ble_eq_true rfl) ⟨Nat.le_of_ble_eq_true rfl, Nat.le_of_ble_eq_true rfl⟩ ⟨Nat.le_of_ble_eq_true rfl, Nat.le_of_ble_eq_true rfl⟩ rfl (fun v4 M4 hv4 => ?_)
  obtain ⟨hC2, hw2, hf2⟩ := hC.cpy hk (by decide) gce hv4
  obtain ⟨ap, hap, hW⟩ := hC2.lw hw2
  refine S_aload_0 (q := 8) dX10_passCount_7 rfl ?_
  refine S_bipush (q := 10) (nI 64) dX10_passCount_8 (by decide) rfl ?_
  refine S_callV1i (q := 13) dX10_passCount_10 lk_X10_239 (by first | assumption | rfl) rfl rfl (k_X10_spread hP (by decide) hap rfl hW) rfl rfl (Nat.le_of_ble_eq_true rfl) ⟨Nat.le_of_ble_eq_true rfl, Nat.le_of_ble_eq_true rfl⟩ ⟨Nat.le_of_ble_eq_true rfl, Nat.le_of_ble_eq_true rfl⟩ rfl (fun v10 M10 hv10 => ?_)
  obtain ⟨hs1, hs2, hs3⟩ := hv10
  obtain ⟨hC3, hf3⟩ := hC2.sp hk (b := 64) (by decide) hs1
  have h256 := WT_le hP (f := A.f)
  refine S_if_ge (t := 21) (q := 16) dX10_passCount_13 (by decide) rfl (fun hb13 => ?_) (fun hb13 => ?_)
  · obtain ⟨g, n, hz⟩ : ∃ g n, spr A.P A.f = .inr (g, n) := by
      cases e : spr A.P A.f with
      | inl j => rw [(hs2 j e).1] at hb13; exact absurd hb13 (by decide)
      | inr q => exact ⟨q.1, q.2, rfl⟩
    refine S_aload_0 (q := 22) dX10_passCount_21 rfl ?_
    refine S_getI (q := 25) dX10_passCount_22 fl_X10_80 (by first | assumption | rfl) (by rfl) rfl ?_
    rw [(hs3 g n hz).2.1]
    exact S_iret rfl dX10_passCount_25 rfl rfl (RSR.to hC3 (fun a ha => by rw [hf3 a ha, hf2 a ha]) (by unfold o_pass; rw [hz]))
  · obtain ⟨j9, hz⟩ : ∃ j, spr A.P A.f = .inl j := by
      cases e : spr A.P A.f with
      | inl j => exact ⟨j, rfl⟩
      | inr q => rw [(hs3 q.1 q.2 e).1] at hb13; exact absurd (nI_pos' (by omega)) hb13
    refine S_bipush (q := 18) (-4) dX10_passCount_16 (by decide) rfl ?_
    refine S_goto (t := 25) dX10_passCount_18 (by decide) ?_
    exact S_iret rfl dX10_passCount_25 rfl rfl (RSR.to hC3 (fun a ha => by rw [hf3 a ha, hf2 a ha]) (by unfold o_pass; rw [hz]))
set_option maxHeartbeats 4000000 in
set_option maxRecDepth 100000 in
theorem k_X10_fails {l : Launch} {G : Gd} {b0 : Nat} {M : Mem} {A : Ab} {f : Nat → Nat} {s x m : Nat}  (hC : RR M A) (hk : A.ok) (hf : RCE M s A.P f) (hs : s + 64 ≤ 128) (hx : x < A.P.r * A.P.c) (hm : m ≤ 3)  : Ct l G b0 yX10_fails cX10_fails 4 (some .boolean) (rmZ 13 460) LAY LAY M [.ref (b0 + 140), .int (nI s), .int (nI (gx A.P.c x)), .int (nI m)] (fun v M' => RR M' A ∧ (∀ a, a < 140 → M' a = M a) ∧ (∀ x, x < 128 → M' 141 x = M 141 x) ∧ (∀ k, k ≠ 17 → k ≠ 18 → k ≠ 19 → k ≠ 22 → k ≠ 23 → k ≠ 24 → M' 140 k = M 140 k) ∧ (∀ j, spr A.P (upf f x (2 ^ m)) = .inl j → v = nI 1) ∧ ∀ z, spr A.P (upf f x (2 ^ m)) = .inr z → v = nI 0) := by
  obtain ⟨⟨g0, g1, g2, gcu, gce⟩, hru, hhi, hbad, hask, htx, hfo, hsn, htb⟩ := id hC
  have hP := hk.P
  have hr1 := hP.r1
  have hr8 := hP.r8
  have hc1 := hP.c1
  have hc8 := hP.c8
  have hk1 := hP.k1
  have hk3 := hP.k3
  have h64 := rc64 hr8 hc8
  have hH8 := hk.H8
  have hN : A.N = A.P.r + A.P.c := rfl
  have hx64 := (gx_64 hr8 hc8 hc1 hx).1
  refine Ct.of [some (.ref (b0 + 140)), some (.int (nI s)), some (.int (nI (gx A.P.c x))), some (.int (nI m))] (by decide) (Nat.le_of_ble_eq_true rfl) rfl rfl ?_
  refine S_aload_0 (q := 1) dX10_fails_0 rfl ?_
  refine S_iload_1 (q := 2) dX10_fails_1 rfl ?_
  refine S_sipush (q := 5) (nI 128) dX10_fails_2 (by decide) rfl ?_
  refine S_callV2v (q := 8) dX10_fails_5 lk_X10_230 (by first | assumption | rfl) rfl rfl (k_X10_copy (s := s) (t := 128) (by omega) (by decide) (by omega)) rfl rfl (Nat.le_of_ble_eq_true rfl) ⟨Nat.le_of_ble_eq_true rfl, Nat.le_of_ble_eq_true rfl⟩ ⟨Nat.le_of_ble_eq_true rfl, Nat.le_of_ble_eq_true rfl⟩ rfl (fun v5 M5 hv5 => ?_)
  obtain ⟨hC2, hw2, hf2⟩ := hC.cpy hk (by decide) hf hv5
  refine S_aload_0 (q := 9) dX10_fails_8 rfl ?_
  refine S_getR (q := 12) dX10_fails_9 fl_X10_22 (by first | assumption | rfl) (by rfl) rfl ?_
  refine S_sipush (q := 15) (nI 128) dX10_fails_12 (by decide) rfl ?_
  refine S_iload_2 (q := 16) dX10_fails_15 rfl ?_
  refine S_iadd (q := 17) dX10_fails_16 rfl ?_
  refine S_iconst (q := 18) (nI 1) dX10_fails_17 (by decide) rfl ?_
  refine S_iload_3 (q := 19) dX10_fails_18 rfl ?_
  refine S_ishl (q := 20) dX10_fails_19 rfl ?_
  rw [nI_shl (show m < 32 by omega) (by rw [Nat.one_mul]; exact Nat.lt_trans (p2_16 hm).2 (by decide)), Nat.one_mul]
  refine S_iastE (i := 128 + gx A.P.c x) (q := 21) dX10_fails_20 (by first | assumption | rfl) (by first | (simp only [nI_add, pk_mul, nI_1]; done) | rfl) (by omega) (by decide) rfl ?_
  have hC2' := hC2.up64 hk (x := 128 + gx A.P.c x) (v := nI (2 ^ m)) (by omega)
  have hw3 := hw2.up hP hx (p2_16 hm).1 (p2_16 hm).2
  obtain ⟨ap, hap, hW⟩ := hC2'.lw hw3
  refine S_aload_0 (q := 22) dX10_fails_21 rfl ?_
  refine S_sipush (q := 25) (nI 128) dX10_fails_22 (by decide) rfl ?_
  refine S_callV1i (q := 28) dX10_fails_25 lk_X10_239 (by first | assumption | rfl) rfl rfl (k_X10_spread hP (by decide) hap rfl hW) rfl rfl (Nat.le_of_ble_eq_true rfl) ⟨Nat.le_of_ble_eq_true rfl, Nat.le_of_ble_eq_true rfl⟩ ⟨Nat.le_of_ble_eq_true rfl, Nat.le_of_ble_eq_true rfl⟩ rfl (fun v25 M25 hv25 => ?_)
  obtain ⟨hs1, hs2, hs3⟩ := hv25
  obtain ⟨hC3, hf3⟩ := hC2'.sp hk (b := 128) (by decide) hs1
  have h256 := WT_le hP (f := upf f x (2 ^ m))
  refine S_if_ge (t := 35) (q := 31) dX10_fails_28 (by decide) rfl (fun hb28 => ?_) (fun hb28 => ?_)
  · obtain ⟨g, n, hz⟩ : ∃ g n, spr A.P (upf f x (2 ^ m)) = .inr (g, n) := by
      cases e : spr A.P (upf f x (2 ^ m)) with
      | inl j => rw [(hs2 j e).1] at hb28; exact absurd hb28 (by decide)
      | inr q => exact ⟨q.1, q.2, rfl⟩
    refine S_iconst (q := 36) (nI 0) dX10_fails_35 (by decide) rfl ?_
    exact S_iret rfl dX10_fails_36 (by rfl) rfl (⟨hC3, fun a ha => (by rw [hf3 a ha, up_n (by omega), hf2 a ha]), fun z hz2 => (by rw [hs1.2.2 z (by omega), up_eq, if_neg (by omega), hv5.2.1 z (by omega)]), fun k h1 h2 h3 h4 h5 h6 => (by rw [hs1.2.1 k h1 h2 h3 h4 h5 h6, up_n (by decide), hv5.1 140 (by decide)]), fun j e => (by rw [hz] at e; cases e), fun z e => rfl⟩)
  · obtain ⟨j9, hz⟩ : ∃ j, spr A.P (upf f x (2 ^ m)) = .inl j := by
      cases e : spr A.P (upf f x (2 ^ m)) with
      | inl j => exact ⟨j, rfl⟩
      | inr q => rw [(hs3 q.1 q.2 e).1] at hb28; exact absurd (nI_pos' (by omega)) hb28
    refine S_iconst (q := 32) (nI 1) dX10_fails_31 (by decide) rfl ?_
    refine S_goto (t := 36) dX10_fails_32 (by decide) ?_
    exact S_iret rfl dX10_fails_36 (by rfl) rfl (⟨hC3, fun a ha => (by rw [hf3 a ha, up_n (by omega), hf2 a ha]), fun z hz2 => (by rw [hs1.2.2 z (by omega), up_eq, if_neg (by omega), hv5.2.1 z (by omega)]), fun k h1 h2 h3 h4 h5 h6 => (by rw [hs1.2.1 k h1 h2 h3 h4 h5 h6, up_n (by decide), hv5.1 140 (by decide)]), fun j e => rfl, fun z e => (by rw [hz] at e; cases e)⟩)
set_option maxHeartbeats 4000000 in
set_option maxRecDepth 100000 in
theorem k_X10_probe {l : Launch} {G : Gd} {b0 : Nat} {M : Mem} {A : Ab} {x z k : Int32}  (hC : RR M A) (hk : A.ok)  : Ct l G b0 yX10_probe cX10_probe 5 (some .int) (rmZ 14 483) LAY LAY M [.ref (b0 + 140), .int x, .int z, .int k] (fun v M' => RSR M (o_probe A x z k) v M') := by
  obtain ⟨⟨g0, g1, g2, gcu, gce⟩, hru, hhi, hbad, hask, htx, hfo, hsn, htb⟩ := id hC
  have hP := hk.P
  have hr1 := hP.r1
  have hr8 := hP.r8
  have hc1 := hP.c1
  have hc8 := hP.c8
  have hk1 := hP.k1
  have hk3 := hP.k3
  have h64 := rc64 hr8 hc8
  have hH8 := hk.H8
  have hN : A.N = A.P.r + A.P.c := rfl
  refine Ct.of [some (.ref (b0 + 140)), some (.int x), some (.int z), some (.int k), none] (by decide) (Nat.le_of_ble_eq_true rfl) rfl rfl ?_
  refine S_aload_0 (q := 1) dX10_probe_0 rfl ?_
  refine S_iload_1 (q := 2) dX10_probe_1 rfl ?_
  refine S_iload_2 (q := 3) dX10_probe_2 rfl ?_
  refine S_callV2i (q := 6) dX10_probe_3 lk_X10_195 (by first | assumption | rfl) rfl rfl (k_X10_isCell g0 g1 hr8 hc8 hr1 hc1) rfl rfl (Nat.le_of_ble_eq_true rfl) ⟨Nat.le_of_ble_eq_true rfl, Nat.le_of_ble_eq_true rfl⟩ ⟨Nat.le_of_ble_eq_true rfl, Nat.le_of_ble_eq_true rfl⟩ rfl (fun v3 M3 hv3 => ?_)
  obtain ⟨e3, rfl⟩ := hv3
  rw [e3]
  refine S_if_ne (t := 11) (q := 9) dX10_probe_6 (by decide) rfl (fun hb6 => ?_) (fun hb6 => ?_)
  · obtain ⟨i, j, hi, hj, rfl, rfl, hl⟩ := cl_ok (A := A) hP (bI_n.mp hb6)
    have hij := cel_lt hi hj
    have hg := RGr.at hC.1 hi hj
    have hij64 : 8 * i + j < 64 := by omega
    refine S_aload_0 (q := 12) dX10_probe_11 rfl ?_
    refine S_iload_3 (q := 13) dX10_probe_12 rfl ?_
    refine S_callV1i (q := 16) dX10_probe_13 lk_X10_205 (by first | assumption | rfl) rfl rfl (k_X10_isColor g2) rfl rfl (Nat.le_of_ble_eq_true rfl) ⟨Nat.le_of_ble_eq_true rfl, Nat.le_of_ble_eq_true rfl⟩ ⟨Nat.le_of_ble_eq_true rfl, Nat.le_of_ble_eq_true rfl⟩ rfl (fun v13 M13 hv13 => ?_)
    obtain ⟨e13, rfl⟩ := hv13
    rw [e13]
    refine S_if_ne (t := 22) (q := 19) dX10_probe_16 (by decide) rfl (fun hb16 => ?_) (fun hb16 => ?_)
    · obtain ⟨m, hm, rfl, hw⟩ := iw0 (show A.P.k < 2 ^ 31 by omega) (bI_n.mp hb16)
      refine S_aload_0 (q := 23) dX10_probe_22 rfl ?_
      refine S_getR (q := 26) dX10_probe_23 fl_X10_22 (by first | assumption | rfl) (by rfl) rfl ?_
      refine S_bipush (q := 28) (nI 8) dX10_probe_26 (by decide) rfl ?_
      refine S_iload_1 (q := 29) dX10_probe_28 rfl ?_
      refine S_imul (q := 30) dX10_probe_29 rfl ?_
      refine S_iload_2 (q := 31) dX10_probe_30 rfl ?_
      refine S_iadd (q := 32) dX10_probe_31 rfl ?_
      refine S_ialdV (i := 8 * i + j) (val := nI (A.f (i * A.P.c + j))) (q := 33) dX10_probe_32 (by first | assumption | rfl) (by first | (simp only [nI_add, pk_mul, nI_1]; done) | rfl) (by omega) (by decide) hg.1 rfl ?_
      refine S_istore_4 (q := 35) dX10_probe_33 rfl ?_
      refine S_iload_4 (q := 37) dX10_probe_35 rfl ?_
      refine S_iload_3 (q := 38) dX10_probe_37 rfl ?_
      refine S_ishr (q := 39) dX10_probe_38 rfl ?_
      refine S_iconst (q := 40) (nI 1) dX10_probe_39 (by decide) rfl ?_
      refine S_iand (q := 41) dX10_probe_40 rfl ?_
      rw [tb_if (by omega) (show m < 32 by omega)]
      refine S_if_eq (t := 52) (q := 44) dX10_probe_41 (by decide) rfl (fun hb41 => ?_) (fun hb41 => ?_)
      · have hd : ¬ (A.f (i * A.P.c + j)).testBit m = true := fun y => by rw [if_pos y] at hb41; exact absurd hb41 (by decide)
        refine S_bipush (q := 54) (-5) dX10_probe_52 (by decide) rfl ?_
        exact S_iret rfl dX10_probe_54 rfl rfl (RSR.same hC (by unfold o_probe; rw [show A.cn2 (nI i) (nI j) (nI m) = .inl (-5) by unfold Ab.cn2 Ab.cn; rw [hl]; simp only; rw [show iw (nI m) 0 A.P.k = some m from hw]; simp only [if_neg hd]]))
      · have hd : (A.f (i * A.P.c + j)).testBit m = true := Decidable.byContradiction (fun y => hb41 (by rw [if_neg y]; rfl))
        refine S_iload_4 (q := 46) dX10_probe_44 rfl ?_
        refine S_iconst (q := 47) (nI 1) dX10_probe_46 (by decide) rfl ?_
        refine S_iload_3 (q := 48) dX10_probe_47 rfl ?_
        refine S_ishl (q := 49) dX10_probe_48 rfl ?_
        rw [nI_shl (show m < 32 by omega) (by rw [Nat.one_mul]; exact Nat.lt_trans (p2_16 (show m ≤ 3 by omega)).2 (by decide)), Nat.one_mul]
        refine S_icmp_ne (t := 55) (q := 52) dX10_probe_49 (by decide) rfl (fun hb49 => ?_) (fun hb49 => ?_)
        · have h1 : ¬ pc4 (A.f (i * A.P.c + j)) = 1 := fun y => hb49 ((only_c _ hg.2.2 m (by omega) hd).mpr y)
          refine S_aload_0 (q := 56) dX10_probe_55 rfl ?_
          refine S_iconst (q := 57) (nI 0) dX10_probe_56 (by decide) rfl ?_
          refine S_bipush (q := 59) (nI 8) dX10_probe_57 (by decide) rfl ?_
          refine S_iload_1 (q := 60) dX10_probe_59 rfl ?_
          refine S_imul (q := 61) dX10_probe_60 rfl ?_
          refine S_iload_2 (q := 62) dX10_probe_61 rfl ?_
          refine S_iadd (q := 63) dX10_probe_62 rfl ?_
          refine S_iload_3 (q := 64) dX10_probe_63 rfl ?_
          rw [pk_mul, nI_add, ← gx_at hj]
          refine S_callV3i (q := 67) dX10_probe_64 lk_X10_242 (by first | assumption | rfl) rfl rfl (k_X10_fails hC hk (s := 0) (x := i * A.P.c + j) gce (by decide) hij (show m ≤ 3 by omega)) rfl rfl (Nat.le_of_ble_eq_true rfl) ⟨Nat.le_of_ble_eq_true rfl, Nat.le_of_ble_eq_true rfl⟩ ⟨Nat.le_of_ble_eq_true rfl, Nat.le_of_ble_eq_true rfl⟩ rfl (fun v64 M64 hv64 => ?_)
          obtain ⟨hp1, hp2, hp3, hp4, hp5, hp6⟩ := hv64
          refine S_if_eq (t := 74) (q := 70) dX10_probe_67 (by decide) rfl (fun hb67 => ?_) (fun hb67 => ?_)
          · obtain ⟨z9, hz⟩ : ∃ z, spr A.P (upf A.f (i * A.P.c + j) (2 ^ m)) = .inr z := by
              cases e : spr A.P (upf A.f (i * A.P.c + j) (2 ^ m)) with
              | inl j9 => exact absurd ((hp5 j9 e).symm.trans hb67) (by decide)
              | inr q => exact ⟨q, rfl⟩
            refine S_iconst (q := 75) (nI 0) dX10_probe_74 (by decide) rfl ?_
            exact S_iret rfl dX10_probe_75 rfl rfl (RSR.to hp1 hp2 (by unfold o_probe; rw [show A.cn2 (nI i) (nI j) (nI m) = .inr (i * A.P.c + j, m) by unfold Ab.cn2 Ab.cn; rw [hl]; simp only; rw [show iw (nI m) 0 A.P.k = some m from hw]; simp only [if_pos hd, if_neg h1]]; simp only; rw [hz]))
          · obtain ⟨j9, hz⟩ : ∃ j9, spr A.P (upf A.f (i * A.P.c + j) (2 ^ m)) = .inl j9 := by
              cases e : spr A.P (upf A.f (i * A.P.c + j) (2 ^ m)) with
              | inl j9 => exact ⟨j9, rfl⟩
              | inr q => exact absurd (hp6 q e) hb67
            refine S_iconst (q := 71) (nI 1) dX10_probe_70 (by decide) rfl ?_
            refine S_goto (t := 75) dX10_probe_71 (by decide) ?_
            exact S_iret rfl dX10_probe_75 rfl rfl (RSR.to hp1 hp2 (by unfold o_probe; rw [show A.cn2 (nI i) (nI j) (nI m) = .inr (i * A.P.c + j, m) by unfold Ab.cn2 Ab.cn; rw [hl]; simp only; rw [show iw (nI m) 0 A.P.k = some m from hw]; simp only [if_pos hd, if_neg h1]]; simp only; rw [hz]))
        · have h1 : pc4 (A.f (i * A.P.c + j)) = 1 := (only_c _ hg.2.2 m (by omega) hd).mp hb49
          refine S_bipush (q := 54) (-5) dX10_probe_52 (by decide) rfl ?_
          exact S_iret rfl dX10_probe_54 rfl rfl (RSR.same hC (by unfold o_probe; rw [show A.cn2 (nI i) (nI j) (nI m) = .inl (-5) by unfold Ab.cn2 Ab.cn; rw [hl]; simp only; rw [show iw (nI m) 0 A.P.k = some m from hw]; simp only [if_pos hd, if_pos h1]]))
    · have hw := iw_no (bI_0.mp hb16)
      refine S_bipush (q := 21) (-2) dX10_probe_19 (by decide) rfl ?_
      exact S_iret rfl dX10_probe_21 rfl rfl (RSR.same hC (by unfold o_probe; rw [show A.cn2 (nI i) (nI j) k = .inl (-2) by unfold Ab.cn2 Ab.cn; rw [hl]; simp only; rw [show iw k 0 A.P.k = none from hw]]))
  · have hl := cl_no (A := A) (bI_0.mp hb6)
    refine S_iconst (q := 10) (-1) dX10_probe_9 (by decide) rfl ?_
    exact S_iret rfl dX10_probe_10 rfl rfl (RSR.same hC (by unfold o_probe; rw [show A.cn2 x z k = .inl (-1) by unfold Ab.cn2 Ab.cn; rw [hl]]))
