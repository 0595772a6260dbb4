theorem RR.fra {M M1 : Mem} {A : Ab} (h : RR M A) (hk : A.ok) (h0 : ∀ k, (k ≤ 3 ∨ k = 8 ∨ k = 13 ∨ k = 14 ∨ k = 35 ∨ k = 36 ∨ 40 ≤ k) → M1 140 k = M 140 k) (h1 : ∀ a, ((142 ≤ a ∧ a ≤ 148) ∨ a = 154 ∨ a = 155 ∨ 159 ≤ a) → M1 a = M a) (h2 : ∀ x, x < 64 → M1 141 x = M 141 x) (hq : Rask M1) : RR M1 A := by
  obtain ⟨a1, a2, a3, a4, a5, a6, a7, a8, a9⟩ := h
  exact ⟨a1.fr hk.P (fun k hk => h0 k (by omega)) (fun a b c => h1 a (by omega)) h2, by rw [h0 3 (by omega)]; exact a2, a3.fr hk.H (h0 8 (by omega)) (fun a b c => h1 a (by omega)), a4.fr (h0 13 (by omega)) (h0 14 (by omega)), hq, a6.fr (h0 35 (by omega)) (h1 154 (by omega)), a7.fr (h0 36 (by omega)) (h1 155 (by omega)), a8.fr (fun k a b => h0 k (by omega)) (fun a b c => h1 a (by omega)), a9.fr (fun a b c => h1 a (by omega))⟩
theorem lnS_sub {P : Pz} {f : Nat → Nat} {i x k : Nat} (hP : P.ok) (h : (lnS P f i x).testBit k = true) : (f x).testBit k = true := by
  by_cases c : ∃ q, q < lnLen P.r P.c i ∧ x = lnCell P.r P.c i q
  · obtain ⟨q, hq, e⟩ := c
    subst e
    rw [lnS_at hP.c1 hq] at h
    exact kpL_sub hP hq k h
  · rw [lnS_out (fun q hq e => c ⟨q, hq, e⟩)] at h
    exact h
theorem pas_sub {P : Pz} (hP : P.ok) : ∀ (d : Nat) (f g : Nat → Nat), pas P f d = .inr g → ∀ x k, (g x).testBit k = true → (f x).testBit k = true := by
  intro d
  induction d with
  | zero => intro f g h x k hk; cases h; exact hk
  | succ d ih =>
    intro f g h x k hk
    rw [pas] at h
    split at h
    · cases h
    · exact lnS_sub hP (ih _ g h x k hk)
theorem spr_sub {P : Pz} (hP : P.ok) : ∀ (w : Nat) (f g : Nat → Nat) (n : Nat), WT P f = w → spr P f = .inr (g, n) → ∀ x k, (g x).testBit k = true → (f x).testBit k = true := by
  intro w
  induction w using Nat.strongRecOn with
  | ind w ih =>
    intro f g n hw h x k hk
    rw [spr] at h
    cases e : pas P f (P.r + P.c) with
    | inl j => rw [e] at h; cases h
    | inr g1 =>
      rw [e] at h
      simp only at h
      split at h
      · rename_i hl
        cases e2 : spr P g1 with
        | inl j => rw [e2] at h; cases h
        | inr z =>
          obtain ⟨z1, z2⟩ := z
          rw [e2] at h
          cases h
          exact pas_sub hP _ f g1 e x k (ih (WT P g1) (by omega) g1 _ z2 rfl e2 x k hk)
      · cases h
        exact pas_sub hP _ f _ e x k hk
theorem clr_sub : ∀ m, m < 16 → ∀ j, j < 4 → ∀ k, k < 4 → (clr m j).testBit k = true → m.testBit k = true := by decide +kernel
theorem bit_s : ∀ b, b < 16 → ∀ k, k < 4 → (nI b &&& nI (2 ^ k) = 0 ↔ ¬ b.testBit k = true) := by decide +kernel
theorem came_s (a : Nat) (ha : a < 16) (b : Nat) (hb : b < 16) (h : ∀ k, k < 4 → b.testBit k = true → a.testBit k = true) (k : Nat) (hk : k < 4) : ((nI a &&& nI b) &&& nI (2 ^ k) = 0 ↔ ¬ b.testBit k = true) := by
  rw [(andn a ha b hb h).2.2.2]
  exact bit_s b hb k hk
/-- how many cells of the grid come before a place -/
def Xc (r c a : Nat) : Nat := if a / 8 < r then a / 8 * c + min (a % 8) c else r * c
theorem Xc_s (a r c : Nat) (hc : c ≤ 8) : ((a / 8 < r ∧ a % 8 < c) → Xc r c a = a / 8 * c + a % 8 ∧ Xc r c (a + 1) = Xc r c a + 1) ∧ (¬ (a / 8 < r ∧ a % 8 < c) → Xc r c (a + 1) = Xc r c a) := by
  have hcase : ((a + 1) / 8 = a / 8 ∧ (a + 1) % 8 = a % 8 + 1 ∧ a % 8 < 7) ∨ ((a + 1) / 8 = a / 8 + 1 ∧ (a + 1) % 8 = 0 ∧ a % 8 = 7) := by omega
  unfold Xc
  generalize a / 8 = i at *
  generalize a % 8 = j at *
  rcases hcase with ⟨e1, e2, e3⟩ | ⟨e1, e2, e3⟩
  · rw [e1, e2]
    by_cases h1 : i < r
    · rw [if_pos h1, if_pos h1]
      constructor
      · rintro ⟨-, h2⟩; omega
      · intro h; omega
    · rw [if_neg h1, if_neg h1]
      exact ⟨fun y => absurd y.1 h1, fun _ => rfl⟩
  · rw [e1, e2]
    by_cases h1 : i < r
    · rw [if_pos h1]
      by_cases h2 : i + 1 < r
      · rw [if_pos h2, Nat.succ_mul]
        constructor
        · rintro ⟨-, h3⟩; omega
        · intro h; omega
      · rw [if_neg h2, show r = i + 1 by omega, Nat.succ_mul]
        constructor
        · rintro ⟨-, h3⟩; omega
        · intro h; omega
    · rw [if_neg h1, if_neg (by omega)]
      exact ⟨fun y => absurd y.1 h1, fun _ => rfl⟩
theorem Xc_64 : ∀ r, r < 9 → ∀ c, c < 9 → Xc r c 64 = r * c := by decide +kernel
theorem nneg_ix {x : Int32} (h : x < 0) (n : Nat) : ix x n = none := ix_no (fun y => absurd h (Int32.not_lt.mpr y.1))
theorem nI_ge' {a : Nat} {x : Int32} (h : nI a ≤ x) (h2 : x < nI a) : False := Int32.not_lt.mpr h h2
set_option maxHeartbeats 4000000 in
set_option maxRecDepth 100000 in
theorem k_X10_assignmentColor {l : Launch} {G : Gd} {b0 : Nat} {M : Mem} {A : Ab} {x m0 z : Int32}  (hC : RR M A) (hk : A.ok)  : Ct l G b0 yX10_assignmentColor cX10_assignmentColor 4 (some .int) (rmZ 11 410) LAY LAY M [.ref (b0 + 140), .int x, .int m0, .int z] (fun v M' => RSR M (o_asc A x m0 z) v M') := by
  obtain ⟨⟨g0, g1, g2, gcu, gce⟩, hru, hhi, hbad, hask, htx, hfo, hsn, htb⟩ := id hC
  have hP := hk.P
  have hr1 := hP.r1
  have hr8 := hP.r8
  have hc1 := hP.c1
  have hc8 := hP.c8
  have hk1 := hP.k1
  have hk3 := hP.k3
  have h64 := rc64 hr8 hc8
  have hH8 := hk.H8
  have hN : A.N = A.P.r + A.P.c := rfl
  refine Ct.of [some (.ref (b0 + 140)), some (.int x), some (.int m0), some (.int z)] (by decide) (Nat.le_of_ble_eq_true rfl) rfl rfl ?_
  refine S_aload_0 (q := 1) dX10_assignmentColor_0 rfl ?_
  refine S_iload_1 (q := 2) dX10_assignmentColor_1 rfl ?_
  refine S_callV1i (q := 5) dX10_assignmentColor_2 lk_X10_180 (by first | assumption | rfl) rfl rfl (k_X10_isLine g0 g1 hr8 hc8 hr1 hc1) rfl rfl (Nat.le_of_ble_eq_true rfl) ⟨Nat.le_of_ble_eq_true rfl, Nat.le_of_ble_eq_true rfl⟩ ⟨Nat.le_of_ble_eq_true rfl, Nat.le_of_ble_eq_true rfl⟩ rfl (fun v2 M2 hv2 => ?_)
  obtain ⟨e2, rfl⟩ := hv2
  rw [e2]
  refine S_if_eq (t := 28) (q := 8) dX10_assignmentColor_5 (by decide) rfl (fun hb5 => ?_) (fun hb5 => ?_)
  · have hl := ln_no (A := A) (bI_0.mp hb5)
    refine S_iconst (q := 29) (-1) dX10_assignmentColor_28 (by decide) rfl ?_
    exact S_iret rfl dX10_assignmentColor_29 rfl rfl (RSR.same hC (by unfold o_asc; rw [hl]))
  · obtain ⟨i, hi, rfl, hl⟩ := ln_ok (A := A) hP (bI_n.mp hb5)
    have hi16 : i < 16 := by omega
    refine S_iload_2 (q := 9) dX10_assignmentColor_8 rfl ?_
    refine S_if_lt (t := 28) (q := 12) dX10_assignmentColor_9 (by decide) rfl (fun hb9 => ?_) (fun hb9 => ?_)
    · have hm0 := nneg_ix hb9 (wyL A.P A.f i)
      refine S_iconst (q := 29) (-1) dX10_assignmentColor_28 (by decide) rfl ?_
      exact S_iret rfl dX10_assignmentColor_29 rfl rfl (RSR.same hC (by unfold o_asc; rw [hl]; simp only [hm0]; split <;> rfl))
    · obtain ⟨m, hm, rfl⟩ := nI_of hb9
      refine S_aload_0 (q := 13) dX10_assignmentColor_12 rfl ?_
      refine S_iload_3 (q := 14) dX10_assignmentColor_13 rfl ?_
      refine S_iconst (q := 15) (nI 0) dX10_assignmentColor_14 (by decide) rfl ?_
      refine S_aload_0 (q := 16) dX10_assignmentColor_15 rfl ?_
      refine S_iload_1 (q := 17) dX10_assignmentColor_16 rfl ?_
      refine S_callV1i (q := 20) dX10_assignmentColor_17 lk_X10_214 (by first | assumption | rfl) rfl rfl (k_X10_size g0 g1 hr8 hc8 hr1 hc1 hi16) rfl rfl (Nat.le_of_ble_eq_true rfl) ⟨Nat.le_of_ble_eq_true rfl, Nat.le_of_ble_eq_true rfl⟩ ⟨Nat.le_of_ble_eq_true rfl, Nat.le_of_ble_eq_true rfl⟩ rfl (fun v17 M17 hv17 => ?_)
      obtain ⟨e17, rfl⟩ := hv17
      rw [e17]
      have hl8 := lnLen_le (i := i) hr8 hc8
      refine S_iconst (q := 21) (nI 1) dX10_assignmentColor_20 (by decide) rfl ?_
      refine S_isub (q := 22) dX10_assignmentColor_21 rfl ?_
      refine S_callV3i (q := 25) dX10_assignmentColor_22 lk_X10_172 (by first | assumption | rfl) rfl rfl (k_X10_within) rfl rfl (Nat.le_of_ble_eq_true rfl) ⟨Nat.le_of_ble_eq_true rfl, Nat.le_of_ble_eq_true rfl⟩ ⟨Nat.le_of_ble_eq_true rfl, Nat.le_of_ble_eq_true rfl⟩ rfl (fun v22 M22 hv22 => ?_)
      obtain ⟨e22, rfl⟩ := hv22
      rw [e22]
      refine S_if_ne (t := 30) (q := 28) dX10_assignmentColor_25 (by decide) rfl (fun hb25 => ?_) (fun hb25 => ?_)
      · obtain ⟨q, hq, rfl, hz⟩ := ix_ok (n := lnLen A.P.r A.P.c i) (by omega) ((ix_iw (by omega)).mp (bI_n.mp hb25))
        refine S_aload_0 (q := 31) dX10_assignmentColor_30 rfl ?_
        refine S_iload_2 (q := 32) dX10_assignmentColor_31 rfl ?_
        refine S_putI (q := 35) dX10_assignmentColor_32 fp_X10_71 (by first | assumption | rfl) (by rfl) rfl (by rfl) rfl ?_
        refine S_aload_0 (q := 36) dX10_assignmentColor_35 rfl ?_
        refine S_iload_3 (q := 37) dX10_assignmentColor_36 rfl ?_
        refine S_putI (q := 40) dX10_assignmentColor_37 fp_X10_74 (by first | assumption | rfl) (by rfl) rfl (by rfl) rfl ?_
        refine S_aload_0 (q := 41) dX10_assignmentColor_40 rfl ?_
        refine S_iconst (q := 42) (nI 0) dX10_assignmentColor_41 (by decide) rfl ?_
        refine S_iload_1 (q := 43) dX10_assignmentColor_42 rfl ?_
        refine S_callV2v (q := 46) dX10_assignmentColor_43 lk_X10_224 (by first | assumption | rfl) rfl rfl (k_X10_assignAll (bb := 0) (ask := nI m) (ap := q) hP (by decide) hi (by omega) (.inl hq) ⟨by rw [up_eq, if_neg (by decide), up_eq, if_neg (by decide)]; exact g0, by rw [up_eq, if_neg (by decide), up_eq, if_neg (by decide)]; exact g1, gcu.fr (by rw [up_n (by decide), up_n (by decide)]) (by rw [up_n (by decide), up_n (by decide)]) (by rw [up_n (by decide), up_n (by decide)]), fun x hx => by rw [up_n (by decide), up_n (by decide)]; exact gce x hx, by rw [up_eq, if_neg (by decide), up_s], up_s⟩) rfl rfl (Nat.le_of_ble_eq_true rfl) ⟨Nat.le_of_ble_eq_true rfl, Nat.le_of_ble_eq_true rfl⟩ ⟨Nat.le_of_ble_eq_true rfl, Nat.le_of_ble_eq_true rfl⟩ rfl (fun v43 M43 hv43 => ?_)
        obtain ⟨hs1, hs2, hs3, hs4, hs5⟩ := hv43
        have hwl : wyL A.P A.f i < 2 ^ 30 := Nat.lt_of_le_of_lt (wy_256 (fun j z => hP.h1 i j z) hl8 (Nat.zero_le _)) (by decide)
        refine S_aload_0 (q := 47) dX10_assignmentColor_46 rfl ?_
        refine S_iconst (q := 48) (-1) dX10_assignmentColor_47 (by decide) rfl ?_
        refine S_putI (q := 51) dX10_assignmentColor_48 fp_X10_71 (by first | assumption | rfl) (by rfl) rfl (by rfl) rfl ?_
        refine S_iload_2 (q := 52) dX10_assignmentColor_51 rfl ?_
        refine S_aload_0 (q := 53) dX10_assignmentColor_52 rfl ?_
        refine S_getI (q := 56) dX10_assignmentColor_53 fl_X10_68 (by first | assumption | rfl) (by rfl) rfl ?_
        rw [up_eq, if_neg (by decide), hs3]
        refine S_icmp_ge (t := 66) (q := 59) dX10_assignmentColor_56 (by decide) rfl (fun hb56 => ?_) (fun hb56 => ?_)
        · have hz2 : ix (nI m) (wyL A.P A.f i) = none := ix_no (fun y => nI_ge' hb56 y.2)
          refine S_iconst (q := 67) (-1) dX10_assignmentColor_66 (by decide) rfl ?_
          exact S_iret rfl dX10_assignmentColor_67 rfl rfl (RSR.to (hC.fra hk (fun k hk2 => by rw [up_eq, if_neg (by omega), hs2 k (by omega) (by omega) (by omega) (by omega), up_eq, if_neg (by omega), up_eq, if_neg (by omega)]) (fun a ha => by rw [up_n (by omega), hs1 a (by omega) (by omega) (by omega), up_n (by omega), up_n (by omega)]) (fun x hx => by rw [up_n (by decide), hs1 141 (by decide) (by decide) (by decide), up_n (by decide), up_n (by decide)]) ⟨up_s, q, by omega, by rw [up_eq, if_neg (by decide), hs2 21 (by decide) (by decide) (by decide) (by decide), up_s]⟩) (fun a ha => by rw [up_n (by omega), hs1 a (by omega) (by omega) (by omega), up_n (by omega), up_n (by omega)]) (by unfold o_asc; rw [hl]; simp only [hz, hz2]))
        · have hmw : m < wyL A.P A.f i := Nat.lt_of_not_le (fun y => hb56 ((nI_leI (by omega) hm).mpr y))
          have hz2 : ix (nI m) (wyL A.P A.f i) = some m := ix_at (by omega) hmw
          refine S_aload_0 (q := 60) dX10_assignmentColor_59 rfl ?_
          refine S_getI (q := 63) dX10_assignmentColor_60 fl_X10_77 (by first | assumption | rfl) (by rfl) rfl ?_
          rw [up_eq, if_neg (by decide), hs5 m hmw rfl]
          refine S_goto (t := 67) dX10_assignmentColor_63 (by decide) ?_
          exact S_iret rfl dX10_assignmentColor_67 rfl rfl (RSR.to (hC.fra hk (fun k hk2 => by rw [up_eq, if_neg (by omega), hs2 k (by omega) (by omega) (by omega) (by omega), up_eq, if_neg (by omega), up_eq, if_neg (by omega)]) (fun a ha => by rw [up_n (by omega), hs1 a (by omega) (by omega) (by omega), up_n (by omega), up_n (by omega)]) (fun x hx => by rw [up_n (by decide), hs1 141 (by decide) (by decide) (by decide), up_n (by decide), up_n (by decide)]) ⟨up_s, q, by omega, by rw [up_eq, if_neg (by decide), hs2 21 (by decide) (by decide) (by decide) (by decide), up_s]⟩) (fun a ha => by rw [up_n (by omega), hs1 a (by omega) (by omega) (by omega), up_n (by omega), up_n (by omega)]) (by unfold o_asc; rw [hl]; simp only [hz, hz2]))
      · have hz := ix_no (n := lnLen A.P.r A.P.c i) (fun y => bI_0.mp hb25 ((ix_iw (by omega)).mpr y))
        refine S_iconst (q := 29) (-1) dX10_assignmentColor_28 (by decide) rfl ?_
        exact S_iret rfl dX10_assignmentColor_29 rfl rfl (RSR.same hC (by unfold o_asc; rw [hl]; simp only [hz]))
set_option maxHeartbeats 4000000 in
set_option maxRecDepth 100000 in
theorem q_probeColors {l : Launch} {G : Gd} {b0 : Nat} {M : Mem} {Post : PT} {A : Ab} {f : Nat → Nat} {n x : Nat} {M0 : Mem} (hk : A.ok) (hx : x < A.P.r * A.P.c) (hC : RR M A) (hfr0 : ∀ a, a < 140 → M a = M0 a) (hce0 : RCE M 64 A.P f) (hst0 : (∀ i, i < A.P.r + A.P.c → stbl A.P f i)) (h250 : M 140 25 = nI n) (hbad : ∀ j m M2, prK A.P x (A.P.k + 1) f n = .inl (j, m) → RR M2 A → (∀ a, a < 140 → M2 a = M0 a) → M2 140 24 = nI j → M2 140 25 = nI m → Post (nI 0) M2) (k : ∀ g m M2, prK A.P x (A.P.k + 1) f n = .inr (g, m) → RR M2 A → (∀ a, a < 140 → M2 a = M0 a) → RCE M2 64 A.P g → (∀ i, i < A.P.r + A.P.c → stbl A.P g i) → M2 140 25 = nI m → S l G b0 yX10_probeRound cX10_probeRound 4 (some .boolean) (rmZ 14 483) LAY Post 0 0 0 0 LAY 140 [some (.ref (b0 + 140)), some (.int (nI (gx A.P.c x))), none, none] [] M2) : S l G b0 yX10_probeRound cX10_probeRound 4 (some .boolean) (rmZ 14 483) LAY Post 0 0 0 0 LAY 45 [some (.ref (b0 + 140)), some (.int (nI (gx A.P.c x))), some (.int (nI (f x))), some (.int (nI (0)))] [] M := by
  have hP := hk.P
  have hr8 := hP.r8
  have hc8 := hP.c8
  have hc1 := hP.c1
  have hk3 := hP.k3
  have hx64 := (gx_64 hr8 hc8 hc1 hx).1
  have hfx := (hce0 x hx).2
  suffices H : ∀ (d j : Nat) (g : Nat → Nat) (m : Nat) (M1 : Mem), A.P.k + 1 - j = d → j ≤ A.P.k + 1 → prK A.P x (A.P.k + 1 - j) g m = prK A.P x (A.P.k + 1) f n → RR M1 A → (∀ a, a < 140 → M1 a = M0 a) → RCE M1 64 A.P g → (∀ i, i < A.P.r + A.P.c → stbl A.P g i) → (∀ k, k < 4 → (g x).testBit k = true → (f x).testBit k = true) → M1 140 25 = nI m → S l G b0 yX10_probeRound cX10_probeRound 4 (some .boolean) (rmZ 14 483) LAY Post 0 0 0 0 LAY 45 [some (.ref (b0 + 140)), some (.int (nI (gx A.P.c x))), some (.int (nI (f x))), some (.int (nI (j)))] [] M1 from H _ 0 f n M rfl (Nat.zero_le _) rfl hC hfr0 hce0 hst0 (fun _ _ h => h) h250
  intro d
  induction d with
  | zero =>
    intro j g m M1 hd hj hpk hC1 hfr hce hst hsub h25
    have e : A.P.k + 1 = j := by omega
    subst e
    refine S_iload_3 (q := 46) dX10_probeRound_45 rfl ?_
    refine S_aload_0 (q := 47) dX10_probeRound_46 rfl ?_
    refine S_getI (q := 50) dX10_probeRound_47 fl_X10_16 (by first | assumption | rfl) (by rfl) rfl ?_
    rw [hC1.1.2.2.1]
    refine S_icmp_gt (t := 140) (q := 53) dX10_probeRound_50 (by decide) rfl (fun hb50 => ?_) (fun hb50 => ?_)
    · refine S_fgt2 ?_
      refine S_fgt3 ?_
      exact k g m M1 (by rw [← hpk, Nat.sub_self]; rfl) hC1 hfr hce hst h25
    · exact absurd ((nI_ltI (by omega) (by omega)).mpr (show A.P.k < A.P.k + 1 by omega)) hb50
  | succ d ih =>
    intro j g m M1 hd hj hpk hC1 hfr hce hst hsub h25
    have hgx := hce x hx
    refine S_iload_3 (q := 46) dX10_probeRound_45 rfl ?_
    refine S_aload_0 (q := 47) dX10_probeRound_46 rfl ?_
    refine S_getI (q := 50) dX10_probeRound_47 fl_X10_16 (by first | assumption | rfl) (by rfl) rfl ?_
    rw [hC1.1.2.2.1]
    refine S_icmp_gt (t := 140) (q := 53) dX10_probeRound_50 (by decide) rfl (fun hb50 => ?_) (fun hb50 => ?_)
    · exact absurd ((nI_ltI (by omega) (by omega)).mp hb50) (by omega)
    · refine S_iload_2 (q := 54) dX10_probeRound_53 rfl ?_
      refine S_aload_0 (q := 55) dX10_probeRound_54 rfl ?_
      refine S_getR (q := 58) dX10_probeRound_55 fl_X10_22 (by first | assumption | rfl) (by rfl) rfl ?_
      refine S_bipush (q := 60) (nI 64) dX10_probeRound_58 (by decide) rfl ?_
      refine S_iload_1 (q := 61) dX10_probeRound_60 rfl ?_
      refine S_iadd (q := 62) dX10_probeRound_61 rfl ?_
      refine S_ialdV (i := 64 + gx A.P.c x) (val := nI (g x)) (q := 63) dX10_probeRound_62 (by first | assumption | rfl) (by first | (simp only [nI_add, pk_mul, nI_1]; done) | rfl) (by omega) (by decide) hgx.1 rfl ?_
      refine S_iand (q := 64) dX10_probeRound_63 rfl ?_
      refine S_iconst (q := 65) (nI 1) dX10_probeRound_64 (by decide) rfl ?_
      refine S_iload_3 (q := 66) dX10_probeRound_65 rfl ?_
      refine S_ishl (q := 67) dX10_probeRound_66 rfl ?_
      rw [nI_shl (show j < 32 by omega) (by rw [Nat.one_mul]; exact Nat.lt_trans (p2_16 (show j ≤ 3 by omega)).2 (by decide)), Nat.one_mul]
      refine S_iand (q := 68) dX10_probeRound_67 rfl ?_
      refine S_if_eq (t := 134) (q := 71) dX10_probeRound_68 (by decide) rfl (fun hb68 => ?_) (fun hb68 => ?_)
      · have hbt : ¬ (g x).testBit j = true := (came_s _ hfx.2 _ hgx.2.2 hsub j (by omega)).mp hb68
        have hno : ¬ fls A.P g x j := fun y => hbt y.1
        rw [prK_skip (show j < A.P.k + 1 by omega) hno] at hpk
        refine S_iinc_3 (q := 137) (nI (j + 1)) dX10_probeRound_134 (inc1 _) rfl ?_
        refine S_goto (t := 45) dX10_probeRound_137 (by decide) ?_
        exact ih (j + 1) g m M1 (by omega) (by omega) hpk hC1 hfr hce hst hsub h25
      · have hbt : (g x).testBit j = true := Decidable.byContradiction (fun y => hb68 ((came_s _ hfx.2 _ hgx.2.2 hsub j (by omega)).mpr y))
        refine S_aload_0 (q := 72) dX10_probeRound_71 rfl ?_
        refine S_bipush (q := 74) (nI 64) dX10_probeRound_72 (by decide) rfl ?_
        refine S_iload_1 (q := 75) dX10_probeRound_74 rfl ?_
        refine S_iadd (q := 76) dX10_probeRound_75 rfl ?_
        rw [nI_add]
        refine S_callV1i (q := 79) dX10_probeRound_76 lk_X10_198 (by first | assumption | rfl) rfl rfl (k_X10_isDecided (x := 64 + gx A.P.c x) (by omega) hgx.1 hgx.2.1 hgx.2.2) rfl rfl (Nat.le_of_ble_eq_true rfl) ⟨Nat.le_of_ble_eq_true rfl, Nat.le_of_ble_eq_true rfl⟩ ⟨Nat.le_of_ble_eq_true rfl, Nat.le_of_ble_eq_true rfl⟩ rfl (fun v76 M76 hv76 => ?_)
        obtain ⟨e76, rfl⟩ := hv76
        rw [e76]
        refine S_if_ne (t := 134) (q := 82) dX10_probeRound_79 (by decide) rfl (fun hb79 => ?_) (fun hb79 => ?_)
        · have hdd : pc4 (g x) = 1 := bI_n.mp hb79
          have hno : ¬ fls A.P g x j := fun y => y.2.1 hdd
          rw [prK_skip (show j < A.P.k + 1 by omega) hno] at hpk
          refine S_iinc_3 (q := 137) (nI (j + 1)) dX10_probeRound_134 (inc1 _) rfl ?_
          refine S_goto (t := 45) dX10_probeRound_137 (by decide) ?_
          exact ih (j + 1) g m M1 (by omega) (by omega) hpk hC1 hfr hce hst hsub h25
        · have hdd : ¬ pc4 (g x) = 1 := bI_0.mp hb79
          refine S_aload_0 (q := 83) dX10_probeRound_82 rfl ?_
          refine S_bipush (q := 85) (nI 64) dX10_probeRound_83 (by decide) rfl ?_
          refine S_iload_1 (q := 86) dX10_probeRound_85 rfl ?_
          refine S_iload_3 (q := 87) dX10_probeRound_86 rfl ?_
          refine S_callV3i (q := 90) dX10_probeRound_87 lk_X10_242 (by first | assumption | rfl) rfl rfl (k_X10_fails hC1 hk (s := 64) (x := x) hce (by decide) hx (show j ≤ 3 by omega)) rfl rfl (Nat.le_of_ble_eq_true rfl) ⟨Nat.le_of_ble_eq_true rfl, Nat.le_of_ble_eq_true rfl⟩ ⟨Nat.le_of_ble_eq_true rfl, Nat.le_of_ble_eq_true rfl⟩ rfl (fun v87 M87 hv87 => ?_)
          obtain ⟨hp1, hp2, hp3, hp4, hp5, hp6⟩ := hv87
          refine S_if_ne (t := 96) (q := 93) dX10_probeRound_90 (by decide) rfl (fun hb90 => ?_) (fun hb90 => ?_)
          · have hfl : fls A.P g x j := ⟨hbt, hdd, by
              cases e : spr A.P (upf g x (2 ^ j)) with
              | inl i => exact ⟨i, rfl⟩
              | inr z => exact absurd (hp6 z e) hb90⟩
            refine S_aload_0 (q := 97) dX10_probeRound_96 rfl ?_
            refine S_dup (q := 98) dX10_probeRound_97 rfl rfl ?_
            refine S_getI (q := 101) dX10_probeRound_98 fl_X10_86 (by first | assumption | rfl) (by rfl) rfl ?_
            rw [hp4 25 (by decide) (by decide) (by decide) (by decide) (by decide) (by decide), h25]
            refine S_iconst (q := 102) (nI 1) dX10_probeRound_101 (by decide) rfl ?_
            refine S_iadd (q := 103) dX10_probeRound_102 rfl ?_
            rw [nI_add]
            refine S_putI (q := 106) dX10_probeRound_103 fp_X10_86 (by first | assumption | rfl) (by rfl) rfl (by rfl) rfl ?_
            refine S_aload_0 (q := 107) dX10_probeRound_106 rfl ?_
            refine S_getR (q := 110) dX10_probeRound_107 fl_X10_22 (by first | assumption | rfl) (by rfl) rfl ?_
            refine S_bipush (q := 112) (nI 64) dX10_probeRound_110 (by decide) rfl ?_
            refine S_iload_1 (q := 113) dX10_probeRound_112 rfl ?_
            refine S_iadd (q := 114) dX10_probeRound_113 rfl ?_
            refine S_dup2 (q := 115) dX10_probeRound_114 rfl rfl rfl ?_
            refine S_ialdV (i := 64 + gx A.P.c x) (val := nI (g x)) (q := 116) dX10_probeRound_115 (by first | assumption | rfl) (by first | (simp only [nI_add, pk_mul, nI_1]; done) | rfl) (by omega) (by decide) (by rw [up_n (by decide), hp3 _ (by omega)]; exact hgx.1) rfl ?_
            refine S_iconst (q := 117) (nI 1) dX10_probeRound_116 (by decide) rfl ?_
            refine S_iload_3 (q := 118) dX10_probeRound_117 rfl ?_
            refine S_ishl (q := 119) dX10_probeRound_118 rfl ?_
            refine S_iconst (q := 120) (-1) dX10_probeRound_119 (by decide) rfl ?_
            refine S_ixor (q := 121) dX10_probeRound_120 rfl ?_
            rw [nI_shl (show j < 32 by omega) (by rw [Nat.one_mul]; exact Nat.lt_trans (p2_16 (show j ≤ 3 by omega)).2 (by decide)), Nat.one_mul]
            refine S_iand (q := 122) dX10_probeRound_121 rfl ?_
            rw [nI_clr (by omega) (show j < 32 by omega)]
            refine S_iastE (i := 64 + gx A.P.c x) (q := 123) dX10_probeRound_122 (by first | assumption | rfl) (by first | (simp only [nI_add, pk_mul, nI_1]; done) | rfl) (by omega) (by decide) rfl ?_
            have hcl := clr_ok _ hgx.2.2 j (by omega) hbt
            have hC4 : RR (up (up M87 140 25 (nI (m + 1))) 141 (64 + gx A.P.c x) (nI (clr (g x) j))) A := RR.up64 (hp1.fr hk (fun k hk2 => by rw [up_eq, if_neg (by omega)]) (fun a ha => up_n (by omega)) (fun z hz => by rw [up_n (by decide)])) hk (by omega)
            have hw4 : RCE (up (up M87 140 25 (nI (m + 1))) 141 (64 + gx A.P.c x) (nI (clr (g x) j))) 64 A.P (upf g x (clr (g x) j)) := RCE.up (hce.fr hP (fun z hz => by rw [up_n (by decide), hp3 _ (by omega)])) hP hx (clr_1 hgx.2.2 hbt hdd) hcl.1
            have hf4 : ∀ a, a < 140 → up (up M87 140 25 (nI (m + 1))) 141 (64 + gx A.P.c x) (nI (clr (g x) j)) a = M0 a := fun a ha => by rw [up_n (by omega), up_n (by omega), hp2 a ha]; exact hfr a ha
            obtain ⟨ap, hap, hW⟩ := hC4.lw hw4
            have h256 := WT_le hP (f := upf g x (clr (g x) j))
            refine S_aload_0 (q := 124) dX10_probeRound_123 rfl ?_
            refine S_bipush (q := 126) (nI 64) dX10_probeRound_124 (by decide) rfl ?_
            refine S_callV1i (q := 129) dX10_probeRound_126 lk_X10_239 (by first | assumption | rfl) rfl rfl (k_X10_spread hP (by decide) hap rfl hW) rfl rfl (Nat.le_of_ble_eq_true rfl) ⟨Nat.le_of_ble_eq_true rfl, Nat.le_of_ble_eq_true rfl⟩ ⟨Nat.le_of_ble_eq_true rfl, Nat.le_of_ble_eq_true rfl⟩ rfl (fun v126 M126 hv126 => ?_)
            obtain ⟨hq1, hq2, hq3⟩ := hv126
            obtain ⟨hC5, hf5⟩ := hC4.sp hk (b := 64) (by decide) hq1
            refine S_if_ge (t := 134) (q := 132) dX10_probeRound_129 (by decide) rfl (fun hb129 => ?_) (fun hb129 => ?_)
            · obtain ⟨g2, z2, hz⟩ : ∃ g2 z2, spr A.P (upf g x (clr (g x) j)) = .inr (g2, z2) := by
                cases e : spr A.P (upf g x (clr (g x) j)) with
                | inl i => rw [(hq2 i e).1] at hb129; exact absurd hb129 (by decide)
                | inr q => exact ⟨q.1, q.2, rfl⟩
              rw [prK_go (show j < A.P.k + 1 by omega) hfl hz] at hpk
              refine S_iinc_3 (q := 137) (nI (j + 1)) dX10_probeRound_134 (inc1 _) rfl ?_
              refine S_goto (t := 45) dX10_probeRound_137 (by decide) ?_
              exact ih (j + 1) g2 (m + 1) M126 (by omega) (by omega) hpk hC5 (fun a ha => by rw [hf5 a ha]; exact hf4 a ha) (hq3 g2 z2 hz).2.2 (spr_ok hP _ _ g2 z2 rfl hw4.gf hz).2.2.1 (fun k hk2 hb => hsub k hk2 (by
                have := spr_sub hP _ _ g2 z2 rfl hz x k hb
                rw [upf_s] at this
                exact clr_sub _ hgx.2.2 j (by omega) k hk2 this)) (by rw [hq1.2.1 25 (by decide) (by decide) (by decide) (by decide) (by decide) (by decide), up_n (by decide), up_s])
            · obtain ⟨i9, hz⟩ : ∃ i, spr A.P (upf g x (clr (g x) j)) = .inl i := by
                cases e : spr A.P (upf g x (clr (g x) j)) with
                | inl i => exact ⟨i, rfl⟩
                | inr q => rw [(hq3 q.1 q.2 e).1] at hb129; exact absurd (nI_pos' (by omega)) hb129
              refine S_iconst (q := 133) (nI 0) dX10_probeRound_132 (by decide) rfl ?_
              exact S_iret rfl dX10_probeRound_133 (by rfl) rfl (hbad i9 (m + 1) M126 (by rw [← hpk, prK_bad (show j < A.P.k + 1 by omega) hfl hz]) hC5 (fun a ha => by rw [hf5 a ha]; exact hf4 a ha) (hq2 i9 hz).2 (by rw [hq1.2.1 25 (by decide) (by decide) (by decide) (by decide) (by decide) (by decide), up_n (by decide), up_s]))
          · have hno : ¬ fls A.P g x j := fun y => by
              obtain ⟨i, e⟩ := y.2.2
              exact absurd ((hp5 i e).symm.trans hb90) (by decide)
            refine S_goto (t := 134) dX10_probeRound_93 (by decide) ?_
            rw [prK_skip (show j < A.P.k + 1 by omega) hno] at hpk
            refine S_iinc_3 (q := 137) (nI (j + 1)) dX10_probeRound_134 (inc1 _) rfl ?_
            refine S_goto (t := 45) dX10_probeRound_137 (by decide) ?_
            exact ih (j + 1) g m M87 (by omega) (by omega) hpk hp1 (fun a ha => by rw [hp2 a ha]; exact hfr a ha) (hce.fr hP (fun z hz => hp3 _ (by omega))) hst hsub (by rw [hp4 25 (by decide) (by decide) (by decide) (by decide) (by decide) (by decide)]; exact h25)
set_option maxHeartbeats 4000000 in
set_option maxRecDepth 100000 in
theorem k_X10_probeRound {l : Launch} {G : Gd} {b0 : Nat} {M : Mem} {A : Ab} {f0 : Nat → Nat} {n0 : Nat}  (hC : RR M A) (hk : A.ok) (hce0 : RCE M 64 A.P f0) (hst0 : (∀ i, i < A.P.r + A.P.c → stbl A.P f0 i)) (h250 : M 140 25 = nI n0)  : Ct l G b0 yX10_probeRound cX10_probeRound 4 (some .boolean) (rmZ 14 483) LAY LAY M [.ref (b0 + 140)] (fun v M' => RR M' A ∧ (∀ a, a < 140 → M' a = M a) ∧ (∀ j m, prX A.P (A.P.r * A.P.c) f0 n0 = .inl (j, m) → v = nI 0 ∧ M' 140 24 = nI j ∧ M' 140 25 = nI m) ∧ ∀ h m, prX A.P (A.P.r * A.P.c) f0 n0 = .inr (h, m) → v = nI 1 ∧ RCE M' 64 A.P h ∧ M' 140 25 = nI m) := by
  obtain ⟨⟨g0, g1, g2, gcu, gce⟩, hru, hhi, hbad, hask, htx, hfo, hsn, htb⟩ := id hC
  have hP := hk.P
  have hr1 := hP.r1
  have hr8 := hP.r8
  have hc1 := hP.c1
  have hc8 := hP.c8
  have hk1 := hP.k1
  have hk3 := hP.k3
  have h64 := rc64 hr8 hc8
  have hH8 := hk.H8
  have hN : A.N = A.P.r + A.P.c := rfl
  refine Ct.of [some (.ref (b0 + 140)), none, none, none] (by decide) (Nat.le_of_ble_eq_true rfl) rfl rfl ?_
  refine S_iconst (q := 1) (nI 0) dX10_probeRound_0 (by decide) rfl ?_
  refine S_istore_1 (q := 2) dX10_probeRound_1 rfl ?_
  suffices H : ∀ (d a : Nat) (g : Nat → Nat) (m : Nat) (M1 : Mem), 64 - a = d → a ≤ 64 → prX A.P (A.P.r * A.P.c - Xc A.P.r A.P.c a) g m = prX A.P (A.P.r * A.P.c) f0 n0 → RR M1 A → (∀ a, a < 140 → M1 a = M a) → RCE M1 64 A.P g → (∀ i, i < A.P.r + A.P.c → stbl A.P g i) → M1 140 25 = nI m → S l G b0 yX10_probeRound cX10_probeRound 4 (some .boolean) (rmZ 14 483) LAY (fun v M' => RR M' A ∧ (∀ a, a < 140 → M' a = M a) ∧ (∀ j m, prX A.P (A.P.r * A.P.c) f0 n0 = .inl (j, m) → v = nI 0 ∧ M' 140 24 = nI j ∧ M' 140 25 = nI m) ∧ ∀ h m, prX A.P (A.P.r * A.P.c) f0 n0 = .inr (h, m) → v = nI 1 ∧ RCE M' 64 A.P h ∧ M' 140 25 = nI m) 0 0 0 0 LAY 2 [some (.ref (b0 + 140)), some (.int (nI (a))), none, none] [] M1 from H _ 0 f0 n0 M rfl (by omega) (by rw [show Xc A.P.r A.P.c 0 = 0 by unfold Xc; rw [if_pos (by omega)]; simp, Nat.sub_zero]) hC (fun _ _ => rfl) hce0 hst0 h250
  intro d
  induction d with
  | zero =>
    intro a g m M1 hd ha hpx hC1 hfr hce hst h25
    have e : a = 64 := by omega
    subst e
    rw [Xc_64 _ (by omega) _ (by omega), Nat.sub_self] at hpx
    refine S_iload_1 (q := 3) dX10_probeRound_2 rfl ?_
    refine S_bipush (q := 5) (nI 64) dX10_probeRound_3 (by decide) rfl ?_
    refine S_icmp_ge (t := 146) (q := 8) dX10_probeRound_5 (by decide) rfl (fun hb5 => ?_) (fun hb5 => ?_)
    · refine S_iconst (q := 147) (nI 1) dX10_probeRound_146 (by decide) rfl ?_
      exact S_iret rfl dX10_probeRound_147 (by rfl) rfl (⟨hC1, hfr, fun j m2 e => (by rw [← hpx] at e; cases e), fun h m2 e => (by rw [← hpx] at e; cases e; exact ⟨rfl, hce, h25⟩)⟩)
    · exact absurd (Int32.le_refl _) hb5
  | succ d ih =>
    intro a g m M1 hd ha hpx hC1 hfr hce hst h25
    have hlt : a < 64 := by omega
    have hXs := Xc_s a A.P.r A.P.c hc8
    refine S_iload_1 (q := 3) dX10_probeRound_2 rfl ?_
    refine S_bipush (q := 5) (nI 64) dX10_probeRound_3 (by decide) rfl ?_
    refine S_icmp_ge (t := 146) (q := 8) dX10_probeRound_5 (by decide) rfl (fun hb5 => ?_) (fun hb5 => ?_)
    · exact absurd hb5 (nI_ge hlt (by omega))
    · refine S_iload_1 (q := 9) dX10_probeRound_8 rfl ?_
      refine S_bipush (q := 11) (nI 8) dX10_probeRound_9 (by decide) rfl ?_
      refine S_idiv (q := 12) dX10_probeRound_11 (by decide) rfl ?_
      rw [pk_div (by omega) (by decide) (by decide)]
      refine S_aload_0 (q := 13) dX10_probeRound_12 rfl ?_
      refine S_getI (q := 16) dX10_probeRound_13 fl_X10_7 (by first | assumption | rfl) (by rfl) rfl ?_
      rw [hC1.1.1]
      refine S_icmp_ge (t := 140) (q := 19) dX10_probeRound_16 (by decide) rfl (fun hb16 => ?_) (fun hb16 => ?_)
      · have hno : ¬ (a / 8 < A.P.r ∧ a % 8 < A.P.c) := fun y => nI_ge y.1 (by omega) hb16
        rw [← hXs.2 hno] at hpx
        refine S_iinc_1 (q := 143) (nI (a + 1)) dX10_probeRound_140 (inc1 _) rfl ?_
        refine S_goto (t := 2) dX10_probeRound_143 (by decide) ?_
        exact ih (a + 1) g m M1 (by omega) (by omega) hpx hC1 hfr hce hst h25
      · have h1 : a / 8 < A.P.r := Nat.lt_of_not_le (fun y => hb16 ((nI_leI (by omega) (by omega)).mpr y))
        refine S_iload_1 (q := 20) dX10_probeRound_19 rfl ?_
        refine S_bipush (q := 22) (nI 8) dX10_probeRound_20 (by decide) rfl ?_
        refine S_irem (q := 23) dX10_probeRound_22 (by decide) rfl ?_
        rw [pk_rem (by omega) (by decide) (by decide)]
        refine S_aload_0 (q := 24) dX10_probeRound_23 rfl ?_
        refine S_getI (q := 27) dX10_probeRound_24 fl_X10_13 (by first | assumption | rfl) (by rfl) rfl ?_
        rw [hC1.1.2.1]
        refine S_icmp_lt (t := 33) (q := 30) dX10_probeRound_27 (by decide) rfl (fun hb27 => ?_) (fun hb27 => ?_)
        · have h2 : a % 8 < A.P.c := (nI_ltI (by omega) (by omega)).mp hb27
          obtain ⟨x1, x2⟩ := hXs.1 ⟨h1, h2⟩
          have hx : Xc A.P.r A.P.c a < A.P.r * A.P.c := by rw [x1]; exact cel_lt h1 h2
          have hgxa : gx A.P.c (Xc A.P.r A.P.c a) = a := by rw [x1, gx_at h2]; omega
          have hgv := hce _ hx
          rw [hgxa] at hgv
          refine S_aload_0 (q := 34) dX10_probeRound_33 rfl ?_
          refine S_getR (q := 37) dX10_probeRound_34 fl_X10_22 (by first | assumption | rfl) (by rfl) rfl ?_
          refine S_bipush (q := 39) (nI 64) dX10_probeRound_37 (by decide) rfl ?_
          refine S_iload_1 (q := 40) dX10_probeRound_39 rfl ?_
          refine S_iadd (q := 41) dX10_probeRound_40 rfl ?_
          refine S_ialdV (i := 64 + a) (val := nI (g (Xc A.P.r A.P.c a))) (q := 42) dX10_probeRound_41 (by first | assumption | rfl) (by first | (simp only [nI_add, pk_mul, nI_1]; done) | rfl) (by omega) (by decide) hgv.1 rfl ?_
          refine S_istore_2 (q := 43) dX10_probeRound_42 rfl ?_
          refine S_iconst (q := 44) (nI 0) dX10_probeRound_43 (by decide) rfl ?_
          refine S_istore_3 (q := 45) dX10_probeRound_44 rfl ?_
          have hS45 : ∀ Y, Y = gx A.P.c (Xc A.P.r A.P.c a) → S l G b0 yX10_probeRound cX10_probeRound 4 (some .boolean) (rmZ 14 483) LAY (fun v M' => RR M' A ∧ (∀ a, a < 140 → M' a = M a) ∧ (∀ j m, prX A.P (A.P.r * A.P.c) f0 n0 = .inl (j, m) → v = nI 0 ∧ M' 140 24 = nI j ∧ M' 140 25 = nI m) ∧ ∀ h m, prX A.P (A.P.r * A.P.c) f0 n0 = .inr (h, m) → v = nI 1 ∧ RCE M' 64 A.P h ∧ M' 140 25 = nI m) 0 0 0 0 LAY 45 [some (.ref (b0 + 140)), some (.int (nI Y)), some (.int (nI (g (Xc A.P.r A.P.c a)))), some (.int (nI 0))] [] M1 := by
            intro Y hY
            subst hY
            refine q_probeColors (M0 := M) (f := g) (n := m) (x := Xc A.P.r A.P.c a) hk hx hC1 hfr hce hst h25 (fun j m2 M2 h1 h2 h3 h4 h5 => ?_) (fun g2 m2 M2 h1 h2 h3 h4 h5 h6 => ?_)
            · have e1 : prX A.P (A.P.r * A.P.c) f0 n0 = .inl (j, m2) := by rw [← hpx, prX_at hx, h1]
              exact ⟨h2, h3, fun j' m' e => (by rw [e1] at e; cases e; exact ⟨rfl, h4, h5⟩), fun h m' e => (by rw [e1] at e; cases e)⟩
            · rw [prX_at hx, h1, ← x2] at hpx
              rw [hgxa]
              refine S_iinc_1 (q := 143) (nI (a + 1)) dX10_probeRound_140 (inc1 _) rfl ?_
              refine S_goto (t := 2) dX10_probeRound_143 (by decide) ?_
              exact ih (a + 1) g2 m2 M2 (by omega) (by omega) hpx h2 h3 h4 h5 h6
          exact hS45 a hgxa.symm
        · have hno : ¬ (a / 8 < A.P.r ∧ a % 8 < A.P.c) := fun y => hb27 ((nI_ltI (by omega) (by omega)).mpr y.2)
          refine S_goto (t := 140) dX10_probeRound_30 (by decide) ?_
          rw [← hXs.2 hno] at hpx
          refine S_iinc_1 (q := 143) (nI (a + 1)) dX10_probeRound_140 (inc1 _) rfl ?_
          refine S_goto (t := 2) dX10_probeRound_143 (by decide) ?_
          exact ih (a + 1) g m M1 (by omega) (by omega) hpx hC1 hfr hce hst h25
set_option maxHeartbeats 4000000 in
set_option maxRecDepth 100000 in
theorem q_rprobe {l : Launch} {G : Gd} {b0 : Nat} {M : Mem} {A : Ab} {f0 : Nat → Nat} {z0 : Nat} (hC : RR M A) (hk : A.ok) (hs0 : spr A.P A.f = .inr (f0, z0)) : ∀ (w : Nat) (f : Nat → Nat) (n : Nat) (M1 : Mem) (z1 : Option Value), WT A.P f = w → RR M1 A → (∀ a, a < 140 → M1 a = M a) → RCE M1 64 A.P f → (∀ i, i < A.P.r + A.P.c → stbl A.P f i) → M1 140 25 = nI n → n + w < 2 ^ 20 → prA A.P f n = prA A.P f0 0 → S l G b0 yX10_probeAll cX10_probeAll 2 (some .int) (rmZ 15 506) LAY (fun v M' => RSR M (o_all A) v M') 0 0 0 0 LAY 41 [some (.ref (b0 + 140)), z1] [] M1 := by
  have hP := hk.P
  intro w
  induction w using Nat.strongRecOn with
  | ind w ih =>
    intro f n M1 z1 hwt hC1 hfr hce hst h25 hn hpr
    have h256 := WT_le hP (f := f)
    cases hx : prX A.P (A.P.r * A.P.c) f n with
    | inl e =>
      obtain ⟨j, m⟩ := e
      refine S_aload_0 (q := 42) dX10_probeAll_41 rfl ?_
      refine S_getI (q := 45) dX10_probeAll_42 fl_X10_86 (by first | assumption | rfl) (by rfl) rfl ?_
      rw [h25]
      refine S_istore_1 (q := 46) dX10_probeAll_45 rfl ?_
      refine S_aload_0 (q := 47) dX10_probeAll_46 rfl ?_
      refine S_callV0i (q := 50) dX10_probeAll_47 lk_X10_245 (by first | assumption | rfl) rfl rfl (k_X10_probeRound hC1 hk hce hst h25) rfl rfl (Nat.le_of_ble_eq_true rfl) ⟨Nat.le_of_ble_eq_true rfl, Nat.le_of_ble_eq_true rfl⟩ ⟨Nat.le_of_ble_eq_true rfl, Nat.le_of_ble_eq_true rfl⟩ rfl (fun v47 M47 hv47 => ?_)
      obtain ⟨hs1, hs2, hs3, hs4⟩ := hv47
      obtain ⟨rfl, e1, e2⟩ := hs3 j m hx
      refine S_if_ne (t := 33) (q := 53) dX10_probeAll_50 (by decide) rfl (fun hb50 => ?_) (fun hb50 => ?_)
      · exact absurd rfl hb50
      · refine S_aload_0 (q := 54) dX10_probeAll_53 rfl ?_
        refine S_aload_0 (q := 55) dX10_probeAll_54 rfl ?_
        refine S_getI (q := 58) dX10_probeAll_55 fl_X10_83 (by first | assumption | rfl) (by rfl) rfl ?_
        rw [e1]
        refine S_aload_0 (q := 59) dX10_probeAll_58 rfl ?_
        refine S_getI (q := 62) dX10_probeAll_59 fl_X10_86 (by first | assumption | rfl) (by rfl) rfl ?_
        rw [e2]
        refine S_callV2i (q := 65) dX10_probeAll_62 lk_X10_233 (by first | assumption | rfl) rfl rfl (k_X10_contradiction) rfl rfl (Nat.le_of_ble_eq_true rfl) ⟨Nat.le_of_ble_eq_true rfl, Nat.le_of_ble_eq_true rfl⟩ ⟨Nat.le_of_ble_eq_true rfl, Nat.le_of_ble_eq_true rfl⟩ rfl (fun v62 M62 hv62 => ?_)
        obtain ⟨e62, rfl⟩ := hv62
        rw [e62]
        exact S_iret rfl dX10_probeAll_65 rfl rfl (RSR.to (A := A.sB (some (j, m))) (hs1.sB hk (fun k h1 h2 => by rw [up_eq, if_neg (by omega), up_eq, if_neg (by omega)]) (fun a ha => by rw [up_n ha, up_n ha]) ⟨by rw [up_eq, if_neg (by decide), up_s], up_s⟩) (fun a ha => by rw [up_n (by omega), up_n (by omega), hs2 a ha, hfr a ha]) (by unfold o_all; rw [hs0]; simp only; rw [← hpr, prA_bad hx]))
    | inr q =>
      obtain ⟨g, m⟩ := q
      obtain ⟨r1, r2, r3, r4, r5⟩ := prX_ok hP (A.P.r * A.P.c) f n g m (Nat.le_refl _) hce.gf hst hx
      refine S_aload_0 (q := 42) dX10_probeAll_41 rfl ?_
      refine S_getI (q := 45) dX10_probeAll_42 fl_X10_86 (by first | assumption | rfl) (by rfl) rfl ?_
      rw [h25]
      refine S_istore_1 (q := 46) dX10_probeAll_45 rfl ?_
      refine S_aload_0 (q := 47) dX10_probeAll_46 rfl ?_
      refine S_callV0i (q := 50) dX10_probeAll_47 lk_X10_245 (by first | assumption | rfl) rfl rfl (k_X10_probeRound hC1 hk hce hst h25) rfl rfl (Nat.le_of_ble_eq_true rfl) ⟨Nat.le_of_ble_eq_true rfl, Nat.le_of_ble_eq_true rfl⟩ ⟨Nat.le_of_ble_eq_true rfl, Nat.le_of_ble_eq_true rfl⟩ rfl (fun v47 M47 hv47 => ?_)
      obtain ⟨hs1, hs2, hs3, hs4⟩ := hv47
      obtain ⟨rfl, e1, e2⟩ := hs4 g m hx
      refine S_if_ne (t := 33) (q := 53) dX10_probeAll_50 (by decide) rfl (fun hb50 => ?_) (fun hb50 => ?_)
      · refine S_iload_1 (q := 34) dX10_probeAll_33 rfl ?_
        refine S_aload_0 (q := 35) dX10_probeAll_34 rfl ?_
        refine S_getI (q := 38) dX10_probeAll_35 fl_X10_86 (by first | assumption | rfl) (by rfl) rfl ?_
        rw [e2]
        refine S_icmp_ge (t := 66) (q := 41) dX10_probeAll_38 (by decide) rfl (fun hb38 => ?_) (fun hb38 => ?_)
        · have hmn : m = n := by have := (nI_leI (by omega) (by omega)).mp hb38; omega
          have hnl : ¬ WT A.P g < WT A.P f := by rw [r5 hmn]; exact Nat.lt_irrefl _
          refine S_aload_0 (q := 67) dX10_probeAll_66 rfl ?_
          refine S_aload_0 (q := 68) dX10_probeAll_67 rfl ?_
          refine S_getI (q := 71) dX10_probeAll_68 fl_X10_86 (by first | assumption | rfl) (by rfl) rfl ?_
          rw [e2]
          refine S_callV1i (q := 74) dX10_probeAll_71 lk_X10_236 (by first | assumption | rfl) rfl rfl (k_X10_takeOver hs1 hk e1) rfl rfl (Nat.le_of_ble_eq_true rfl) ⟨Nat.le_of_ble_eq_true rfl, Nat.le_of_ble_eq_true rfl⟩ ⟨Nat.le_of_ble_eq_true rfl, Nat.le_of_ble_eq_true rfl⟩ rfl (fun v71 M71 hv71 => ?_)
          exact S_iret rfl dX10_probeAll_74 rfl rfl (RSR.to hv71.1 (fun a ha => by rw [hv71.2.1 a ha, hs2 a ha, hfr a ha]) (by unfold o_all; rw [hs0]; simp only; rw [← hpr, prA_at hx, if_neg hnl]; simp only; rw [hv71.2.2]))
        · have hmn : ¬ m ≤ n := fun y => hb38 ((nI_leI (by omega) (by omega)).mpr y)
          have hnl : WT A.P g < WT A.P f := by omega
          exact ih (WT A.P g) (by omega) g m M47 _ rfl hs1 (fun a ha => by rw [hs2 a ha, hfr a ha]) e1 r2 e2 (by omega) (by rw [← hpr, prA_at hx, if_pos hnl])
      · exact absurd hb50 (by decide)
set_option maxHeartbeats 4000000 in
set_option maxRecDepth 100000 in
theorem k_X10_probeAll {l : Launch} {G : Gd} {b0 : Nat} {M : Mem} {A : Ab}  (hC : RR M A) (hk : A.ok)  : Ct l G b0 yX10_probeAll cX10_probeAll 2 (some .int) (rmZ 15 506) LAY LAY M [.ref (b0 + 140)] (fun v M' => RSR M (o_all A) v M') := by
  obtain ⟨⟨g0, g1, g2, gcu, gce⟩, hru, hhi, hbad, hask, htx, hfo, hsn, htb⟩ := id hC
  have hP := hk.P
  have hr1 := hP.r1
  have hr8 := hP.r8
  have hc1 := hP.c1
  have hc8 := hP.c8
  have hk1 := hP.k1
  have hk3 := hP.k3
  have h64 := rc64 hr8 hc8
  have hH8 := hk.H8
  have hN : A.N = A.P.r + A.P.c := rfl
  refine Ct.of [some (.ref (b0 + 140)), none] (by decide) (Nat.le_of_ble_eq_true rfl) rfl rfl ?_
  refine S_aload_0 (q := 1) dX10_probeAll_0 rfl ?_
  refine S_iconst (q := 2) (nI 0) dX10_probeAll_1 (by decide) rfl ?_
  refine S_bipush (q := 4) (nI 64) dX10_probeAll_2 (by decide) rfl ?_
  refine S_callV2v (q := 7) dX10_probeAll_4 lk_X10_230 (by first | assumption | rfl) rfl rfl (k_X10_copy (s := 0) (t := 64) (by decide) (by decide) (by decide)) rfl rfl (Nat.le_of_ble_eq_true rfl) ⟨Nat.le_of_ble_eq_true rfl, Nat.le_of_ble_eq_true rfl⟩ ⟨Nat.le_of_ble_eq_true rfl, Nat.le_of_ble_eq_true rfl⟩ rfl (fun v4 M4 hv4 => ?_)
  obtain ⟨hC2, hw2, hf2⟩ := hC.cpy hk (by decide) gce hv4
  refine S_aload_0 (q := 8) dX10_probeAll_7 rfl ?_
  refine S_iconst (q := 9) (nI 0) dX10_probeAll_8 (by decide) rfl ?_
  refine S_putI (q := 12) dX10_probeAll_9 fp_X10_86 (by first | assumption | rfl) (by rfl) rfl (by rfl) rfl ?_
  have hC2' : RR (up M4 140 25 (nI 0)) A := hC2.fr hk (fun k hk2 => by rw [up_eq, if_neg (by omega)]) (fun a ha => up_n (by omega)) (fun z hz => by rw [up_n (by decide)])
  have hw3 : RCE (up M4 140 25 (nI 0)) 64 A.P A.f := fun x hx => by rw [up_n (by decide)]; exact hw2 x hx
  obtain ⟨ap, hap, hW⟩ := hC2'.lw hw3
  refine S_aload_0 (q := 13) dX10_probeAll_12 rfl ?_
  refine S_bipush (q := 15) (nI 64) dX10_probeAll_13 (by decide) rfl ?_
  refine S_callV1i (q := 18) dX10_probeAll_15 lk_X10_239 (by first | assumption | rfl) rfl rfl (k_X10_spread hP (by decide) hap rfl hW) rfl rfl (Nat.le_of_ble_eq_true rfl) ⟨Nat.le_of_ble_eq_true rfl, Nat.le_of_ble_eq_true rfl⟩ ⟨Nat.le_of_ble_eq_true rfl, Nat.le_of_ble_eq_true rfl⟩ rfl (fun v15 M15 hv15 => ?_)
  obtain ⟨hs1, hs2, hs3⟩ := hv15
  obtain ⟨hC3, hf3⟩ := hC2'.sp hk (b := 64) (by decide) hs1
  have h256 := WT_le hP (f := A.f)
  have h25 : M15 140 25 = nI 0 := by rw [hs1.2.1 25 (by decide) (by decide) (by decide) (by decide) (by decide) (by decide), up_s]
  refine S_if_ge (t := 31) (q := 21) dX10_probeAll_18 (by decide) rfl (fun hb18 => ?_) (fun hb18 => ?_)
  · obtain ⟨g, n, hz⟩ : ∃ g n, spr A.P A.f = .inr (g, n) := by
      cases e : spr A.P A.f with
      | inl j => rw [(hs2 j e).1] at hb18; exact absurd hb18 (by decide)
      | inr q => exact ⟨q.1, q.2, rfl⟩
    refine S_iconst (q := 32) (-1) dX10_probeAll_31 (by decide) rfl ?_
    refine S_istore_1 (q := 33) dX10_probeAll_32 rfl ?_
    refine S_iload_1 (q := 34) dX10_probeAll_33 rfl ?_
    refine S_aload_0 (q := 35) dX10_probeAll_34 rfl ?_
    refine S_getI (q := 38) dX10_probeAll_35 fl_X10_86 (by first | assumption | rfl) (by rfl) rfl ?_
    rw [h25]
    refine S_icmp_ge (t := 66) (q := 41) dX10_probeAll_38 (by decide) rfl (fun hb38 => ?_) (fun hb38 => ?_)
    · exact absurd hb38 (by decide)
    · obtain ⟨k1, k2, k3, k4⟩ := spr_ok hP _ A.f g n rfl gce.gf hz
      have h256g := WT_le hP (f := g)
      exact q_rprobe hC hk hz (WT A.P g) g 0 M15 _ rfl hC3 (fun a ha => by rw [hf3 a ha, up_n (by omega), hf2 a ha]) (hs3 g n hz).2.2 k3 h25 (by omega) rfl
  · obtain ⟨j9, hz⟩ : ∃ j, spr A.P A.f = .inl j := by
      cases e : spr A.P A.f with
      | inl j => exact ⟨j, rfl⟩
      | inr q => rw [(hs3 q.1 q.2 e).1] at hb18; exact absurd (nI_pos' (by omega)) hb18
    refine S_aload_0 (q := 22) dX10_probeAll_21 rfl ?_
    refine S_aload_0 (q := 23) dX10_probeAll_22 rfl ?_
    refine S_getI (q := 26) dX10_probeAll_23 fl_X10_83 (by first | assumption | rfl) (by rfl) rfl ?_
    rw [(hs2 j9 hz).2]
    refine S_iconst (q := 27) (nI 0) dX10_probeAll_26 (by decide) rfl ?_
    refine S_callV2i (q := 30) dX10_probeAll_27 lk_X10_233 (by first | assumption | rfl) rfl rfl (k_X10_contradiction) rfl rfl (Nat.le_of_ble_eq_true rfl) ⟨Nat.le_of_ble_eq_true rfl, Nat.le_of_ble_eq_true rfl⟩ ⟨Nat.le_of_ble_eq_true rfl, Nat.le_of_ble_eq_true rfl⟩ rfl (fun v27 M27 hv27 => ?_)
    obtain ⟨e27, rfl⟩ := hv27
    rw [e27]
    exact S_iret rfl dX10_probeAll_30 rfl rfl (RSR.to (A := A.sB (some (j9, 0))) (hC3.sB hk (fun k h1 h2 => by rw [up_eq, if_neg (by omega), up_eq, if_neg (by omega)]) (fun a ha => by rw [up_n ha, up_n ha]) ⟨by rw [up_eq, if_neg (by decide), up_s], up_s⟩) (fun a ha => by rw [up_n (by omega), up_n (by omega), hf3 a ha, up_n (by omega), hf2 a ha]) (by unfold o_all; rw [hz]))
