/-- the rank of a cell -/
def rkV (P : Pz) (ρ : Nat) (f : Nat → Nat) (x : Nat) : Int32 := if ρ = 1 then -nI (pc4 (f x)) else nI (sco P ρ f x)
theorem neg_le : ∀ a, a < 5 → ∀ b, b < 5 → (-nI a ≤ -nI b ↔ 4 - a ≤ 4 - b) := by decide +kernel
theorem rk_le {P : Pz} {ρ : Nat} {f : Nat → Nat} {x z : Nat} (hP : P.ok) : rkV P ρ f x ≤ rkV P ρ f z ↔ sco P ρ f x ≤ sco P ρ f z := by
  have h1 := sco_le (P := P) (ρ := ρ) (f := f) (x := x) hP
  have h2 := sco_le (P := P) (ρ := ρ) (f := f) (x := z) hP
  unfold rkV
  by_cases e : ρ = 1
  · rw [if_pos e, if_pos e, neg_le _ (by have := pc4_le (f x); omega) _ (by have := pc4_le (f z); omega)]
    unfold sco
    rw [if_pos e, if_pos e]
  · rw [if_neg e, if_neg e]
    exact nI_leI (by omega) (by omega)
theorem selT_sc {P : Pz} {ρ : Nat} {f : Nat → Nat} : ∀ n, (selT P ρ f n).2 ≠ 0 → (selT P ρ f n).2 = sco P ρ f (selT P ρ f n).1 + 1 := by
  intro n
  induction n with
  | zero => intro h; exact absurd rfl h
  | succ n ih =>
    rw [selT]
    split
    · intro _; rfl
    · exact ih
theorem selT_yes {P : Pz} {ρ : Nat} {f : Nat → Nat} {n : Nat} (h1 : pc4 (f n) ≠ 1) (h2 : (selT P ρ f n).2 ≤ sco P ρ f n) : selT P ρ f (n + 1) = (n, sco P ρ f n + 1) := by rw [selT, if_pos ⟨h1, h2⟩]
theorem selT_no {P : Pz} {ρ : Nat} {f : Nat → Nat} {n : Nat} (h : ¬ (pc4 (f n) ≠ 1 ∧ (selT P ρ f n).2 ≤ sco P ρ f n)) : selT P ρ f (n + 1) = selT P ρ f n := by rw [selT, if_neg h]
/-- the best so far, as the reference has it -/
def bst (P : Pz) (ρ : Nat) (f : Nat → Nat) (n : Nat) : Int32 := if (selT P ρ f n).2 = 0 then -1 else nI (gx P.c (selT P ρ f n).1)
theorem gx_dm {r c x : Nat} (hr8 : r ≤ 8) (hc8 : c ≤ 8) (hc1 : 1 ≤ c) (hx : x < r * c) : gx c x / 8 = x / c ∧ gx c x % 8 = x % c := by
  obtain ⟨h1, h2, h3⟩ := gx_64 hr8 hc8 hc1 hx
  unfold gx
  omega
set_option maxHeartbeats 4000000 in
set_option maxRecDepth 100000 in
theorem q_rank2 {l : Launch} {G : Gd} {b0 : Nat} {M : Mem} {P : Pz} {f : Nat → Nat} {b x ρ : Nat} (g0 : M 140 0 = nI P.r) (g1 : M 140 1 = nI P.c) (hρ : M 140 3 = nI ρ) (hρ2 : ρ ≤ 2) (hP : P.ok) (hb : b + 64 ≤ 4160) (hce : RCE M b P f) (hx : x < P.r * P.c) (hrk : rkV P ρ f x = nI (sm (fun p => dc1 f (x / P.c * P.c + p)) P.c + sm (fun p => dc1 f (p * P.c + x % P.c)) P.r)) : S l G b0 yX10_rank cX10_rank 5 (some .int) (rmZ 1 23) LAY (fun v M' => M' = M ∧ v = rkV P ρ f x) 0 0 0 0 LAY 81 [some (.ref (b0 + 140)), some (.int (nI b)), some (.int (nI (gx P.c x))), some (.int (nI (sm (fun p => dc1 f (x / P.c * P.c + p)) P.c + sm (fun p => dc1 f (p * P.c + x % P.c)) (0)))), some (.int (nI (0)))] [] M := by
  have hr8 := hP.r8
  have hc8 := hP.c8
  have hc1 := hP.c1
  obtain ⟨hx64, hxr, hxc⟩ := gx_64 hr8 hc8 hc1 hx
  obtain ⟨hxd, hxm⟩ := gx_dm hr8 hc8 hc1 hx
  suffices H : ∀ (d : Nat) (i : Nat), P.r - i = d → i ≤ P.r → S l G b0 yX10_rank cX10_rank 5 (some .int) (rmZ 1 23) LAY (fun v M' => M' = M ∧ v = rkV P ρ f x) 0 0 0 0 LAY 81 [some (.ref (b0 + 140)), some (.int (nI b)), some (.int (nI (gx P.c x))), some (.int (nI (sm (fun p => dc1 f (x / P.c * P.c + p)) P.c + sm (fun p => dc1 f (p * P.c + x % P.c)) (i)))), some (.int (nI (i)))] [] M from H _ 0 rfl (by omega)
  intro d
  induction d with
  | zero =>
    intro i hd hi
    have e : P.r = i := by omega
    subst e
    refine S_iload_4 (q := 83) dX10_rank_81 rfl ?_
    refine S_aload_0 (q := 84) dX10_rank_83 rfl ?_
    refine S_getI (q := 87) dX10_rank_84 fl_X10_7 (by first | assumption | rfl) (by rfl) rfl ?_
    rw [g0]
    refine S_icmp_ge (t := 123) (q := 90) dX10_rank_87 (by decide) rfl (fun hb87 => ?_) (fun hb87 => ?_)
    · refine S_iload_3 (q := 124) dX10_rank_123 rfl ?_
      exact S_iret rfl dX10_rank_124 rfl rfl (⟨rfl, hrk.symm⟩)
    · exact absurd (Int32.le_refl _) hb87
  | succ d ih =>
    intro i hd hi
    have hlt : i < P.r := by omega
    have hce2 := hce.at hlt hxc
    refine S_iload_4 (q := 83) dX10_rank_81 rfl ?_
    refine S_aload_0 (q := 84) dX10_rank_83 rfl ?_
    refine S_getI (q := 87) dX10_rank_84 fl_X10_7 (by first | assumption | rfl) (by rfl) rfl ?_
    rw [g0]
    refine S_icmp_ge (t := 123) (q := 90) dX10_rank_87 (by decide) rfl (fun hb87 => ?_) (fun hb87 => ?_)
    · exact absurd hb87 (nI_ge hlt (by omega))
    · refine S_iload_3 (q := 91) dX10_rank_90 rfl ?_
      refine S_aload_0 (q := 92) dX10_rank_91 rfl ?_
      refine S_iload_1 (q := 93) dX10_rank_92 rfl ?_
      refine S_bipush (q := 95) (nI 8) dX10_rank_93 (by decide) rfl ?_
      refine S_iload_4 (q := 97) dX10_rank_95 rfl ?_
      refine S_imul (q := 98) dX10_rank_97 rfl ?_
      refine S_iadd (q := 99) dX10_rank_98 rfl ?_
      refine S_iload_2 (q := 100) dX10_rank_99 rfl ?_
      refine S_bipush (q := 102) (nI 8) dX10_rank_100 (by decide) rfl ?_
      refine S_irem (q := 103) dX10_rank_102 (by decide) rfl ?_
      refine S_iadd (q := 104) dX10_rank_103 rfl ?_
      rw [pk_mul, nI_add, pk_rem (by omega) (by decide) (by decide), nI_add, hxm, Nat.add_assoc]
      refine S_callV1i (q := 107) dX10_rank_104 lk_X10_198 (by first | assumption | rfl) rfl rfl (k_X10_isDecided (x := b + (8 * i + x % P.c)) (by omega) hce2.1 hce2.2.1 hce2.2.2) rfl rfl (Nat.le_of_ble_eq_true rfl) ⟨Nat.le_of_ble_eq_true rfl, Nat.le_of_ble_eq_true rfl⟩ ⟨Nat.le_of_ble_eq_true rfl, Nat.le_of_ble_eq_true rfl⟩ rfl (fun v104 M104 hv104 => ?_)
      obtain ⟨e104, rfl⟩ := hv104
      rw [e104]
      refine S_if_eq (t := 114) (q := 110) dX10_rank_107 (by decide) rfl (fun hb107 => ?_) (fun hb107 => ?_)
      · have hz : ¬ pc4 (f (i * P.c + x % P.c)) = 1 := bI_0.mp hb107
        have es : sm (fun p => dc1 f (p * P.c + x % P.c)) (i + 1) = sm (fun p => dc1 f (p * P.c + x % P.c)) i := by show _ + dc1 f _ = _; rw [dc1_0 hz]; rfl
        refine S_iconst (q := 115) (nI 0) dX10_rank_114 (by decide) rfl ?_
        refine S_iadd (q := 116) dX10_rank_115 rfl ?_
        refine S_istore_3 (q := 117) dX10_rank_116 rfl ?_
        refine S_iinc_4 (q := 120) (nI (i + 1)) dX10_rank_117 (inc1 _) rfl ?_
        refine S_goto (t := 81) dX10_rank_120 (by decide) ?_
        rw [show ∀ a : Nat, nI a + nI 0 = nI a from fun a => nI_add a 0, ← es]
        exact ih (i + 1) (by omega) hlt
      · have hz : pc4 (f (i * P.c + x % P.c)) = 1 := bI_n.mp hb107
        have es : sm (fun p => dc1 f (p * P.c + x % P.c)) (i + 1) = sm (fun p => dc1 f (p * P.c + x % P.c)) i + 1 := by show _ + dc1 f _ = _; rw [dc1_1 hz]
        refine S_iconst (q := 111) (nI 1) dX10_rank_110 (by decide) rfl ?_
        refine S_goto (t := 115) dX10_rank_111 (by decide) ?_
        refine S_iadd (q := 116) dX10_rank_115 rfl ?_
        refine S_istore_3 (q := 117) dX10_rank_116 rfl ?_
        refine S_iinc_4 (q := 120) (nI (i + 1)) dX10_rank_117 (inc1 _) rfl ?_
        refine S_goto (t := 81) dX10_rank_120 (by decide) ?_
        rw [nI_add, Nat.add_assoc, ← es]
        exact ih (i + 1) (by omega) hlt
set_option maxHeartbeats 4000000 in
set_option maxRecDepth 100000 in
theorem k_X10_rank {l : Launch} {G : Gd} {b0 : Nat} {M : Mem} {P : Pz} {f : Nat → Nat} {b x ρ : Nat}  (g0 : M 140 0 = nI P.r) (g1 : M 140 1 = nI P.c) (hρ : M 140 3 = nI ρ) (hρ2 : ρ ≤ 2) (hP : P.ok) (hb : b + 64 ≤ 4160) (hce : RCE M b P f) (hx : x < P.r * P.c)  : Ct l G b0 yX10_rank cX10_rank 5 (some .int) (rmZ 1 23) LAY LAY M [.ref (b0 + 140), .int (nI b), .int (nI (gx P.c x))] (fun v M' => M' = M ∧ v = rkV P ρ f x) := by
  have hr8 := hP.r8
  have hc8 := hP.c8
  have hc1 := hP.c1
  obtain ⟨hx64, hxr, hxc⟩ := gx_64 hr8 hc8 hc1 hx
  obtain ⟨hxd, hxm⟩ := gx_dm hr8 hc8 hc1 hx
  refine Ct.of [some (.ref (b0 + 140)), some (.int (nI b)), some (.int (nI (gx P.c x))), none, none] (by decide) (Nat.le_of_ble_eq_true rfl) rfl rfl ?_
  refine S_aload_0 (q := 1) dX10_rank_0 rfl ?_
  refine S_getI (q := 4) dX10_rank_1 fl_X10_19 (by first | assumption | rfl) (by rfl) rfl ?_
  rw [hρ]
  refine S_if_ne (t := 9) (q := 7) dX10_rank_4 (by decide) rfl (fun hb4 => ?_) (fun hb4 => ?_)
  · have h0 : ρ ≠ 0 := fun e => hb4 (by rw [e]; rfl)
    refine S_aload_0 (q := 10) dX10_rank_9 rfl ?_
    refine S_getI (q := 13) dX10_rank_10 fl_X10_19 (by first | assumption | rfl) (by rfl) rfl ?_
    refine S_iconst (q := 14) (nI 1) dX10_rank_13 (by decide) rfl ?_
    rw [hρ]
    refine S_icmp_ne (t := 31) (q := 17) dX10_rank_14 (by decide) rfl (fun hb14 => ?_) (fun hb14 => ?_)
    · have h1 : ρ ≠ 1 := fun e => hb14 (by rw [e])
      have hrk : rkV P ρ f x = nI (sm (fun p => dc1 f (x / P.c * P.c + p)) P.c + sm (fun p => dc1 f (p * P.c + x % P.c)) P.r) := by
        unfold rkV
        rw [if_neg h1]
        unfold sco dcL lnLen lnCell
        rw [if_neg h1, if_pos (show ρ = 2 by omega), if_pos hxr, if_neg (show ¬ P.r + x % P.c < P.r by omega)]
        refine congrArg nI (congr (congrArg _ (sm_c (fun j hj => ?_))) (sm_c (fun j hj => ?_)))
        · rw [if_pos hxr]
        · rw [if_neg (show ¬ P.r + x % P.c < P.r by omega), Nat.add_sub_cancel_left]
      refine S_iconst (q := 32) (nI 0) dX10_rank_31 (by decide) rfl ?_
      refine S_istore_3 (q := 33) dX10_rank_32 rfl ?_
      refine S_iconst (q := 34) (nI 0) dX10_rank_33 (by decide) rfl ?_
      refine S_istore_4 (q := 36) dX10_rank_34 rfl ?_
      suffices H : ∀ (d : Nat) (i : Nat), P.c - i = d → i ≤ P.c → S l G b0 yX10_rank cX10_rank 5 (some .int) (rmZ 1 23) LAY (fun v M' => M' = M ∧ v = rkV P ρ f x) 0 0 0 0 LAY 36 [some (.ref (b0 + 140)), some (.int (nI b)), some (.int (nI (gx P.c x))), some (.int (nI (sm (fun p => dc1 f (x / P.c * P.c + p)) (i)))), some (.int (nI (i)))] [] M from H _ 0 rfl (by omega)
      intro d
      induction d with
      | zero =>
        intro i hd hi
        have e : P.c = i := by omega
        subst e
        refine S_iload_4 (q := 38) dX10_rank_36 rfl ?_
        refine S_aload_0 (q := 39) dX10_rank_38 rfl ?_
        refine S_getI (q := 42) dX10_rank_39 fl_X10_13 (by first | assumption | rfl) (by rfl) rfl ?_
        rw [g1]
        refine S_icmp_ge (t := 78) (q := 45) dX10_rank_42 (by decide) rfl (fun hb42 => ?_) (fun hb42 => ?_)
        · refine S_iconst (q := 79) (nI 0) dX10_rank_78 (by decide) rfl ?_
          refine S_istore_4 (q := 81) dX10_rank_79 rfl ?_
          exact q_rank2 g0 g1 hρ hρ2 hP hb hce hx hrk
        · exact absurd (Int32.le_refl _) hb42
      | succ d ih =>
        intro i hd hi
        have hlt : i < P.c := by omega
        have hce2 := hce.at hxr hlt
        refine S_iload_4 (q := 38) dX10_rank_36 rfl ?_
        refine S_aload_0 (q := 39) dX10_rank_38 rfl ?_
        refine S_getI (q := 42) dX10_rank_39 fl_X10_13 (by first | assumption | rfl) (by rfl) rfl ?_
        rw [g1]
        refine S_icmp_ge (t := 78) (q := 45) dX10_rank_42 (by decide) rfl (fun hb42 => ?_) (fun hb42 => ?_)
        · exact absurd hb42 (nI_ge hlt (by omega))
        · refine S_iload_3 (q := 46) dX10_rank_45 rfl ?_
          refine S_aload_0 (q := 47) dX10_rank_46 rfl ?_
          refine S_iload_1 (q := 48) dX10_rank_47 rfl ?_
          refine S_iload_2 (q := 49) dX10_rank_48 rfl ?_
          refine S_bipush (q := 51) (nI 8) dX10_rank_49 (by decide) rfl ?_
          refine S_idiv (q := 52) dX10_rank_51 (by decide) rfl ?_
          refine S_bipush (q := 54) (nI 8) dX10_rank_52 (by decide) rfl ?_
          refine S_imul (q := 55) dX10_rank_54 rfl ?_
          refine S_iadd (q := 56) dX10_rank_55 rfl ?_
          refine S_iload_4 (q := 58) dX10_rank_56 rfl ?_
          refine S_iadd (q := 59) dX10_rank_58 rfl ?_
          rw [pk_div (by omega) (by decide) (by decide), pk_mul, nI_add, nI_add, hxd, Nat.mul_comm (x / P.c) 8, Nat.add_assoc]
          refine S_callV1i (q := 62) dX10_rank_59 lk_X10_198 (by first | assumption | rfl) rfl rfl (k_X10_isDecided (x := b + (8 * (x / P.c) + i)) (by omega) hce2.1 hce2.2.1 hce2.2.2) rfl rfl (Nat.le_of_ble_eq_true rfl) ⟨Nat.le_of_ble_eq_true rfl, Nat.le_of_ble_eq_true rfl⟩ ⟨Nat.le_of_ble_eq_true rfl, Nat.le_of_ble_eq_true rfl⟩ rfl (fun v59 M59 hv59 => ?_)
          obtain ⟨e59, rfl⟩ := hv59
          rw [e59]
          refine S_if_eq (t := 69) (q := 65) dX10_rank_62 (by decide) rfl (fun hb62 => ?_) (fun hb62 => ?_)
          · have hz : ¬ pc4 (f (x / P.c * P.c + i)) = 1 := bI_0.mp hb62
            have es : sm (fun p => dc1 f (x / P.c * P.c + p)) (i + 1) = sm (fun p => dc1 f (x / P.c * P.c + p)) i := by show _ + dc1 f _ = _; rw [dc1_0 hz]; rfl
            refine S_iconst (q := 70) (nI 0) dX10_rank_69 (by decide) rfl ?_
            refine S_iadd (q := 71) dX10_rank_70 rfl ?_
            refine S_istore_3 (q := 72) dX10_rank_71 rfl ?_
            refine S_iinc_4 (q := 75) (nI (i + 1)) dX10_rank_72 (inc1 _) rfl ?_
            refine S_goto (t := 36) dX10_rank_75 (by decide) ?_
            rw [show ∀ a : Nat, nI a + nI 0 = nI a from fun a => nI_add a 0, ← es]
            exact ih (i + 1) (by omega) hlt
          · have hz : pc4 (f (x / P.c * P.c + i)) = 1 := bI_n.mp hb62
            have es : sm (fun p => dc1 f (x / P.c * P.c + p)) (i + 1) = sm (fun p => dc1 f (x / P.c * P.c + p)) i + 1 := by show _ + dc1 f _ = _; rw [dc1_1 hz]
            refine S_iconst (q := 66) (nI 1) dX10_rank_65 (by decide) rfl ?_
            refine S_goto (t := 70) dX10_rank_66 (by decide) ?_
            refine S_iadd (q := 71) dX10_rank_70 rfl ?_
            refine S_istore_3 (q := 72) dX10_rank_71 rfl ?_
            refine S_iinc_4 (q := 75) (nI (i + 1)) dX10_rank_72 (inc1 _) rfl ?_
            refine S_goto (t := 36) dX10_rank_75 (by decide) ?_
            rw [nI_add, ← es]
            exact ih (i + 1) (by omega) hlt
    · have h1 : ρ = 1 := nI_inj (by omega) (by decide) hb14
      refine S_aload_0 (q := 18) dX10_rank_17 rfl ?_
      refine S_aload_0 (q := 19) dX10_rank_18 rfl ?_
      refine S_getR (q := 22) dX10_rank_19 fl_X10_22 (by first | assumption | rfl) (by rfl) rfl ?_
      refine S_iload_1 (q := 23) dX10_rank_22 rfl ?_
      refine S_iload_2 (q := 24) dX10_rank_23 rfl ?_
      refine S_iadd (q := 25) dX10_rank_24 rfl ?_
      refine S_ialdV (i := b + gx P.c x) (val := nI (f x)) (q := 26) dX10_rank_25 (by first | assumption | rfl) (by first | (simp only [nI_add, pk_mul, nI_1]; done) | rfl) (by omega) (by decide) (hce x hx).1 rfl ?_
      refine S_callV1i (q := 29) dX10_rank_26 lk_X10_208 (by first | assumption | rfl) rfl rfl (k_X10_ones (hce x hx).2.2) rfl rfl (Nat.le_of_ble_eq_true rfl) ⟨Nat.le_of_ble_eq_true rfl, Nat.le_of_ble_eq_true rfl⟩ ⟨Nat.le_of_ble_eq_true rfl, Nat.le_of_ble_eq_true rfl⟩ rfl (fun v26 M26 hv26 => ?_)
      obtain ⟨e26, rfl⟩ := hv26
      rw [e26]
      refine S_ineg (q := 30) dX10_rank_29 rfl ?_
      exact S_iret rfl dX10_rank_30 rfl rfl (⟨rfl, by unfold rkV; rw [if_pos h1]⟩)
  · have h0 : ρ = 0 := nI_inj (by omega) (by decide) hb4
    refine S_iconst (q := 8) (nI 0) dX10_rank_7 (by decide) rfl ?_
    exact S_iret rfl dX10_rank_8 rfl rfl (⟨rfl, by unfold rkV sco; rw [if_neg (by omega), if_neg (by omega), if_neg (by omega)]⟩)
set_option maxHeartbeats 4000000 in
set_option maxRecDepth 100000 in
theorem q_selRow {l : Launch} {G : Gd} {b0 : Nat} {M : Mem} {Post : PT} {P : Pz} {f : Nat → Nat} {b ρ : Nat} {i0 : Nat} (g0 : M 140 0 = nI P.r) (g1 : M 140 1 = nI P.c) (hρ : M 140 3 = nI ρ) (hρ2 : ρ ≤ 2) (hP : P.ok) (hb : b + 64 ≤ 4160) (hce : RCE M b P f) (hi0 : i0 < P.r) (k : S l G b0 yX10_select cX10_select 6 (some .int) (rmZ 2 47) LAY Post 0 0 0 0 LAY 73 [some (.ref (b0 + 140)), some (.int (nI b)), some (.int (bst P ρ f (i0 * P.c + P.c))), some (.int (nI i0)), some (.int (nI P.c)), none] [] M) : S l G b0 yX10_select cX10_select 6 (some .int) (rmZ 2 47) LAY Post 0 0 0 0 LAY 15 [some (.ref (b0 + 140)), some (.int (nI b)), some (.int (bst P ρ f (i0 * P.c + (0)))), some (.int (nI i0)), some (.int (nI (0))), none] [] M := by
  have hr8 := hP.r8
  have hc8 := hP.c8
  have hc1 := hP.c1
  suffices H : ∀ (d : Nat) (i : Nat), P.c - i = d → i ≤ P.c → S l G b0 yX10_select cX10_select 6 (some .int) (rmZ 2 47) LAY Post 0 0 0 0 LAY 15 [some (.ref (b0 + 140)), some (.int (nI b)), some (.int (bst P ρ f (i0 * P.c + (i)))), some (.int (nI i0)), some (.int (nI (i))), none] [] M from H _ 0 rfl (by omega)
  intro d
  induction d with
  | zero =>
    intro i hd hi
    have e : P.c = i := by omega
    subst e
    refine S_iload_4 (q := 17) dX10_select_15 rfl ?_
    refine S_aload_0 (q := 18) dX10_select_17 rfl ?_
    refine S_getI (q := 21) dX10_select_18 fl_X10_13 (by first | assumption | rfl) (by rfl) rfl ?_
    rw [g1]
    refine S_icmp_ge (t := 73) (q := 24) dX10_select_21 (by decide) rfl (fun hb21 => ?_) (fun hb21 => ?_)
    · exact k
    · exact absurd (Int32.le_refl _) hb21
  | succ d ih =>
    intro i hd hi
    have hlt : i < P.c := by omega
    have hg := hce.at hi0 hlt
    have hn : i0 * P.c + i < P.r * P.c := cel_lt hi0 hlt
    have hgx : gx P.c (i0 * P.c + i) = 8 * i0 + i := gx_at hlt
    have hbn : ∀ q, selT P ρ f (i0 * P.c + i + 1) = (i0 * P.c + i, q + 1) → bst P ρ f (i0 * P.c + (i + 1)) = nI (8 * i0 + i) := fun q e => by
      unfold bst
      rw [← Nat.add_assoc, e, if_neg (Nat.succ_ne_zero q), hgx]
    have hbo : selT P ρ f (i0 * P.c + i + 1) = selT P ρ f (i0 * P.c + i) → bst P ρ f (i0 * P.c + (i + 1)) = bst P ρ f (i0 * P.c + i) := fun e => by
      unfold bst
      rw [← Nat.add_assoc, e]
    refine S_iload_4 (q := 17) dX10_select_15 rfl ?_
    refine S_aload_0 (q := 18) dX10_select_17 rfl ?_
    refine S_getI (q := 21) dX10_select_18 fl_X10_13 (by first | assumption | rfl) (by rfl) rfl ?_
    rw [g1]
    refine S_icmp_ge (t := 73) (q := 24) dX10_select_21 (by decide) rfl (fun hb21 => ?_) (fun hb21 => ?_)
    · exact absurd hb21 (nI_ge hlt (by omega))
    · refine S_bipush (q := 26) (nI 8) dX10_select_24 (by decide) rfl ?_
      refine S_iload_3 (q := 27) dX10_select_26 rfl ?_
      refine S_imul (q := 28) dX10_select_27 rfl ?_
      refine S_iload_4 (q := 30) dX10_select_28 rfl ?_
      refine S_iadd (q := 31) dX10_select_30 rfl ?_
      rw [pk_mul, nI_add]
      refine S_istore_5 (q := 33) dX10_select_31 rfl ?_
      refine S_aload_0 (q := 34) dX10_select_33 rfl ?_
      refine S_iload_1 (q := 35) dX10_select_34 rfl ?_
      refine S_iload_5 (q := 37) dX10_select_35 rfl ?_
      refine S_iadd (q := 38) dX10_select_37 rfl ?_
      rw [nI_add]
      refine S_callV1i (q := 41) dX10_select_38 lk_X10_198 (by first | assumption | rfl) rfl rfl (k_X10_isDecided (x := b + (8 * i0 + i)) (by omega) hg.1 hg.2.1 hg.2.2) rfl rfl (Nat.le_of_ble_eq_true rfl) ⟨Nat.le_of_ble_eq_true rfl, Nat.le_of_ble_eq_true rfl⟩ ⟨Nat.le_of_ble_eq_true rfl, Nat.le_of_ble_eq_true rfl⟩ rfl (fun v38 M38 hv38 => ?_)
      obtain ⟨e38, rfl⟩ := hv38
      rw [e38]
      refine S_if_ne (t := 67) (q := 44) dX10_select_41 (by decide) rfl (fun hb41 => ?_) (fun hb41 => ?_)
      · have hd : pc4 (f (i0 * P.c + i)) = 1 := bI_n.mp hb41
        have hes : selT P ρ f (i0 * P.c + i + 1) = selT P ρ f (i0 * P.c + i) := selT_no (fun y => y.1 hd)
        refine S_iinc_4 (q := 70) (nI (i + 1)) dX10_select_67 (inc1 _) rfl ?_
        refine S_goto (t := 15) dX10_select_70 (by decide) ?_
        rw [← hbo hes]
        refine S_fgt5 ?_
        exact ih (i + 1) (by omega) hlt
      · have hd : ¬ pc4 (f (i0 * P.c + i)) = 1 := bI_0.mp hb41
        refine S_iload_2 (q := 45) dX10_select_44 rfl ?_
        refine S_if_lt (t := 64) (q := 48) dX10_select_45 (by decide) rfl (fun hb45 => ?_) (fun hb45 => ?_)
        · have h0 : (selT P ρ f (i0 * P.c + i)).2 = 0 := Decidable.byContradiction (fun y => by unfold bst at hb45; rw [if_neg y] at hb45; exact not_neg (by have := selT_ok (P := P) (ρ := ρ) (f := f) (i0 * P.c + i) |>.2 y; have := (gx_64 hr8 hc8 hc1 (show (selT P ρ f (i0 * P.c + i)).1 < P.r * P.c by omega)).1; omega) hb45)
          have hes := selT_yes (ρ := ρ) hd (show (selT P ρ f (i0 * P.c + i)).2 ≤ sco P ρ f (i0 * P.c + i) by omega)
          refine S_iload_5 (q := 66) dX10_select_64 rfl ?_
          refine S_istore_2 (q := 67) dX10_select_66 rfl ?_
          refine S_iinc_4 (q := 70) (nI (i + 1)) dX10_select_67 (inc1 _) rfl ?_
          refine S_goto (t := 15) dX10_select_70 (by decide) ?_
          rw [← hbn _ hes]
          refine S_fgt5 ?_
          exact ih (i + 1) (by omega) hlt
        · have h0 : (selT P ρ f (i0 * P.c + i)).2 ≠ 0 := fun y => by unfold bst at hb45; rw [if_pos y] at hb45; exact absurd hb45 (by decide)
          have hso := (selT_ok (P := P) (ρ := ρ) (f := f) (i0 * P.c + i)).2 h0
          have hsel : (selT P ρ f (i0 * P.c + i)).1 < P.r * P.c ∧ True := ⟨by omega, trivial⟩
          have hbs : bst P ρ f (i0 * P.c + i) = nI (gx P.c (selT P ρ f (i0 * P.c + i)).1) := if_neg h0
          have hsc := selT_sc (P := P) (ρ := ρ) (f := f) (i0 * P.c + i) h0
          refine S_aload_0 (q := 49) dX10_select_48 rfl ?_
          refine S_iload_1 (q := 50) dX10_select_49 rfl ?_
          refine S_iload_5 (q := 52) dX10_select_50 rfl ?_
          rw [← hgx]
          refine S_callV2i (q := 55) dX10_select_52 lk_X10_249 (by first | assumption | rfl) rfl rfl (k_X10_rank g0 g1 hρ hρ2 hP hb hce hn) rfl rfl (Nat.le_of_ble_eq_true rfl) ⟨Nat.le_of_ble_eq_true rfl, Nat.le_of_ble_eq_true rfl⟩ ⟨Nat.le_of_ble_eq_true rfl, Nat.le_of_ble_eq_true rfl⟩ rfl (fun v52 M52 hv52 => ?_)
          obtain ⟨e52, rfl⟩ := hv52
          rw [e52]
          refine S_aload_0 (q := 56) dX10_select_55 rfl ?_
          refine S_iload_1 (q := 57) dX10_select_56 rfl ?_
          refine S_iload_2 (q := 58) dX10_select_57 rfl ?_
          rw [hbs]
          refine S_callV2i (q := 61) dX10_select_58 lk_X10_249 (by first | assumption | rfl) rfl rfl (k_X10_rank g0 g1 hρ hρ2 hP hb hce hsel.1) rfl rfl (Nat.le_of_ble_eq_true rfl) ⟨Nat.le_of_ble_eq_true rfl, Nat.le_of_ble_eq_true rfl⟩ ⟨Nat.le_of_ble_eq_true rfl, Nat.le_of_ble_eq_true rfl⟩ rfl (fun v58 M58 hv58 => ?_)
          obtain ⟨e58, rfl⟩ := hv58
          rw [e58]
          refine S_icmp_le (t := 67) (q := 64) dX10_select_61 (by decide) rfl (fun hb61 => ?_) (fun hb61 => ?_)
          · have hle := (rk_le hP).mp hb61
            have hes : selT P ρ f (i0 * P.c + i + 1) = selT P ρ f (i0 * P.c + i) := selT_no (fun y => by have := y.2; omega)
            refine S_iinc_4 (q := 70) (nI (i + 1)) dX10_select_67 (inc1 _) rfl ?_
            refine S_goto (t := 15) dX10_select_70 (by decide) ?_
            rw [← hbs, ← hbo hes]
            refine S_fgt5 ?_
            exact ih (i + 1) (by omega) hlt
          · have hle : ¬ sco P ρ f (i0 * P.c + i) ≤ sco P ρ f (selT P ρ f (i0 * P.c + i)).1 := fun y => hb61 ((rk_le hP).mpr y)
            have hes := selT_yes (ρ := ρ) hd (show (selT P ρ f (i0 * P.c + i)).2 ≤ sco P ρ f (i0 * P.c + i) by omega)
            refine S_iload_5 (q := 66) dX10_select_64 rfl ?_
            refine S_istore_2 (q := 67) dX10_select_66 rfl ?_
            refine S_iinc_4 (q := 70) (nI (i + 1)) dX10_select_67 (inc1 _) rfl ?_
            refine S_goto (t := 15) dX10_select_70 (by decide) ?_
            rw [hgx, ← hbn _ hes]
            refine S_fgt5 ?_
            exact ih (i + 1) (by omega) hlt
set_option maxHeartbeats 4000000 in
set_option maxRecDepth 100000 in
theorem k_X10_select {l : Launch} {G : Gd} {b0 : Nat} {M : Mem} {P : Pz} {f : Nat → Nat} {b ρ : Nat}  (g0 : M 140 0 = nI P.r) (g1 : M 140 1 = nI P.c) (hρ : M 140 3 = nI ρ) (hρ2 : ρ ≤ 2) (hP : P.ok) (hb : b + 64 ≤ 4160) (hce : RCE M b P f)  : Ct l G b0 yX10_select cX10_select 6 (some .int) (rmZ 2 47) LAY LAY M [.ref (b0 + 140), .int (nI b)] (fun v M' => M' = M ∧ (adec P f → v = -1) ∧ (¬ adec P f → v = nI (gx P.c (sel P ρ f)))) := by
  have hr8 := hP.r8
  have hc8 := hP.c8
  have hc1 := hP.c1
  refine Ct.of [some (.ref (b0 + 140)), some (.int (nI b)), none, none, none, none] (by decide) (Nat.le_of_ble_eq_true rfl) rfl rfl ?_
  refine S_iconst (q := 1) (-1) dX10_select_0 (by decide) rfl ?_
  refine S_istore_2 (q := 2) dX10_select_1 rfl ?_
  refine S_iconst (q := 3) (nI 0) dX10_select_2 (by decide) rfl ?_
  refine S_istore_3 (q := 4) dX10_select_3 rfl ?_
  suffices H : ∀ (d : Nat) (i : Nat), P.r - i = d → i ≤ P.r → S l G b0 yX10_select cX10_select 6 (some .int) (rmZ 2 47) LAY (fun v M' => M' = M ∧ (adec P f → v = -1) ∧ (¬ adec P f → v = nI (gx P.c (sel P ρ f)))) 0 0 0 0 LAY 4 [some (.ref (b0 + 140)), some (.int (nI b)), some (.int (bst P ρ f (P.c * (i)))), some (.int (nI (i))), none, none] [] M from H _ 0 rfl (by omega)
  intro d
  induction d with
  | zero =>
    intro i hd hi
    have e : P.r = i := by omega
    subst e
    refine S_iload_3 (q := 5) dX10_select_4 rfl ?_
    refine S_aload_0 (q := 6) dX10_select_5 rfl ?_
    refine S_getI (q := 9) dX10_select_6 fl_X10_7 (by first | assumption | rfl) (by rfl) rfl ?_
    rw [g0]
    refine S_icmp_ge (t := 79) (q := 12) dX10_select_9 (by decide) rfl (fun hb9 => ?_) (fun hb9 => ?_)
    · refine S_iload_2 (q := 80) dX10_select_79 rfl ?_
      exact S_iret rfl dX10_select_80 rfl rfl (⟨rfl, fun ha => (by
              rw [Nat.mul_comm]
              unfold bst
              by_cases h0 : (selT P ρ f (P.r * P.c)).2 = 0
              · rw [if_pos h0]
              · exact absurd (adec_iff.mp ha _ ((selT_ok _).2 h0).1) ((selT_ok _).2 h0).2), fun ha => (by
              rw [Nat.mul_comm]
              unfold bst
              by_cases h0 : (selT P ρ f (P.r * P.c)).2 = 0
              · exact absurd (adec_iff.mpr ((selT_ok _).1 h0)) ha
              · rw [if_neg h0]; rfl)⟩)
    · exact absurd (Int32.le_refl _) hb9
  | succ d ih =>
    intro i hd hi
    have hlt : i < P.r := by omega
    refine S_iload_3 (q := 5) dX10_select_4 rfl ?_
    refine S_aload_0 (q := 6) dX10_select_5 rfl ?_
    refine S_getI (q := 9) dX10_select_6 fl_X10_7 (by first | assumption | rfl) (by rfl) rfl ?_
    rw [g0]
    refine S_icmp_ge (t := 79) (q := 12) dX10_select_9 (by decide) rfl (fun hb9 => ?_) (fun hb9 => ?_)
    · exact absurd hb9 (nI_ge hlt (by omega))
    · refine S_iconst (q := 13) (nI 0) dX10_select_12 (by decide) rfl ?_
      refine S_istore_4 (q := 15) dX10_select_13 rfl ?_
      rw [show P.c * i = i * P.c + 0 from Nat.mul_comm _ _]
      refine q_selRow g0 g1 hρ hρ2 hP hb hce hlt ?_
      refine S_iinc_3 (q := 76) (nI (i + 1)) dX10_select_73 (inc1 _) rfl ?_
      refine S_goto (t := 4) dX10_select_76 (by decide) ?_
      refine S_fgt4 ?_
      rw [show i * P.c + P.c = P.c * (i + 1) by rw [← Nat.succ_mul, Nat.mul_comm]]
      exact ih (i + 1) (by omega) hlt
/-- what a search has come to -/
def VC (M : Mem) (P : Pz) (R : Rs) : Prop := M 140 27 = nI R.1 ∧ M 140 28 = nI R.2.1 ∧ M 140 30 = nI (if R.2.2.1 then 1 else 0) ∧ R.1 ≤ 60 ∧ R.2.1 ≤ R.1 ∧ (1 ≤ R.2.1 → ∀ x, x < P.r * P.c → M 151 (gx P.c x) = nI (R.2.2.2 x) ∧ R.2.2.2 x < 16 ∧ pc4 (R.2.2.2 x) = 1)
def VFR (M M1 : Mem) (b : Nat) : Prop := (∀ a, a ≠ 140 → a ≠ 141 → (a < 149 ∨ 151 < a) → M1 a = M a) ∧ (∀ k, (k < 17 ∨ k = 20 ∨ k = 21 ∨ k = 25 ∨ k = 26 ∨ k = 29 ∨ 30 < k) → M1 140 k = M 140 k) ∧ ∀ x, x < b → M1 141 x = M 141 x
theorem VFR.refl {M : Mem} {b : Nat} : VFR M M b := ⟨fun _ _ _ _ => rfl, fun _ _ => rfl, fun _ _ => rfl⟩
theorem VFR.trans {M M1 M2 : Mem} {b c : Nat} (h : VFR M M1 b) (g : VFR M1 M2 c) (hbc : b ≤ c) : VFR M M2 b := ⟨fun a h1 h2 h3 => by rw [g.1 a h1 h2 h3]; exact h.1 a h1 h2 h3, fun k hk => by rw [g.2.1 k hk]; exact h.2.1 k hk, fun x hx => by rw [g.2.2 x (by omega)]; exact h.2.2 x hx⟩
theorem VFR.sp {M M1 : Mem} {b : Nat} (h : SFR M M1 b) : VFR M M1 b := ⟨fun a h1 h2 h3 => h.1 a h1 h2 (by omega) (by omega), fun k hk => h.2.1 k (by omega) (by omega) (by omega) (by omega) (by omega) (by omega), fun x hx => h.2.2 x (.inl hx)⟩
theorem VFR.up {M : Mem} {b k : Nat} {v : Int32} (hk : k = 27 ∨ k = 28 ∨ k = 30) : VFR M (up M 140 k v) b := ⟨fun a h1 _ _ => up_n h1, fun z hz => by rw [up_eq, if_neg (by omega)], fun x _ => by rw [up_n (by decide)]⟩
/-- what visit needs -/
def VWR (M : Mem) (P : Pz) (ρ lim ap : Nat) (b : Nat) (f : Nat → Nat) : Prop := LWR M P f b (-1) ap ∧ M 140 2 = nI P.k ∧ M 140 3 = nI ρ ∧ M 140 29 = nI lim
theorem VWR.fr {M M1 : Mem} {P : Pz} {ρ lim ap b c : Nat} {f g : Nat → Nat} (h : VWR M P ρ lim ap b f) {d : Nat} (hv : VFR M M1 d) (hg : RCE M1 c P g) : VWR M1 P ρ lim ap c g := by
  obtain ⟨⟨a1, a2, a3, a4, a5, a6⟩, h2, h3, h4⟩ := h
  exact ⟨⟨by rw [hv.2.1 0 (by omega)]; exact a1, by rw [hv.2.1 1 (by omega)]; exact a2, a3.fr (hv.1 _ (by decide) (by decide) (by decide)) (hv.1 _ (by decide) (by decide) (by decide)) (hv.1 _ (by decide) (by decide) (by decide)), hg, by rw [hv.2.1 20 (by omega)]; exact a5, by rw [hv.2.1 21 (by omega)]; exact a6⟩, by rw [hv.2.1 2 (by omega)]; exact h2, by rw [hv.2.1 3 (by omega)]; exact h3, by rw [hv.2.1 29 (by omega)]; exact h4⟩
set_option maxHeartbeats 4000000 in
set_option maxRecDepth 100000 in
theorem q_solCopy {l : Launch} {G : Gd} {b0 : Nat} {M : Mem} {b dd : Nat} {z2 : Int32} {Q : Mem → Prop} (hb : b + 64 ≤ 4160) (hQ : ∀ M', ((∀ a, a ≠ 151 → M' a = M a) ∧ (∀ x, x < 64 → M' 151 (x) = M 141 (b + x)) ∧ (∀ x, 64 ≤ x → M' 151 x = M 151 x)) → Q M') : S l G b0 yX10_visit cX10_visit 5 none (rmZ (dd + 1 + 13) (460 + 24 * (dd + 1))) LAY (fun v M' => Q M') 0 0 0 0 LAY 56 [some (.ref (b0 + 140)), some (.int (nI b)), some (.int z2), some (.int (nI (0))), none] [] M := by
  suffices H : ∀ (d : Nat) (i : Nat) (M1 : Mem), 64 - i = d → i ≤ 64 → ((∀ a, a ≠ 151 → M1 a = M a) ∧ (∀ x, x < i → M1 151 (x) = M 141 (b + x)) ∧ (∀ x, i ≤ x → M1 151 x = M 151 x)) → S l G b0 yX10_visit cX10_visit 5 none (rmZ (dd + 1 + 13) (460 + 24 * (dd + 1))) LAY (fun v M' => Q M') 0 0 0 0 LAY 56 [some (.ref (b0 + 140)), some (.int (nI b)), some (.int z2), some (.int (nI (i))), none] [] M1 from H _ 0 _ rfl (by omega) ⟨fun _ _ => rfl, fun x hx => absurd hx (Nat.not_lt_zero x), fun _ _ => rfl⟩
  intro d
  induction d with
  | zero =>
    intro i M1 hd hi hI
    have e : 64 = i := by omega
    subst e
    refine S_iload_3 (q := 57) dX10_visit_56 rfl ?_
    refine S_bipush (q := 59) (nI 64) dX10_visit_57 (by decide) rfl ?_
    refine S_icmp_ge (t := 82) (q := 62) dX10_visit_59 (by decide) rfl (fun hb59 => ?_) (fun hb59 => ?_)
    · exact S_ret (v := 0) rfl dX10_visit_82 rfl (hQ _ hI)
    · exact absurd (Int32.le_refl _) hb59
  | succ d ih =>
    intro i M1 hd hi hI
    have hlt : i < 64 := by omega
    refine S_iload_3 (q := 57) dX10_visit_56 rfl ?_
    refine S_bipush (q := 59) (nI 64) dX10_visit_57 (by decide) rfl ?_
    refine S_icmp_ge (t := 82) (q := 62) dX10_visit_59 (by decide) rfl (fun hb59 => ?_) (fun hb59 => ?_)
    · exact absurd hb59 (nI_ge hlt (by omega))
    · refine S_aload_0 (q := 63) dX10_visit_62 rfl ?_
      refine S_getR (q := 66) dX10_visit_63 fl_X10_89 (by first | assumption | rfl) (by rfl) rfl ?_
      refine S_iload_3 (q := 67) dX10_visit_66 rfl ?_
      refine S_aload_0 (q := 68) dX10_visit_67 rfl ?_
      refine S_getR (q := 71) dX10_visit_68 fl_X10_22 (by first | assumption | rfl) (by rfl) rfl ?_
      refine S_iload_1 (q := 72) dX10_visit_71 rfl ?_
      refine S_iload_3 (q := 73) dX10_visit_72 rfl ?_
      refine S_iadd (q := 74) dX10_visit_73 rfl ?_
      refine S_ialdE (i := b + i) (q := 75) dX10_visit_74 (by first | assumption | rfl) (by first | (simp only [nI_add, pk_mul, nI_1]; done) | rfl) (by omega) (by decide) rfl ?_
      refine S_iastE (i := i) (q := 76) dX10_visit_75 (by first | assumption | rfl) (by first | (simp only [nI_add, pk_mul, nI_1]; done) | rfl) (by omega) (by decide) rfl ?_
      refine S_iinc_3 (q := 79) (nI (i + 1)) dX10_visit_76 (inc1 _) rfl ?_
      refine S_goto (t := 56) dX10_visit_79 (by decide) ?_
      exact ih (i + 1) _ (by omega) hlt ⟨fun a h0 => (by rw [up_n h0]; exact hI.1 a h0), (fun x hx => by
        rw [up_eq]
        by_cases e : x = i
        · rw [if_pos ⟨rfl, e⟩, e]; exact congrFun (hI.1 141 (by decide)) _
        · rw [if_neg (fun y => e y.2)]; exact hI.2.1 x (by omega)), fun x hx => (by rw [up_eq, if_neg (by omega)]; exact hI.2.2 x (by omega))⟩
set_option maxHeartbeats 4000000 in
set_option maxRecDepth 100000 in
theorem k_X10_visit {l : Launch} {G : Gd} {b0 : Nat} {P : Pz} {ρ lim ap : Nat} (hP : P.ok) (hρ2 : ρ ≤ 2) (hlim : lim ≤ 20) (hap : ap < 8) : ∀ (d : Nat) (f : Nat → Nat) (R : Rs) (M : Mem) (b m : Nat), 60 ≤ d + R.1 → b = 64 * m → 1 ≤ m → m ≤ R.1 + 1 → VWR M P ρ lim ap b f → VC M P R → Ct l G b0 yX10_visit cX10_visit 5 none (rmZ (d + 13) (460 + 24 * d)) LAY LAY M [.ref (b0 + 140), .int (nI b)] (fun v M' => VFR M M' b ∧ VC M' P (vis P ρ lim (d) f R)) := by
  have hr8 := hP.r8
  have hc8 := hP.c8
  have hc1 := hP.c1
  have hk3 := hP.k3
  intro d
  induction d with
  | zero =>
    intro f R M b m h60' hbm hm1 hm2 hW hV
    have h60 : R.1 = 60 := by have := hV.2.2.2.1; omega
    have hvis : vis P ρ lim 0 f R = (R.1, R.2.1, true, R.2.2.2) := rfl
    refine Ct.of [some (.ref (b0 + 140)), some (.int (nI b)), none, none, none] (by decide) (Nat.le_of_ble_eq_true rfl) rfl rfl ?_
    refine S_aload_0 (q := 1) dX10_visit_0 rfl ?_
    refine S_getI (q := 4) dX10_visit_1 fl_X10_92 (by first | assumption | rfl) (by rfl) rfl ?_
    rw [hV.1]
    refine S_bipush (q := 6) (nI 60) dX10_visit_4 (by decide) rfl ?_
    refine S_icmp_ne (t := 15) (q := 9) dX10_visit_6 (by decide) rfl (fun hb6 => ?_) (fun hb6 => ?_)
    · exact absurd (by rw [h60]) hb6
    · refine S_aload_0 (q := 10) dX10_visit_9 rfl ?_
      refine S_iconst (q := 11) (nI 1) dX10_visit_10 (by decide) rfl ?_
      refine S_putI (q := 14) dX10_visit_11 fp_X10_101 (by first | assumption | rfl) (by rfl) (by rfl) (by rfl) rfl ?_
      exact S_ret (v := 0) rfl dX10_visit_14 rfl (⟨VFR.up (.inr (.inr rfl)), (by
            rw [hvis]
            exact ⟨by rw [up_eq, if_neg (by decide)]; exact hV.1, by rw [up_eq, if_neg (by decide)]; exact hV.2.1, up_s, hV.2.2.2.1, hV.2.2.2.2.1, fun h x hx => by rw [up_n (by decide)]; exact hV.2.2.2.2.2 h x hx⟩)⟩)
  | succ d ih =>
    intro f R M b m h60' hbm hm1 hm2 hW hV
    have hV60 := hV.2.2.2.1
    have hV5 := hV.2.2.2.2.1
    have H95 : ∀ (g : Nat → Nat) (e k : Nat) (R1 : Rs) (M1 : Mem), ¬ adec P g → P.k + 1 - k = e → k ≤ P.k + 1 → R.1 + 1 ≤ R1.1 → VFR M M1 b → VWR M1 P ρ lim ap b g → VC M1 P R1 → S l G b0 yX10_visit cX10_visit 5 none (rmZ (d + 1 + 13) (460 + 24 * (d + 1))) LAY (fun v M' => VFR M M' b ∧ VC M' P (chF P lim (vis P ρ lim d) g (sel P ρ g) (e) R1)) 0 0 0 0 LAY 95 [some (.ref (b0 + 140)), some (.int (nI b)), some (.int (nI (gx P.c (sel P ρ g)))), some (.int (nI (g (sel P ρ g)))), some (.int (nI (k)))] [] M1 := by
      intro g e
      induction e with
      | zero =>
        intro k R1 M1 hna hd hk hR1 hf hw hv
        have e0 : P.k + 1 = k := by omega
        subst e0
        refine S_iload_4 (q := 97) dX10_visit_95 rfl ?_
        refine S_aload_0 (q := 98) dX10_visit_97 rfl ?_
        refine S_getI (q := 101) dX10_visit_98 fl_X10_16 (by first | assumption | rfl) (by rfl) rfl ?_
        rw [hw.2.1]
        refine S_icmp_gt (t := 172) (q := 104) dX10_visit_101 (by decide) rfl (fun hb101 => ?_) (fun hb101 => ?_)
        · exact S_ret (v := 0) rfl dX10_visit_172 rfl (⟨hf, hv⟩)
        · exact absurd ((nI_ltI (by omega) (by omega)).mpr (show P.k < P.k + 1 by omega)) hb101
      | succ e ihe =>
        intro k R1 M1 hna hd hk hR1 hf hw hv
        obtain ⟨hs1, hs2⟩ := sel_ok (P := P) (ρ := ρ) (f := g) hna
        have hx64 := (gx_64 hr8 hc8 hc1 hs1).1
        have hgs := hw.1.2.2.2.1 _ hs1
        have hke : P.k + 1 - (e + 1) = k := by omega
        obtain ⟨v1, v2, v3, v4, v5, v6⟩ := id hv
        refine S_iload_4 (q := 97) dX10_visit_95 rfl ?_
        refine S_aload_0 (q := 98) dX10_visit_97 rfl ?_
        refine S_getI (q := 101) dX10_visit_98 fl_X10_16 (by first | assumption | rfl) (by rfl) rfl ?_
        rw [hw.2.1]
        refine S_icmp_gt (t := 172) (q := 104) dX10_visit_101 (by decide) rfl (fun hb101 => ?_) (fun hb101 => ?_)
        · exact absurd ((nI_ltI (by omega) (by omega)).mp hb101) (by omega)
        · refine S_aload_0 (q := 105) dX10_visit_104 rfl ?_
          refine S_getI (q := 108) dX10_visit_105 fl_X10_101 (by first | assumption | rfl) (by rfl) rfl ?_
          rw [v3]
          refine S_if_ne (t := 172) (q := 111) dX10_visit_108 (by decide) rfl (fun hb108 => ?_) (fun hb108 => ?_)
          · have hsp : R1.2.2.1 = true := by
              cases e9 : R1.2.2.1 with
              | true => rfl
              | false => rw [e9] at hb108; exact absurd rfl hb108
            exact S_ret (v := 0) rfl dX10_visit_172 rfl (⟨hf, (by rw [chF, if_pos (.inl hsp)]; exact hv)⟩)
          · have hsp : ¬ R1.2.2.1 = true := fun y => by rw [if_pos y] at hb108; exact absurd hb108 (by decide)
            refine S_aload_0 (q := 112) dX10_visit_111 rfl ?_
            refine S_getI (q := 115) dX10_visit_112 fl_X10_95 (by first | assumption | rfl) (by rfl) rfl ?_
            refine S_aload_0 (q := 116) dX10_visit_115 rfl ?_
            refine S_getI (q := 119) dX10_visit_116 fl_X10_98 (by first | assumption | rfl) (by rfl) rfl ?_
            rw [v2, hw.2.2.2]
            refine S_icmp_ge (t := 172) (q := 122) dX10_visit_119 (by decide) rfl (fun hb119 => ?_) (fun hb119 => ?_)
            · have hle : lim ≤ R1.2.1 := (nI_leI (by omega) (by omega)).mp hb119
              exact S_ret (v := 0) rfl dX10_visit_172 rfl (⟨hf, (by rw [chF, if_pos (.inr hle)]; exact hv)⟩)
            · have hle : ¬ lim ≤ R1.2.1 := fun y => hb119 ((nI_leI (by omega) (by omega)).mpr y)
              have hns : ¬ (R1.2.2.1 = true ∨ lim ≤ R1.2.1) := fun y => y.elim hsp hle
              refine S_iload_3 (q := 123) dX10_visit_122 rfl ?_
              refine S_iload_4 (q := 125) dX10_visit_123 rfl ?_
              refine S_ishr (q := 126) dX10_visit_125 rfl ?_
              refine S_iconst (q := 127) (nI 1) dX10_visit_126 (by decide) rfl ?_
              refine S_iand (q := 128) dX10_visit_127 rfl ?_
              rw [tb_if (by omega) (show k < 32 by omega)]
              refine S_if_ne (t := 134) (q := 131) dX10_visit_128 (by decide) rfl (fun hb128 => ?_) (fun hb128 => ?_)
              · have hbt : (g (sel P ρ g)).testBit k = true := Decidable.byContradiction (fun y => hb128 (by rw [if_neg y]; rfl))
                refine S_aload_0 (q := 135) dX10_visit_134 rfl ?_
                refine S_iload_1 (q := 136) dX10_visit_135 rfl ?_
                refine S_iload_1 (q := 137) dX10_visit_136 rfl ?_
                refine S_bipush (q := 139) (nI 64) dX10_visit_137 (by decide) rfl ?_
                refine S_iadd (q := 140) dX10_visit_139 rfl ?_
                rw [nI_add]
                refine S_callV2v (q := 143) dX10_visit_140 lk_X10_230 (by first | assumption | rfl) rfl rfl (k_X10_copy (s := b) (t := b + 64) (by omega) (by omega) (by omega)) rfl rfl (Nat.le_of_ble_eq_true rfl) ⟨by simp only [rmZ]; omega, by simp only [rmZ]; omega⟩ ⟨Nat.le_of_ble_eq_true rfl, Nat.le_of_ble_eq_true rfl⟩ rfl (fun v140 M140 hv140 => ?_)
                have hf2 : VFR M1 M140 (b + 64) := ⟨fun a h1 h2 h3 => hv140.1 a h2, fun z hz => by rw [hv140.1 140 (by decide)], fun x hx => hv140.2.1 x (.inl hx)⟩
                refine S_aload_0 (q := 144) dX10_visit_143 rfl ?_
                refine S_getR (q := 147) dX10_visit_144 fl_X10_22 (by first | assumption | rfl) (by rfl) rfl ?_
                refine S_iload_1 (q := 148) dX10_visit_147 rfl ?_
                refine S_bipush (q := 150) (nI 64) dX10_visit_148 (by decide) rfl ?_
                refine S_iadd (q := 151) dX10_visit_150 rfl ?_
                refine S_iload_2 (q := 152) dX10_visit_151 rfl ?_
                rw [nI_add]
                refine S_iadd (q := 153) dX10_visit_152 rfl ?_
                rw [nI_add]
                refine S_iconst (q := 154) (nI 1) dX10_visit_153 (by decide) rfl ?_
                refine S_iload_4 (q := 156) dX10_visit_154 rfl ?_
                refine S_ishl (q := 157) dX10_visit_156 rfl ?_
                rw [nI_shl (show k < 32 by omega) (by rw [Nat.one_mul]; exact Nat.lt_trans (p2_16 (show k ≤ 3 by omega)).2 (by decide)), Nat.one_mul]
                refine S_iastE (i := b + 64 + gx P.c (sel P ρ g)) (q := 158) dX10_visit_157 (by first | assumption | rfl) (by first | (simp only [nI_add, pk_mul, nI_1]; done) | rfl) (by omega) (by decide) rfl ?_
                have hf4 : VFR M1 (up M140 141 (b + 64 + gx P.c (sel P ρ g)) (nI (2 ^ k))) (b + 64) := hf2.trans ⟨fun a h1 h2 h3 => up_n h2, fun z hz => by rw [up_n (by decide)], fun x hx => by rw [up_eq, if_neg (by omega)]⟩ (Nat.le_refl _)
                have hw4 : VWR (up M140 141 (b + 64 + gx P.c (sel P ρ g)) (nI (2 ^ k))) P ρ lim ap (b + 64) (upf g (sel P ρ g) (2 ^ k)) := hw.fr hf4 (RCE.up (hw.1.2.2.2.1.cp hP (fun x hx => hv140.2.2 x hx)) hP hs1 (p2_16 (by omega)).1 (p2_16 (by omega)).2)
                have hv4 : VC (up M140 141 (b + 64 + gx P.c (sel P ρ g)) (nI (2 ^ k))) P R1 := ⟨by rw [up_n (by decide), hv140.1 140 (by decide)]; exact v1, by rw [up_n (by decide), hv140.1 140 (by decide)]; exact v2, by rw [up_n (by decide), hv140.1 140 (by decide)]; exact v3, v4, v5, fun h x hx => by rw [up_n (by decide), hv140.1 151 (by decide)]; exact v6 h x hx⟩
                refine S_aload_0 (q := 159) dX10_visit_158 rfl ?_
                refine S_iload_1 (q := 160) dX10_visit_159 rfl ?_
                refine S_bipush (q := 162) (nI 64) dX10_visit_160 (by decide) rfl ?_
                refine S_iadd (q := 163) dX10_visit_162 rfl ?_
                rw [nI_add]
                refine S_callV1v (q := 166) dX10_visit_163 lk_X10_255 (by first | assumption | rfl) rfl rfl ((ih (upf g (sel P ρ g) (2 ^ k)) R1 (up M140 141 (b + 64 + gx P.c (sel P ρ g)) (nI (2 ^ k))) (b + 64) (m + 1) (by omega) (by omega) (by omega) (by omega) hw4 hv4)) rfl rfl (Nat.le_of_ble_eq_true rfl) ⟨by simp only [rmZ]; omega, by simp only [rmZ]; omega⟩ ⟨Nat.le_of_ble_eq_true rfl, Nat.le_of_ble_eq_true rfl⟩ rfl (fun v163 M163 hv163 => ?_)
                refine S_iinc_4 (q := 169) (nI (k + 1)) dX10_visit_166 (inc1 _) rfl ?_
                refine S_goto (t := 95) dX10_visit_169 (by decide) ?_
                rw [chF, if_neg hns, hke, if_pos hbt]
                have hn2 := vis_nodes (P := P) (ρ := ρ) (lim := lim) d (upf g (sel P ρ g) (2 ^ k)) R1 v4
                exact ihe (k + 1) _ M163 hna (by omega) (by omega) (by omega) ((hf.trans hf4 (by omega)).trans hv163.1 (by omega)) ((hw.fr hf4 (hw.1.2.2.2.1.fr hP (fun x hx => hf4.2.2 _ (by omega)))).fr hv163.1 (hw.1.2.2.2.1.fr hP (fun x hx => by rw [hv163.1.2.2 _ (by omega)]; exact hf4.2.2 _ (by omega)))) hv163.2
              · have hbt : ¬ (g (sel P ρ g)).testBit k = true := fun y => by rw [if_pos y] at hb128; exact absurd hb128 (by decide)
                refine S_goto (t := 166) dX10_visit_131 (by decide) ?_
                refine S_iinc_4 (q := 169) (nI (k + 1)) dX10_visit_166 (inc1 _) rfl ?_
                refine S_goto (t := 95) dX10_visit_169 (by decide) ?_
                rw [chF, if_neg hns, hke, if_neg hbt]
                exact ihe (k + 1) R1 M1 hna (by omega) (by omega) hR1 hf hw hv
    by_cases h60 : R.1 = 60
    · have hvis : vis P ρ lim (d + 1) f R = (R.1, R.2.1, true, R.2.2.2) := by rw [vis, if_pos h60]
      refine Ct.of [some (.ref (b0 + 140)), some (.int (nI b)), none, none, none] (by decide) (Nat.le_of_ble_eq_true rfl) rfl rfl ?_
      refine S_aload_0 (q := 1) dX10_visit_0 rfl ?_
      refine S_getI (q := 4) dX10_visit_1 fl_X10_92 (by first | assumption | rfl) (by rfl) rfl ?_
      rw [hV.1]
      refine S_bipush (q := 6) (nI 60) dX10_visit_4 (by decide) rfl ?_
      refine S_icmp_ne (t := 15) (q := 9) dX10_visit_6 (by decide) rfl (fun hb6 => ?_) (fun hb6 => ?_)
      · exact absurd (by rw [h60]) hb6
      · refine S_aload_0 (q := 10) dX10_visit_9 rfl ?_
        refine S_iconst (q := 11) (nI 1) dX10_visit_10 (by decide) rfl ?_
        refine S_putI (q := 14) dX10_visit_11 fp_X10_101 (by first | assumption | rfl) (by rfl) (by rfl) (by rfl) rfl ?_
        exact S_ret (v := 0) rfl dX10_visit_14 rfl (⟨VFR.up (.inr (.inr rfl)), (by
                rw [hvis]
                exact ⟨by rw [up_eq, if_neg (by decide)]; exact hV.1, by rw [up_eq, if_neg (by decide)]; exact hV.2.1, up_s, hV.2.2.2.1, hV.2.2.2.2.1, fun h x hx => by rw [up_n (by decide)]; exact hV.2.2.2.2.2 h x hx⟩)⟩)
    · skip
      refine Ct.of [some (.ref (b0 + 140)), some (.int (nI b)), none, none, none] (by decide) (Nat.le_of_ble_eq_true rfl) rfl rfl ?_
      refine S_aload_0 (q := 1) dX10_visit_0 rfl ?_
      refine S_getI (q := 4) dX10_visit_1 fl_X10_92 (by first | assumption | rfl) (by rfl) rfl ?_
      rw [hV.1]
      refine S_bipush (q := 6) (nI 60) dX10_visit_4 (by decide) rfl ?_
      refine S_icmp_ne (t := 15) (q := 9) dX10_visit_6 (by decide) rfl (fun hb6 => ?_) (fun hb6 => ?_)
      · refine S_aload_0 (q := 16) dX10_visit_15 rfl ?_
        refine S_dup (q := 17) dX10_visit_16 rfl rfl ?_
        refine S_getI (q := 20) dX10_visit_17 fl_X10_92 (by first | assumption | rfl) (by rfl) rfl ?_
        refine S_iconst (q := 21) (nI 1) dX10_visit_20 (by decide) rfl ?_
        rw [hV.1]
        refine S_iadd (q := 22) dX10_visit_21 rfl ?_
        rw [nI_add]
        refine S_putI (q := 25) dX10_visit_22 fp_X10_92 (by first | assumption | rfl) (by rfl) rfl (by rfl) rfl ?_
        have hW2 : VWR (up M 140 27 (nI (R.1 + 1))) P ρ lim ap b f := hW.fr (VFR.up (b := b) (.inl rfl)) (fun x hx => by rw [up_n (by decide)]; exact hW.1.2.2.2.1 x hx)
        have hf2 : VFR M (up M 140 27 (nI (R.1 + 1))) b := VFR.up (.inl rfl)
        have h256 := WT_le hP (f := f)
        refine S_aload_0 (q := 26) dX10_visit_25 rfl ?_
        refine S_iload_1 (q := 27) dX10_visit_26 rfl ?_
        refine S_callV1i (q := 30) dX10_visit_27 lk_X10_239 (by first | assumption | rfl) rfl rfl (k_X10_spread hP (by omega) hap rfl hW2.1) rfl rfl (Nat.le_of_ble_eq_true rfl) ⟨by simp only [rmZ]; omega, by simp only [rmZ]; omega⟩ ⟨Nat.le_of_ble_eq_true rfl, Nat.le_of_ble_eq_true rfl⟩ rfl (fun v27 M27 hv27 => ?_)
        obtain ⟨hs1, hs2, hs3⟩ := hv27
        have hf3 : VFR M M27 b := hf2.trans (VFR.sp hs1) (Nat.le_refl _)
        have hV3 : VC M27 P (R.1 + 1, R.2) := ⟨by rw [hs1.2.1 27 (by decide) (by decide) (by decide) (by decide) (by decide) (by decide)]; exact up_s, by rw [hs1.2.1 28 (by decide) (by decide) (by decide) (by decide) (by decide) (by decide), up_eq, if_neg (by decide)]; exact hV.2.1, by rw [hs1.2.1 30 (by decide) (by decide) (by decide) (by decide) (by decide) (by decide), up_eq, if_neg (by decide)]; exact hV.2.2.1, (show R.1 + 1 ≤ 60 by omega), (show R.2.1 ≤ R.1 + 1 by omega), fun h x hx => by rw [hs1.1 151 (by decide) (by decide) (by decide) (by decide), up_n (by decide)]; exact hV.2.2.2.2.2 h x hx⟩
        refine S_if_ge (t := 34) (q := 33) dX10_visit_30 (by decide) rfl (fun hb30 => ?_) (fun hb30 => ?_)
        · obtain ⟨g, n, hz⟩ : ∃ g n, spr P f = .inr (g, n) := by
            cases e : spr P f with
            | inl j => rw [(hs2 j e).1] at hb30; exact absurd hb30 (by decide)
            | inr q => exact ⟨q.1, q.2, rfl⟩
          obtain ⟨-, -, hg⟩ := hs3 g n hz
          have hW3 : VWR M27 P ρ lim ap b g := hW2.fr (VFR.sp (b := b) hs1) hg
          refine S_aload_0 (q := 35) dX10_visit_34 rfl ?_
          refine S_iload_1 (q := 36) dX10_visit_35 rfl ?_
          refine S_callV1i (q := 39) dX10_visit_36 lk_X10_252 (by first | assumption | rfl) rfl rfl (k_X10_select (ρ := ρ) hW3.1.1 hW3.1.2.1 hW3.2.2.1 hρ2 hP (by omega) hg) rfl rfl (Nat.le_of_ble_eq_true rfl) ⟨by simp only [rmZ]; omega, by simp only [rmZ]; omega⟩ ⟨Nat.le_of_ble_eq_true rfl, Nat.le_of_ble_eq_true rfl⟩ rfl (fun v36 M36 hv36 => ?_)
          obtain ⟨e36, hq2, hq3⟩ := hv36
          rw [e36]
          refine S_istore_2 (q := 40) dX10_visit_39 rfl ?_
          refine S_iload_2 (q := 41) dX10_visit_40 rfl ?_
          refine S_if_ge (t := 83) (q := 44) dX10_visit_41 (by decide) rfl (fun hb41 => ?_) (fun hb41 => ?_)
          · have hna : ¬ adec P g := fun y => by rw [hq2 y] at hb41; exact absurd hb41 (by decide)
            obtain ⟨hq4, hq5⟩ := sel_ok (P := P) (ρ := ρ) (f := g) hna
            have hx64 := (gx_64 hr8 hc8 hc1 hq4).1
            obtain rfl := hq3 hna
            refine S_aload_0 (q := 84) dX10_visit_83 rfl ?_
            refine S_getR (q := 87) dX10_visit_84 fl_X10_22 (by first | assumption | rfl) (by rfl) rfl ?_
            refine S_iload_1 (q := 88) dX10_visit_87 rfl ?_
            refine S_iload_2 (q := 89) dX10_visit_88 rfl ?_
            refine S_iadd (q := 90) dX10_visit_89 rfl ?_
            refine S_ialdV (i := b + gx P.c (sel P ρ g)) (val := nI (g (sel P ρ g))) (q := 91) dX10_visit_90 (by first | assumption | rfl) (by first | (simp only [nI_add, pk_mul, nI_1]; done) | rfl) (by omega) (by decide) (hg _ hq4).1 rfl ?_
            refine S_istore_3 (q := 92) dX10_visit_91 rfl ?_
            refine S_iconst (q := 93) (nI 0) dX10_visit_92 (by decide) rfl ?_
            refine S_istore_4 (q := 95) dX10_visit_93 rfl ?_
            have hvis : vis P ρ lim (d + 1) f R = chF P lim (vis P ρ lim d) g (sel P ρ g) (P.k + 1) (R.1 + 1, R.2) := by rw [vis, if_neg h60, hz]; simp only; rw [if_neg (show ¬ sm (dc1 g) (P.r * P.c) = P.r * P.c from hna)]
            rw [hvis]
            exact H95 g (P.k + 1) 0 (R.1 + 1, R.2) M27 hna (Nat.sub_zero _) (Nat.zero_le _) (Nat.le_refl _) hf3 hW3 hV3
          · have had : adec P g := Classical.byContradiction (fun y => by rw [hq3 y] at hb41; obtain ⟨hq4, hq5⟩ := sel_ok (P := P) (ρ := ρ) (f := g) y; exact hb41 (nI_pos' (by have := (gx_64 hr8 hc8 hc1 hq4).1; omega)))
            refine S_aload_0 (q := 45) dX10_visit_44 rfl ?_
            refine S_dup (q := 46) dX10_visit_45 rfl rfl ?_
            refine S_getI (q := 49) dX10_visit_46 fl_X10_95 (by first | assumption | rfl) (by rfl) rfl ?_
            rw [hV3.2.1]
            refine S_iconst (q := 50) (nI 1) dX10_visit_49 (by decide) rfl ?_
            refine S_iadd (q := 51) dX10_visit_50 rfl ?_
            rw [nI_add]
            refine S_putI (q := 54) dX10_visit_51 fp_X10_95 (by first | assumption | rfl) (by rfl) rfl (by rfl) rfl ?_
            refine S_iconst (q := 55) (nI 0) dX10_visit_54 (by decide) rfl ?_
            refine S_istore_3 (q := 56) dX10_visit_55 rfl ?_
            have hvis : vis P ρ lim (d + 1) f R = (R.1 + 1, R.2.1 + 1, R.2.2.1, g) := by rw [vis, if_neg h60, hz]; simp only; rw [if_pos (show sm (dc1 g) (P.r * P.c) = P.r * P.c from had)]
            refine q_solCopy (by omega) (fun M' hM => ⟨(hf3.trans (VFR.up (k := 28) (v := nI (R.2.1 + 1)) (.inr (.inl rfl))) (Nat.le_refl b)).trans ⟨fun a h1 h2 h3 => hM.1 a (by omega), fun z hz => by rw [hM.1 140 (by decide)], fun x hx => by rw [hM.1 141 (by decide)]⟩ (Nat.le_refl b), ?_⟩)
            rw [hvis]
            refine ⟨by rw [hM.1 140 (by decide), up_eq, if_neg (by decide)]; exact hV3.1, by rw [hM.1 140 (by decide)]; exact up_s, by rw [hM.1 140 (by decide), up_eq, if_neg (by decide)]; exact hV3.2.2.1, (show R.1 + 1 ≤ 60 by omega), (show R.2.1 + 1 ≤ R.1 + 1 by omega), fun h x hx => ?_⟩
            have h1 := hg x hx
            exact ⟨by rw [hM.2.1 _ (gx_64 hr8 hc8 hc1 hx).1, up_n (by decide)]; exact h1.1, h1.2.2, adec_iff.mp had x hx⟩
        · obtain ⟨j9, hz⟩ : ∃ j, spr P f = .inl j := by
            cases e : spr P f with
            | inl j => exact ⟨j, rfl⟩
            | inr q => rw [(hs3 q.1 q.2 e).1] at hb30; exact absurd (nI_pos' (by omega)) hb30
          exact S_ret (v := 0) rfl dX10_visit_33 rfl (⟨hf3, (by rw [show vis P ρ lim (d + 1) f R = (R.1 + 1, R.2) by rw [vis, if_neg h60, hz]]; exact hV3)⟩)
      · exact absurd (nI_inj (by omega) (by decide) hb6) h60
set_option maxHeartbeats 4000000 in
set_option maxRecDepth 100000 in
theorem k_X10_search {l : Launch} {G : Gd} {b0 : Nat} {M : Mem} {A : Ab} {lim : Nat}  (hC : RR M A) (hk : A.ok) (hlim : lim ≤ 20)  : Ct l G b0 yX10_search cX10_search 2 (some .boolean) (rmZ 74 1924) LAY LAY M [.ref (b0 + 140), .int (nI lim)] (fun v M' => RR M' A ∧ (∀ a, a < 140 → M' a = M a) ∧ VC M' A.P (A.sr lim) ∧ v = bI (¬ (A.sr lim).2.2.1 = true)) := by
  obtain ⟨⟨g0, g1, g2, gcu, gce⟩, hru, hhi, hbad, hask, htx, hfo, hsn, htb⟩ := id hC
  have hP := hk.P
  have hr1 := hP.r1
  have hr8 := hP.r8
  have hc1 := hP.c1
  have hc8 := hP.c8
  have hk1 := hP.k1
  have hk3 := hP.k3
  have h64 := rc64 hr8 hc8
  have hH8 := hk.H8
  have hN : A.N = A.P.r + A.P.c := rfl
  refine Ct.of [some (.ref (b0 + 140)), some (.int (nI lim))] (by decide) (Nat.le_of_ble_eq_true rfl) rfl rfl ?_
  refine S_aload_0 (q := 1) dX10_search_0 rfl ?_
  refine S_iconst (q := 2) (nI 0) dX10_search_1 (by decide) rfl ?_
  refine S_putI (q := 5) dX10_search_2 fp_X10_92 (by first | assumption | rfl) (by rfl) rfl (by rfl) rfl ?_
  refine S_aload_0 (q := 6) dX10_search_5 rfl ?_
  refine S_iconst (q := 7) (nI 0) dX10_search_6 (by decide) rfl ?_
  refine S_putI (q := 10) dX10_search_7 fp_X10_95 (by first | assumption | rfl) (by rfl) rfl (by rfl) rfl ?_
  refine S_aload_0 (q := 11) dX10_search_10 rfl ?_
  refine S_iload_1 (q := 12) dX10_search_11 rfl ?_
  refine S_putI (q := 15) dX10_search_12 fp_X10_98 (by first | assumption | rfl) (by rfl) rfl (by rfl) rfl ?_
  refine S_aload_0 (q := 16) dX10_search_15 rfl ?_
  refine S_iconst (q := 17) (nI 0) dX10_search_16 (by decide) rfl ?_
  refine S_putI (q := 20) dX10_search_17 fp_X10_101 (by first | assumption | rfl) (by rfl) (by rfl) (by rfl) rfl ?_
  refine S_aload_0 (q := 21) dX10_search_20 rfl ?_
  refine S_iconst (q := 22) (nI 0) dX10_search_21 (by decide) rfl ?_
  refine S_bipush (q := 24) (nI 64) dX10_search_22 (by decide) rfl ?_
  refine S_callV2v (q := 27) dX10_search_24 lk_X10_230 (by first | assumption | rfl) rfl rfl (k_X10_copy (s := 0) (t := 64) (by decide) (by decide) (by decide)) rfl rfl (Nat.le_of_ble_eq_true rfl) ⟨Nat.le_of_ble_eq_true rfl, Nat.le_of_ble_eq_true rfl⟩ ⟨Nat.le_of_ble_eq_true rfl, Nat.le_of_ble_eq_true rfl⟩ rfl (fun v24 M24 hv24 => ?_)
  have hb0 : ∀ k, k ≠ 27 → k ≠ 28 → k ≠ 29 → k ≠ 30 → (up (up (up (up M 140 27 (nI 0)) 140 28 (nI 0)) 140 29 (nI lim)) 140 30 (nI 0)) 140 k = M 140 k := fun k h1 h2 h3 h4 => by rw [up_eq, if_neg (by omega), up_eq, if_neg (by omega), up_eq, if_neg (by omega), up_eq, if_neg (by omega)]
  have hb1 : ∀ a, a ≠ 140 → (up (up (up (up M 140 27 (nI 0)) 140 28 (nI 0)) 140 29 (nI lim)) 140 30 (nI 0)) a = M a := fun a ha => by rw [up_n ha, up_n ha, up_n ha, up_n ha]
  have hCb : RR (up (up (up (up M 140 27 (nI 0)) 140 28 (nI 0)) 140 29 (nI lim)) 140 30 (nI 0)) A := hC.fr hk (fun k hk2 => hb0 k (by omega) (by omega) (by omega) (by omega)) (fun a ha => hb1 a (by omega)) (fun x _ => by rw [hb1 141 (by decide)])
  obtain ⟨hC2, hw2, hf2⟩ := hCb.cpy hk (by decide) (s := 0) (g := A.f) (fun x hx => by rw [hb1 141 (by decide)]; exact gce x hx) hv24
  obtain ⟨ap, hap, hLW⟩ := hC2.lw hw2
  have hW : VWR M24 A.P A.ru lim ap 64 A.f := ⟨hLW, by rw [hv24.1 140 (by decide), hb0 2 (by decide) (by decide) (by decide) (by decide)]; exact g2, by rw [hv24.1 140 (by decide), hb0 3 (by decide) (by decide) (by decide) (by decide)]; exact hru, by rw [hv24.1 140 (by decide), up_eq, if_neg (by decide), up_s]⟩
  have hV : VC M24 A.P (0, 0, false, A.f) := ⟨by rw [hv24.1 140 (by decide), up_eq, if_neg (by decide), up_eq, if_neg (by decide), up_eq, if_neg (by decide), up_s], by rw [hv24.1 140 (by decide), up_eq, if_neg (by decide), up_eq, if_neg (by decide), up_s], by rw [hv24.1 140 (by decide), up_s]; rfl, Nat.zero_le _, Nat.le_refl _, fun h => absurd (show 1 ≤ 0 from h) (by decide)⟩
  refine S_aload_0 (q := 28) dX10_search_27 rfl ?_
  refine S_bipush (q := 30) (nI 64) dX10_search_28 (by decide) rfl ?_
  refine S_callV1v (q := 33) dX10_search_30 lk_X10_255 (by first | assumption | rfl) rfl rfl (k_X10_visit (P := A.P) (ρ := A.ru) (lim := lim) (ap := ap) hP hk.ru hlim hap 60 A.f (0, 0, false, A.f) M24 64 1 (show 60 ≤ 60 + 0 by decide) rfl (by decide) (show 1 ≤ 0 + 1 by decide) hW hV) rfl rfl (Nat.le_of_ble_eq_true rfl) ⟨Nat.le_of_ble_eq_true rfl, Nat.le_of_ble_eq_true rfl⟩ ⟨Nat.le_of_ble_eq_true rfl, Nat.le_of_ble_eq_true rfl⟩ rfl (fun v30 M30 hv30 => ?_)
  obtain ⟨hq1, hq2⟩ := hv30
  have hq2' : VC M30 A.P (A.sr lim) := hq2
  have hC3 : RR M30 A := hC2.fr hk (fun k hk2 => hq1.2.1 k (by omega)) (fun a ha => hq1.1 a (by omega) (by omega) (by omega)) (fun x hx => hq1.2.2 x hx)
  have hf3 : ∀ a, a < 140 → M30 a = M a := fun a ha => by rw [hq1.1 a (by omega) (by omega) (by omega), hf2 a ha, hb1 a (by omega)]
  refine S_aload_0 (q := 34) dX10_search_33 rfl ?_
  refine S_getI (q := 37) dX10_search_34 fl_X10_101 (by first | assumption | rfl) (by rfl) rfl ?_
  rw [hq2'.2.2.1]
  refine S_if_ne (t := 44) (q := 40) dX10_search_37 (by decide) rfl (fun hb37 => ?_) (fun hb37 => ?_)
  · have hF : (A.sr lim).2.2.1 = true := by
      cases e : (A.sr lim).2.2.1 with
      | true => rfl
      | false => rw [e] at hb37; exact absurd rfl hb37
    refine S_iconst (q := 45) (nI 0) dX10_search_44 (by decide) rfl ?_
    exact S_iret rfl dX10_search_45 (by rfl) rfl (⟨hC3, hf3, hq2', (bI_f (fun y => y hF)).symm⟩)
  · have hF : ¬ (A.sr lim).2.2.1 = true := fun y => by rw [if_pos y] at hb37; exact absurd hb37 (by decide)
    refine S_iconst (q := 41) (nI 1) dX10_search_40 (by decide) rfl ?_
    refine S_goto (t := 45) dX10_search_41 (by decide) ?_
    exact S_iret rfl dX10_search_45 (by rfl) rfl (⟨hC3, hf3, hq2', (bI_t hF).symm⟩)
set_option maxHeartbeats 4000000 in
set_option maxRecDepth 100000 in
theorem k_X10_countSolutions {l : Launch} {G : Gd} {b0 : Nat} {M : Mem} {A : Ab} {x : Int32}  (hC : RR M A) (hk : A.ok)  : Ct l G b0 yX10_countSolutions cX10_countSolutions 2 (some .int) (rmZ 75 1945) LAY LAY M [.ref (b0 + 140), .int x] (fun v M' => RSR M (o_cnt A x) v M') := by
  obtain ⟨⟨g0, g1, g2, gcu, gce⟩, hru, hhi, hbad, hask, htx, hfo, hsn, htb⟩ := id hC
  have hP := hk.P
  have hr1 := hP.r1
  have hr8 := hP.r8
  have hc1 := hP.c1
  have hc8 := hP.c8
  have hk1 := hP.k1
  have hk3 := hP.k3
  have h64 := rc64 hr8 hc8
  have hH8 := hk.H8
  have hN : A.N = A.P.r + A.P.c := rfl
  refine Ct.of [some (.ref (b0 + 140)), some (.int x)] (by decide) (Nat.le_of_ble_eq_true rfl) rfl rfl ?_
  refine S_aload_0 (q := 1) dX10_countSolutions_0 rfl ?_
  refine S_iload_1 (q := 2) dX10_countSolutions_1 rfl ?_
  refine S_iconst (q := 3) (nI 1) dX10_countSolutions_2 (by decide) rfl ?_
  refine S_bipush (q := 5) (nI 20) dX10_countSolutions_3 (by decide) rfl ?_
  refine S_callV3i (q := 8) dX10_countSolutions_5 lk_X10_172 (by first | assumption | rfl) rfl rfl (k_X10_within) rfl rfl (Nat.le_of_ble_eq_true rfl) ⟨Nat.le_of_ble_eq_true rfl, Nat.le_of_ble_eq_true rfl⟩ ⟨Nat.le_of_ble_eq_true rfl, Nat.le_of_ble_eq_true rfl⟩ rfl (fun v5 M5 hv5 => ?_)
  obtain ⟨e5, rfl⟩ := hv5
  rw [e5]
  refine S_if_ne (t := 14) (q := 11) dX10_countSolutions_8 (by decide) rfl (fun hb8 => ?_) (fun hb8 => ?_)
  · obtain ⟨n, hn1, hn2, rfl, hn⟩ := iw_ok (by decide) (by decide) (bI_n.mp hb8)
    refine S_aload_0 (q := 15) dX10_countSolutions_14 rfl ?_
    refine S_iload_1 (q := 16) dX10_countSolutions_15 rfl ?_
    refine S_callV1i (q := 19) dX10_countSolutions_16 lk_X10_259 (by first | assumption | rfl) rfl rfl (k_X10_search hC hk hn2) rfl rfl (Nat.le_of_ble_eq_true rfl) ⟨Nat.le_of_ble_eq_true rfl, Nat.le_of_ble_eq_true rfl⟩ ⟨Nat.le_of_ble_eq_true rfl, Nat.le_of_ble_eq_true rfl⟩ rfl (fun v16 M16 hv16 => ?_)
    obtain ⟨hs1, hs2, hs3, rfl⟩ := hv16
    refine S_if_eq (t := 29) (q := 22) dX10_countSolutions_19 (by decide) rfl (fun hb19 => ?_) (fun hb19 => ?_)
    · have hF : (A.sr (n)).2.2.1 = true := Decidable.not_not.mp (bI_0.mp hb19)
      refine S_bipush (q := 31) (-7) dX10_countSolutions_29 (by decide) rfl ?_
      exact S_iret rfl dX10_countSolutions_31 rfl rfl (RSR.to hs1 hs2 (by unfold o_cnt; rw [show iw (nI n) 1 20 = some n from hn]; simp only [if_pos hF]))
    · have hF : ¬ (A.sr (n)).2.2.1 = true := bI_n.mp hb19
      refine S_aload_0 (q := 23) dX10_countSolutions_22 rfl ?_
      refine S_getI (q := 26) dX10_countSolutions_23 fl_X10_95 (by first | assumption | rfl) (by rfl) rfl ?_
      refine S_goto (t := 31) dX10_countSolutions_26 (by decide) ?_
      exact S_iret rfl dX10_countSolutions_31 rfl rfl (RSR.to hs1 hs2 (by unfold o_cnt; rw [show iw (nI n) 1 20 = some n from hn]; simp only [if_neg hF]; rw [hs3.2.1]))
  · have hn := iw_no (bI_0.mp hb8)
    refine S_bipush (q := 13) (-2) dX10_countSolutions_11 (by decide) rfl ?_
    exact S_iret rfl dX10_countSolutions_13 rfl rfl (RSR.same hC (by unfold o_cnt; rw [show iw x 1 20 = none from hn]))
set_option maxHeartbeats 4000000 in
set_option maxRecDepth 100000 in
theorem k_X10_searchNodes {l : Launch} {G : Gd} {b0 : Nat} {M : Mem} {A : Ab} {x : Int32}  (hC : RR M A) (hk : A.ok)  : Ct l G b0 yX10_searchNodes cX10_searchNodes 2 (some .int) (rmZ 75 1945) LAY LAY M [.ref (b0 + 140), .int x] (fun v M' => RSR M (o_nod A x) v M') := by
  obtain ⟨⟨g0, g1, g2, gcu, gce⟩, hru, hhi, hbad, hask, htx, hfo, hsn, htb⟩ := id hC
  have hP := hk.P
  have hr1 := hP.r1
  have hr8 := hP.r8
  have hc1 := hP.c1
  have hc8 := hP.c8
  have hk1 := hP.k1
  have hk3 := hP.k3
  have h64 := rc64 hr8 hc8
  have hH8 := hk.H8
  have hN : A.N = A.P.r + A.P.c := rfl
  refine Ct.of [some (.ref (b0 + 140)), some (.int x)] (by decide) (Nat.le_of_ble_eq_true rfl) rfl rfl ?_
  refine S_aload_0 (q := 1) dX10_searchNodes_0 rfl ?_
  refine S_iload_1 (q := 2) dX10_searchNodes_1 rfl ?_
  refine S_iconst (q := 3) (nI 1) dX10_searchNodes_2 (by decide) rfl ?_
  refine S_bipush (q := 5) (nI 20) dX10_searchNodes_3 (by decide) rfl ?_
  refine S_callV3i (q := 8) dX10_searchNodes_5 lk_X10_172 (by first | assumption | rfl) rfl rfl (k_X10_within) rfl rfl (Nat.le_of_ble_eq_true rfl) ⟨Nat.le_of_ble_eq_true rfl, Nat.le_of_ble_eq_true rfl⟩ ⟨Nat.le_of_ble_eq_true rfl, Nat.le_of_ble_eq_true rfl⟩ rfl (fun v5 M5 hv5 => ?_)
  obtain ⟨e5, rfl⟩ := hv5
  rw [e5]
  refine S_if_ne (t := 14) (q := 11) dX10_searchNodes_8 (by decide) rfl (fun hb8 => ?_) (fun hb8 => ?_)
  · obtain ⟨n, hn1, hn2, rfl, hn⟩ := iw_ok (by decide) (by decide) (bI_n.mp hb8)
    refine S_aload_0 (q := 15) dX10_searchNodes_14 rfl ?_
    refine S_iload_1 (q := 16) dX10_searchNodes_15 rfl ?_
    refine S_callV1i (q := 19) dX10_searchNodes_16 lk_X10_259 (by first | assumption | rfl) rfl rfl (k_X10_search hC hk hn2) rfl rfl (Nat.le_of_ble_eq_true rfl) ⟨Nat.le_of_ble_eq_true rfl, Nat.le_of_ble_eq_true rfl⟩ ⟨Nat.le_of_ble_eq_true rfl, Nat.le_of_ble_eq_true rfl⟩ rfl (fun v16 M16 hv16 => ?_)
    obtain ⟨hs1, hs2, hs3, rfl⟩ := hv16
    refine S_if_eq (t := 29) (q := 22) dX10_searchNodes_19 (by decide) rfl (fun hb19 => ?_) (fun hb19 => ?_)
    · have hF : (A.sr (n)).2.2.1 = true := Decidable.not_not.mp (bI_0.mp hb19)
      refine S_bipush (q := 31) (-7) dX10_searchNodes_29 (by decide) rfl ?_
      exact S_iret rfl dX10_searchNodes_31 rfl rfl (RSR.to hs1 hs2 (by unfold o_nod; rw [show iw (nI n) 1 20 = some n from hn]; simp only [if_pos hF]))
    · have hF : ¬ (A.sr (n)).2.2.1 = true := bI_n.mp hb19
      refine S_aload_0 (q := 23) dX10_searchNodes_22 rfl ?_
      refine S_getI (q := 26) dX10_searchNodes_23 fl_X10_92 (by first | assumption | rfl) (by rfl) rfl ?_
      refine S_goto (t := 31) dX10_searchNodes_26 (by decide) ?_
      exact S_iret rfl dX10_searchNodes_31 rfl rfl (RSR.to hs1 hs2 (by unfold o_nod; rw [show iw (nI n) 1 20 = some n from hn]; simp only [if_neg hF]; rw [hs3.1]))
  · have hn := iw_no (bI_0.mp hb8)
    refine S_bipush (q := 13) (-2) dX10_searchNodes_11 (by decide) rfl ?_
    exact S_iret rfl dX10_searchNodes_13 rfl rfl (RSR.same hC (by unfold o_nod; rw [show iw x 1 20 = none from hn]))
set_option maxHeartbeats 4000000 in
set_option maxRecDepth 100000 in
theorem k_X10_isUnique {l : Launch} {G : Gd} {b0 : Nat} {M : Mem} {A : Ab}  (hC : RR M A) (hk : A.ok)  : Ct l G b0 yX10_isUnique cX10_isUnique 1 (some .int) (rmZ 75 1945) LAY LAY M [.ref (b0 + 140)] (fun v M' => RSR M (o_uniq A) v M') := by
  obtain ⟨⟨g0, g1, g2, gcu, gce⟩, hru, hhi, hbad, hask, htx, hfo, hsn, htb⟩ := id hC
  have hP := hk.P
  have hr1 := hP.r1
  have hr8 := hP.r8
  have hc1 := hP.c1
  have hc8 := hP.c8
  have hk1 := hP.k1
  have hk3 := hP.k3
  have h64 := rc64 hr8 hc8
  have hH8 := hk.H8
  have hN : A.N = A.P.r + A.P.c := rfl
  refine Ct.of [some (.ref (b0 + 140))] (by decide) (Nat.le_of_ble_eq_true rfl) rfl rfl ?_
  refine S_aload_0 (q := 1) dX10_isUnique_0 rfl ?_
  refine S_iconst (q := 2) (nI 2) dX10_isUnique_1 (by decide) rfl ?_
  refine S_callV1i (q := 5) dX10_isUnique_2 lk_X10_259 (by first | assumption | rfl) rfl rfl (k_X10_search (lim := 2) hC hk (by decide)) rfl rfl (Nat.le_of_ble_eq_true rfl) ⟨Nat.le_of_ble_eq_true rfl, Nat.le_of_ble_eq_true rfl⟩ ⟨Nat.le_of_ble_eq_true rfl, Nat.le_of_ble_eq_true rfl⟩ rfl (fun v2 M2 hv2 => ?_)
  obtain ⟨hs1, hs2, hs3, rfl⟩ := hv2
  have hs4 := hs3.2.2.2.1
  have hs5 := hs3.2.2.2.2.1
  refine S_if_eq (t := 24) (q := 8) dX10_isUnique_5 (by decide) rfl (fun hb5 => ?_) (fun hb5 => ?_)
  · have hF : (A.sr (2)).2.2.1 = true := Decidable.not_not.mp (bI_0.mp hb5)
    refine S_bipush (q := 26) (-7) dX10_isUnique_24 (by decide) rfl ?_
    exact S_iret rfl dX10_isUnique_26 rfl rfl (RSR.to hs1 hs2 (by unfold o_uniq; rw [if_pos hF]))
  · have hF : ¬ (A.sr (2)).2.2.1 = true := bI_n.mp hb5
    refine S_aload_0 (q := 9) dX10_isUnique_8 rfl ?_
    refine S_getI (q := 12) dX10_isUnique_9 fl_X10_95 (by first | assumption | rfl) (by rfl) rfl ?_
    rw [hs3.2.1]
    refine S_iconst (q := 13) (nI 1) dX10_isUnique_12 (by decide) rfl ?_
    refine S_icmp_ne (t := 20) (q := 16) dX10_isUnique_13 (by decide) rfl (fun hb13 => ?_) (fun hb13 => ?_)
    · have h1 : ¬ (A.sr 2).2.1 = 1 := fun e => hb13 (by rw [e])
      refine S_iconst (q := 21) (nI 0) dX10_isUnique_20 (by decide) rfl ?_
      refine S_goto (t := 26) dX10_isUnique_21 (by decide) ?_
      exact S_iret rfl dX10_isUnique_26 rfl rfl (RSR.to hs1 hs2 (by unfold o_uniq; rw [if_neg hF, if_neg h1]))
    · have h1 : (A.sr 2).2.1 = 1 := nI_inj (by omega) (by decide) hb13
      refine S_iconst (q := 17) (nI 1) dX10_isUnique_16 (by decide) rfl ?_
      refine S_goto (t := 26) dX10_isUnique_17 (by decide) ?_
      exact S_iret rfl dX10_isUnique_26 rfl rfl (RSR.to hs1 hs2 (by unfold o_uniq; rw [if_neg hF, if_pos h1]))
set_option maxHeartbeats 4000000 in
set_option maxRecDepth 100000 in
theorem k_X10_solutionColor {l : Launch} {G : Gd} {b0 : Nat} {M : Mem} {A : Ab} {m0 x z : Int32}  (hC : RR M A) (hk : A.ok)  : Ct l G b0 yX10_solutionColor cX10_solutionColor 5 (some .int) (rmZ 75 1945) LAY LAY M [.ref (b0 + 140), .int m0, .int x, .int z] (fun v M' => RSR M (o_sol A m0 x z) v M') := by
  obtain ⟨⟨g0, g1, g2, gcu, gce⟩, hru, hhi, hbad, hask, htx, hfo, hsn, htb⟩ := id hC
  have hP := hk.P
  have hr1 := hP.r1
  have hr8 := hP.r8
  have hc1 := hP.c1
  have hc8 := hP.c8
  have hk1 := hP.k1
  have hk3 := hP.k3
  have h64 := rc64 hr8 hc8
  have hH8 := hk.H8
  have hN : A.N = A.P.r + A.P.c := rfl
  refine Ct.of [some (.ref (b0 + 140)), some (.int m0), some (.int x), some (.int z), none] (by decide) (Nat.le_of_ble_eq_true rfl) rfl rfl ?_
  refine S_aload_0 (q := 1) dX10_solutionColor_0 rfl ?_
  refine S_iload_1 (q := 2) dX10_solutionColor_1 rfl ?_
  refine S_iconst (q := 3) (nI 0) dX10_solutionColor_2 (by decide) rfl ?_
  refine S_bipush (q := 5) (nI 19) dX10_solutionColor_3 (by decide) rfl ?_
  refine S_callV3i (q := 8) dX10_solutionColor_5 lk_X10_172 (by first | assumption | rfl) rfl rfl (k_X10_within) rfl rfl (Nat.le_of_ble_eq_true rfl) ⟨Nat.le_of_ble_eq_true rfl, Nat.le_of_ble_eq_true rfl⟩ ⟨Nat.le_of_ble_eq_true rfl, Nat.le_of_ble_eq_true rfl⟩ rfl (fun v5 M5 hv5 => ?_)
  obtain ⟨e5, rfl⟩ := hv5
  rw [e5]
  refine S_if_ne (t := 14) (q := 11) dX10_solutionColor_8 (by decide) rfl (fun hb8 => ?_) (fun hb8 => ?_)
  · obtain ⟨m, hm2, rfl, hm⟩ := iw0 (by decide) (bI_n.mp hb8)
    refine S_aload_0 (q := 15) dX10_solutionColor_14 rfl ?_
    refine S_iload_2 (q := 16) dX10_solutionColor_15 rfl ?_
    refine S_iload_3 (q := 17) dX10_solutionColor_16 rfl ?_
    refine S_callV2i (q := 20) dX10_solutionColor_17 lk_X10_195 (by first | assumption | rfl) rfl rfl (k_X10_isCell g0 g1 hr8 hc8 hr1 hc1) rfl rfl (Nat.le_of_ble_eq_true rfl) ⟨Nat.le_of_ble_eq_true rfl, Nat.le_of_ble_eq_true rfl⟩ ⟨Nat.le_of_ble_eq_true rfl, Nat.le_of_ble_eq_true rfl⟩ rfl (fun v17 M17 hv17 => ?_)
    obtain ⟨e17, rfl⟩ := hv17
    rw [e17]
    refine S_if_ne (t := 25) (q := 23) dX10_solutionColor_20 (by decide) rfl (fun hb20 => ?_) (fun hb20 => ?_)
    · obtain ⟨i, j, hi, hj, rfl, rfl, hl⟩ := cl_ok (A := A) hP (bI_n.mp hb20)
      have hij := cel_lt hi hj
      have hg := RGr.at hC.1 hi hj
      have hij64 : 8 * i + j < 64 := by omega
      refine S_aload_0 (q := 26) dX10_solutionColor_25 rfl ?_
      refine S_iload_1 (q := 27) dX10_solutionColor_26 rfl ?_
      refine S_iconst (q := 28) (nI 1) dX10_solutionColor_27 (by decide) rfl ?_
      refine S_iadd (q := 29) dX10_solutionColor_28 rfl ?_
      rw [nI_add]
      refine S_callV1i (q := 32) dX10_solutionColor_29 lk_X10_259 (by first | assumption | rfl) rfl rfl (k_X10_search hC hk (lim := m + 1) (by omega)) rfl rfl (Nat.le_of_ble_eq_true rfl) ⟨Nat.le_of_ble_eq_true rfl, Nat.le_of_ble_eq_true rfl⟩ ⟨Nat.le_of_ble_eq_true rfl, Nat.le_of_ble_eq_true rfl⟩ rfl (fun v29 M29 hv29 => ?_)
      obtain ⟨hs1, hs2, hs3, rfl⟩ := hv29
      have hs4 := hs3.2.2.2.1
      have hs5 := hs3.2.2.2.2.1
      refine S_if_ne (t := 38) (q := 35) dX10_solutionColor_32 (by decide) rfl (fun hb32 => ?_) (fun hb32 => ?_)
      · have hF : ¬ (A.sr (m + 1)).2.2.1 = true := bI_n.mp hb32
        refine S_aload_0 (q := 39) dX10_solutionColor_38 rfl ?_
        refine S_getI (q := 42) dX10_solutionColor_39 fl_X10_95 (by first | assumption | rfl) (by rfl) rfl ?_
        rw [hs3.2.1]
        refine S_iload_1 (q := 43) dX10_solutionColor_42 rfl ?_
        skip
        refine S_icmp_gt (t := 49) (q := 46) dX10_solutionColor_43 (by decide) rfl (fun hb43 => ?_) (fun hb43 => ?_)
        · have h1 : m + 1 ≤ (A.sr (m + 1)).2.1 := (nI_ltI (by omega) (by omega)).mp hb43
          have hsol := hs3.2.2.2.2.2 (by omega) _ hij
          rw [gx_at hj] at hsol
          refine S_iconst (q := 50) (nI 0) dX10_solutionColor_49 (by decide) rfl ?_
          refine S_istore_4 (q := 52) dX10_solutionColor_50 rfl ?_
          suffices H : ∀ (d : Nat) (t_ : Nat), (clo ((A.sr (m + 1)).2.2.2 (i * A.P.c + j))) - t_ = d → t_ ≤ (clo ((A.sr (m + 1)).2.2.2 (i * A.P.c + j))) → S l G b0 yX10_solutionColor cX10_solutionColor 5 (some .int) (rmZ 75 1945) LAY (fun v M' => RSR M (o_sol A (nI m) (nI i) (nI j)) v M') 0 0 0 0 LAY 52 [some (.ref (b0 + 140)), some (.int (nI m)), some (.int (nI i)), some (.int (nI j)), some (.int (nI (t_)))] [] M29 from H _ 0 rfl (by omega)
          intro d
          induction d with
          | zero =>
            intro t_ hd hi_
            have e : clo ((A.sr (m + 1)).2.2.2 (i * A.P.c + j)) = t_ := by omega
            subst e
            refine S_aload_0 (q := 53) dX10_solutionColor_52 rfl ?_
            refine S_getR (q := 56) dX10_solutionColor_53 fl_X10_89 (by first | assumption | rfl) (by rfl) rfl ?_
            refine S_bipush (q := 58) (nI 8) dX10_solutionColor_56 (by decide) rfl ?_
            refine S_iload_2 (q := 59) dX10_solutionColor_58 rfl ?_
            refine S_imul (q := 60) dX10_solutionColor_59 rfl ?_
            refine S_iload_3 (q := 61) dX10_solutionColor_60 rfl ?_
            refine S_iadd (q := 62) dX10_solutionColor_61 rfl ?_
            refine S_ialdV (i := 8 * i + j) (val := nI ((A.sr (m + 1)).2.2.2 (i * A.P.c + j))) (q := 63) dX10_solutionColor_62 (by first | assumption | rfl) (by first | (simp only [nI_add, pk_mul, nI_1]; done) | rfl) (by omega) (by decide) hsol.1 rfl ?_
            refine S_iload_4 (q := 65) dX10_solutionColor_63 rfl ?_
            refine S_ishr (q := 66) dX10_solutionColor_65 rfl ?_
            refine S_iconst (q := 67) (nI 1) dX10_solutionColor_66 (by decide) rfl ?_
            refine S_icmp_eq (t := 76) (q := 70) dX10_solutionColor_67 (by decide) rfl (fun hb67 => ?_) (fun hb67 => ?_)
            · refine S_iload_4 (q := 78) dX10_solutionColor_76 rfl ?_
              exact S_iret rfl dX10_solutionColor_78 rfl rfl (RSR.to hs1 hs2 (by unfold o_sol; rw [show iw (nI m) 0 19 = some m from hm]; simp only [hl, if_neg hF, if_pos h1]))
            · exact absurd ((clo_s _ hsol.2.1 hsol.2.2 _ (Nat.le_refl _)).mpr rfl) hb67
          | succ d ih =>
            intro t_ hd hi_
            have hlt : t_ < clo ((A.sr (m + 1)).2.2.2 (i * A.P.c + j)) := by omega
            refine S_aload_0 (q := 53) dX10_solutionColor_52 rfl ?_
            refine S_getR (q := 56) dX10_solutionColor_53 fl_X10_89 (by first | assumption | rfl) (by rfl) rfl ?_
            refine S_bipush (q := 58) (nI 8) dX10_solutionColor_56 (by decide) rfl ?_
            refine S_iload_2 (q := 59) dX10_solutionColor_58 rfl ?_
            refine S_imul (q := 60) dX10_solutionColor_59 rfl ?_
            refine S_iload_3 (q := 61) dX10_solutionColor_60 rfl ?_
            refine S_iadd (q := 62) dX10_solutionColor_61 rfl ?_
            refine S_ialdV (i := 8 * i + j) (val := nI ((A.sr (m + 1)).2.2.2 (i * A.P.c + j))) (q := 63) dX10_solutionColor_62 (by first | assumption | rfl) (by first | (simp only [nI_add, pk_mul, nI_1]; done) | rfl) (by omega) (by decide) hsol.1 rfl ?_
            refine S_iload_4 (q := 65) dX10_solutionColor_63 rfl ?_
            refine S_ishr (q := 66) dX10_solutionColor_65 rfl ?_
            refine S_iconst (q := 67) (nI 1) dX10_solutionColor_66 (by decide) rfl ?_
            refine S_icmp_eq (t := 76) (q := 70) dX10_solutionColor_67 (by decide) rfl (fun hb67 => ?_) (fun hb67 => ?_)
            · exact absurd ((clo_s _ hsol.2.1 hsol.2.2 t_ (by omega)).mp hb67) (by omega)
            · refine S_iinc_4 (q := 73) (nI (t_ + 1)) dX10_solutionColor_70 (inc1 _) rfl ?_
              refine S_goto (t := 52) dX10_solutionColor_73 (by decide) ?_
              exact ih (t_ + 1) (by omega) hlt
        · have h1 : ¬ m + 1 ≤ (A.sr (m + 1)).2.1 := fun y => hb43 ((nI_ltI (by omega) (by omega)).mpr y)
          refine S_bipush (q := 48) (-8) dX10_solutionColor_46 (by decide) rfl ?_
          exact S_iret rfl dX10_solutionColor_48 rfl rfl (RSR.to hs1 hs2 (by unfold o_sol; rw [show iw (nI m) 0 19 = some m from hm]; simp only [hl, if_neg hF, if_neg h1]))
      · have hF : (A.sr (m + 1)).2.2.1 = true := Decidable.not_not.mp (bI_0.mp hb32)
        refine S_bipush (q := 37) (-7) dX10_solutionColor_35 (by decide) rfl ?_
        exact S_iret rfl dX10_solutionColor_37 rfl rfl (RSR.to hs1 hs2 (by unfold o_sol; rw [show iw (nI m) 0 19 = some m from hm]; simp only [hl, if_pos hF]))
    · have hl := cl_no (A := A) (bI_0.mp hb20)
      refine S_iconst (q := 24) (-1) dX10_solutionColor_23 (by decide) rfl ?_
      exact S_iret rfl dX10_solutionColor_24 rfl rfl (RSR.same hC (by unfold o_sol; rw [show iw (nI m) 0 19 = some m from hm]; simp only [hl]))
  · have hm := iw_no (bI_0.mp hb8)
    refine S_bipush (q := 13) (-2) dX10_solutionColor_11 (by decide) rfl ?_
    exact S_iret rfl dX10_solutionColor_13 rfl rfl (RSR.same hC (by unfold o_sol; rw [show iw m0 0 19 = none from hm]))
