set_option maxHeartbeats 4000000 in
set_option maxRecDepth 100000 in
theorem k_X6_find {l : Launch} {G : Gd} {b0 : Nat} {lay : Lay} {M : Mem} {z g ρ lim : Nat} {P : Pz} {f : Nat → Nat} (hz : isZ lay z) (hg : isG lay g) (hP : P.ok) (hr : M g 0 = nI P.r) (hcl : M g 1 = nI P.c) (hk : M g 2 = nI P.k) (hzg : z + 20 ≤ g ∨ g + 6 ≤ z) (hcu : CLU M (g + 1) P) (hce : CE M (g + 5) (P.r * P.c) f) (hρ : ρ ≤ 2) (hl1 : 1 ≤ lim) (hl2 : lim ≤ 20)  : Ct l G b0 yX6_find cX6_find 5 none (rmZ 6 142) lay lay M [.ref (b0 + z), .ref (b0 + g), .int (nI ρ), .int (nI lim)] (fun v M' => (∀ a, (a < z ∨ z + 20 ≤ a) → M' a = M a) ∧ M' z 7 = nI (vis P ρ lim 60 f (0, 0, false, f)).1 ∧ M' z 8 = nI (vis P ρ lim 60 f (0, 0, false, f)).2.1 ∧ M' z 9 = nI (if (vis P ρ lim 60 f (0, 0, false, f)).2.2.1 then 1 else 0) ∧ (vis P ρ lim 60 f (0, 0, false, f)).2.1 ≤ (vis P ρ lim 60 f (0, 0, false, f)).1 ∧ (vis P ρ lim 60 f (0, 0, false, f)).1 ≤ 60 ∧ (lim ≤ (vis P ρ lim 60 f (0, 0, false, f)).2.1 → CE M' (z + 6) (P.r * P.c) (vis P ρ lim 60 f (0, 0, false, f)).2.2.2)) := by
  have hr8 := hP.r8
  have hc8 := hP.c8
  have hr1 := hP.r1
  have hc1 := hP.c1
  have hk1 := hP.k1
  have hk3 := hP.k3
  have h64 := rc64 hr8 hc8
  obtain ⟨hz0, hZg, hZp, hz17, hz18, hz19⟩ := id hz
  obtain ⟨hg0, ⟨hq0, hq1, hq2, hq3⟩, hg5⟩ := id hZg
  have hgg0 := hg.1
  have hZp0 := hZp.1
  have fin : ∀ (v : Int32) (M1 : Mem) (Q : Qs), (∀ a, (a < z ∨ z + 20 ≤ a) → M1 a = M a) → ZR P ρ M1 z Q → (lim ≤ Q.2.2.1 → CE M1 (z + 6) (P.r * P.c) Q.2.2.2.2) → mchN P ρ lim 121 (vst P ρ f ([], (0, 0, false, f))) = Q → (fun v M' => (∀ a, (a < z ∨ z + 20 ≤ a) → M' a = M a) ∧ M' z 7 = nI (vis P ρ lim 60 f (0, 0, false, f)).1 ∧ M' z 8 = nI (vis P ρ lim 60 f (0, 0, false, f)).2.1 ∧ M' z 9 = nI (if (vis P ρ lim 60 f (0, 0, false, f)).2.2.1 then 1 else 0) ∧ (vis P ρ lim 60 f (0, 0, false, f)).2.1 ≤ (vis P ρ lim 60 f (0, 0, false, f)).1 ∧ (vis P ρ lim 60 f (0, 0, false, f)).1 ≤ 60 ∧ (lim ≤ (vis P ρ lim 60 f (0, 0, false, f)).2.1 → CE M' (z + 6) (P.r * P.c) (vis P ρ lim 60 f (0, 0, false, f)).2.2.2)) v M1 := by
    intro v M1 Q k1 k2 k3 k4
    have k5 := congrArg Prod.snd k4
    rw [mch_vis rfl] at k5
    obtain ⟨z5, z6, z7, z8, z9, zs, zl, zn, zf⟩ := k2
    show (∀ a, (a < z ∨ z + 20 ≤ a) → M1 a = M a) ∧ M1 z 7 = nI (vis P ρ lim 60 f (0, 0, false, f)).1 ∧ M1 z 8 = nI (vis P ρ lim 60 f (0, 0, false, f)).2.1 ∧ M1 z 9 = nI (if (vis P ρ lim 60 f (0, 0, false, f)).2.2.1 then 1 else 0) ∧ (vis P ρ lim 60 f (0, 0, false, f)).2.1 ≤ (vis P ρ lim 60 f (0, 0, false, f)).1 ∧ (vis P ρ lim 60 f (0, 0, false, f)).1 ≤ 60 ∧ (lim ≤ (vis P ρ lim 60 f (0, 0, false, f)).2.1 → CE M1 (z + 6) (P.r * P.c) (vis P ρ lim 60 f (0, 0, false, f)).2.2.2)
    rw [k5]
    exact ⟨k1, z7, z8, z9, zf, zn, k3⟩
  refine Ct.of [some (.ref (b0 + z)), some (.ref (b0 + g)), some (.int (nI ρ)), some (.int (nI lim)), none] (by decide) (Nat.le_of_ble_eq_true rfl) rfl rfl ?_
  refine S_aload_0 (q := 1) dX6_find_0 rfl ?_
  refine S_getR (q := 4) dX6_find_1 fl_X6_12 (by first | assumption | rfl) (by rfl) rfl ?_
  refine S_aload_1 (q := 5) dX6_find_4 rfl ?_
  refine S_callV1v (q := 8) dX6_find_5 lk_X6_52 (by first | assumption | rfl) rfl rfl (k_X1_copyFrom hZg hg (by omega)) rfl rfl (Nat.le_of_ble_eq_true rfl) ⟨Nat.le_of_ble_eq_true rfl, Nat.le_of_ble_eq_true rfl⟩ ⟨Nat.le_of_ble_eq_true rfl, Nat.le_of_ble_eq_true rfl⟩ rfl (fun v5 M5 hv5 => ?_)
  obtain ⟨c1, c2, c3, c4, c5, c6⟩ := hv5
  refine S_aload_0 (q := 9) dX6_find_8 rfl ?_
  refine S_iload_2 (q := 10) dX6_find_9 rfl ?_
  refine S_putI (q := 13) dX6_find_10 fp_X6_39 (by first | assumption | rfl) (by rfl) rfl (by rfl) rfl ?_
  refine S_aload_0 (q := 14) dX6_find_13 rfl ?_
  refine S_iconst (q := 15) (nI 0) dX6_find_14 (by decide) rfl ?_
  refine S_putI (q := 18) dX6_find_15 fp_X6_35 (by first | assumption | rfl) (by rfl) rfl (by rfl) rfl ?_
  refine S_aload_0 (q := 19) dX6_find_18 rfl ?_
  refine S_iconst (q := 20) (nI 0) dX6_find_19 (by decide) rfl ?_
  refine S_putI (q := 23) dX6_find_20 fp_X6_42 (by first | assumption | rfl) (by rfl) rfl (by rfl) rfl ?_
  refine S_aload_0 (q := 24) dX6_find_23 rfl ?_
  refine S_iconst (q := 25) (nI 0) dX6_find_24 (by decide) rfl ?_
  refine S_putI (q := 28) dX6_find_25 fp_X6_45 (by first | assumption | rfl) (by rfl) rfl (by rfl) rfl ?_
  refine S_aload_0 (q := 29) dX6_find_28 rfl ?_
  refine S_iconst (q := 30) (nI 0) dX6_find_29 (by decide) rfl ?_
  refine S_putI (q := 33) dX6_find_30 fp_X6_48 (by first | assumption | rfl) (by rfl) rfl (by rfl) rfl ?_
  refine S_aload_0 (q := 34) dX6_find_33 rfl ?_
  refine S_aload_0 (q := 35) dX6_find_34 rfl ?_
  refine S_getR (q := 38) dX6_find_35 fl_X6_12 (by first | assumption | rfl) (by rfl) rfl ?_
  refine S_callV0i (q := 41) dX6_find_38 lk_X6_56 (by first | assumption | rfl) rfl rfl (k_X1_allLines hZg (r := P.r) (c := P.c) (by rw [up_n (by omega), up_n (by omega), up_n (by omega), up_n (by omega), up_n (by omega)]; rw [c2 0 (by omega)]; exact hr) (by rw [up_n (by omega), up_n (by omega), up_n (by omega), up_n (by omega), up_n (by omega)]; rw [c2 1 (by omega)]; exact hcl) hr8 hc8) rfl rfl (Nat.le_of_ble_eq_true rfl) ⟨Nat.le_of_ble_eq_true rfl, Nat.le_of_ble_eq_true rfl⟩ ⟨Nat.le_of_ble_eq_true rfl, Nat.le_of_ble_eq_true rfl⟩ rfl (fun v38 M38 hv38 => ?_)
  obtain ⟨rfl, rfl⟩ := hv38
  refine S_callV1v (q := 44) dX6_find_41 lk_X6_60 (by first | assumption | rfl) rfl rfl (k_X6_visit (ρ := ρ) (f := f) (Q := ([], (0, 0, false, f))) hz hP (by rw [up_n (by omega), up_n (by omega), up_n (by omega), up_n (by omega), up_n (by omega)]; rw [c2 0 (by omega)]; exact hr) (by rw [up_n (by omega), up_n (by omega), up_n (by omega), up_n (by omega), up_n (by omega)]; rw [c2 1 (by omega)]; exact hcl) (hcu.cp (fun j hj => by rw [up_n (by omega), up_n (by omega), up_n (by omega), up_n (by omega), up_n (by omega)]; exact c3 j hj) (fun j hj => by rw [up_n (by omega), up_n (by omega), up_n (by omega), up_n (by omega), up_n (by omega)]; exact c4 j hj) (fun j hj => by rw [up_n (by omega), up_n (by omega), up_n (by omega), up_n (by omega), up_n (by omega)]; exact c5 j hj)) (fun x hx => by rw [up_n (by omega), up_n (by omega), up_n (by omega), up_n (by omega), up_n (by omega)]; rw [c6 x (by omega)]; exact hce x hx) (STB.all hP) hρ ⟨by rw [up_eq, if_neg (by omega), up_eq, if_neg (by omega), up_eq, if_neg (by omega), up_s]; rfl, by rw [up_eq, if_neg (by omega), up_eq, if_neg (by omega), up_eq, if_neg (by omega), up_eq, if_neg (by omega), up_s], by rw [up_eq, if_neg (by omega), up_eq, if_neg (by omega), up_s], by rw [up_eq, if_neg (by omega), up_s], by rw [up_s]; rfl, trivial, Nat.le_refl _, Nat.zero_le _, Nat.le_refl _⟩) rfl rfl (Nat.le_of_ble_eq_true rfl) ⟨Nat.le_of_ble_eq_true rfl, Nat.le_of_ble_eq_true rfl⟩ ⟨Nat.le_of_ble_eq_true rfl, Nat.le_of_ble_eq_true rfl⟩ rfl (fun v41 M41 hv41 => ?_)
  obtain ⟨w1, w2, w3⟩ := hv41
  refine S_iconst (q := 45) (nI 0) dX6_find_44 (by decide) rfl ?_
  refine S_istore_4 (q := 47) dX6_find_45 rfl ?_
  suffices H : ∀ (d i : Nat) (Q : Qs) (M1 : Mem), 121 - i = d → i ≤ 121 → ((∀ a, (a < z ∨ z + 20 ≤ a) → M1 a = M a) ∧ ZR P ρ M1 z Q ∧ M1 (z + 1) 0 = nI P.r ∧ M1 (z + 1) 1 = nI P.c ∧ M1 (z + 1) 2 = nI P.k ∧ CLU M1 (z + 2) P ∧ (lim ≤ Q.2.2.1 → CE M1 (z + 6) (P.r * P.c) Q.2.2.2.2) ∧ mchN P ρ lim 121 (vst P ρ f ([], (0, 0, false, f))) = mchN P ρ lim (121 - (i)) Q) → S l G b0 yX6_find cX6_find 5 none (rmZ 6 142) lay (fun v M' => (∀ a, (a < z ∨ z + 20 ≤ a) → M' a = M a) ∧ M' z 7 = nI (vis P ρ lim 60 f (0, 0, false, f)).1 ∧ M' z 8 = nI (vis P ρ lim 60 f (0, 0, false, f)).2.1 ∧ M' z 9 = nI (if (vis P ρ lim 60 f (0, 0, false, f)).2.2.1 then 1 else 0) ∧ (vis P ρ lim 60 f (0, 0, false, f)).2.1 ≤ (vis P ρ lim 60 f (0, 0, false, f)).1 ∧ (vis P ρ lim 60 f (0, 0, false, f)).1 ≤ 60 ∧ (lim ≤ (vis P ρ lim 60 f (0, 0, false, f)).2.1 → CE M' (z + 6) (P.r * P.c) (vis P ρ lim 60 f (0, 0, false, f)).2.2.2)) 0 0 0 0 lay 47 [some (.ref (b0 + z)), some (.ref (b0 + g)), some (.int (nI ρ)), some (.int (nI lim)), some (.int (nI (i)))] [] M1 from H _ 0 (vst P ρ f ([], (0, 0, false, f))) _ rfl (by omega) (by
    refine ⟨fun a ha => ?_, w2, ?_, ?_, ?_, ?_, fun h => w3 _ rfl (fun e => ?_), rfl⟩
    · rw [w1 a (by omega) (by omega)]; rw [up_n (by omega), up_n (by omega), up_n (by omega), up_n (by omega), up_n (by omega)]; exact c1 a (by omega)
    · rw [w1 _ (by omega) (by omega)]; rw [up_n (by omega), up_n (by omega), up_n (by omega), up_n (by omega), up_n (by omega)]; rw [c2 0 (by omega)]; exact hr
    · rw [w1 _ (by omega) (by omega)]; rw [up_n (by omega), up_n (by omega), up_n (by omega), up_n (by omega), up_n (by omega)]; rw [c2 1 (by omega)]; exact hcl
    · rw [w1 _ (by omega) (by omega)]; rw [up_n (by omega), up_n (by omega), up_n (by omega), up_n (by omega), up_n (by omega)]; rw [c2 2 (by omega)]; exact hk
    · exact hcu.cp (fun j hj => by rw [w1 _ (by omega) (by omega)]; rw [up_n (by omega), up_n (by omega), up_n (by omega), up_n (by omega), up_n (by omega)]; exact c3 j hj) (fun j hj => by rw [w1 _ (by omega) (by omega)]; rw [up_n (by omega), up_n (by omega), up_n (by omega), up_n (by omega), up_n (by omega)]; exact c4 j hj) (fun j hj => by rw [w1 _ (by omega) (by omega)]; rw [up_n (by omega), up_n (by omega), up_n (by omega), up_n (by omega), up_n (by omega)]; exact c5 j hj)
    · rw [e] at h; exact absurd h (by show ¬ lim ≤ 0; omega))
  intro d
  induction d with
  | zero =>
    intro i Q M1 hd hi hI
    have e : 121 = i := by omega
    subst e
    refine S_iload_4 (q := 49) dX6_find_47 rfl ?_
    refine S_bipush (q := 51) (nI 121) dX6_find_49 (by decide) rfl ?_
    refine S_icmp_ge (t := 124) (q := 54) dX6_find_51 (by decide) rfl (fun hb51 => ?_) (fun hb51 => ?_)
    · exact S_ret (v := 0) rfl dX6_find_124 rfl (fin 0 _ Q hI.1 hI.2.1 hI.2.2.2.2.2.2.1 hI.2.2.2.2.2.2.2)
    · exact absurd (by decide) hb51
  | succ d ih =>
    intro i Q M1 hd hi hI
    have hlt : i < 121 := by omega
    refine S_iload_4 (q := 49) dX6_find_47 rfl ?_
    refine S_bipush (q := 51) (nI 121) dX6_find_49 (by decide) rfl ?_
    obtain ⟨t, R⟩ := Q
    obtain ⟨i1, ⟨z5, z6, z7, z8, z9, zs, zl, zn, zf⟩, i3, i4, i5, i6, i7, i8⟩ := id hI
    simp only at z5 z6 z7 z8 z9 zs zl zn zf i7 i8
    refine S_icmp_ge (t := 124) (q := 54) dX6_find_51 (by decide) rfl (fun hb51 => ?_) (fun hb51 => ?_)
    · exact absurd ((nI_leI (by omega) (by omega)).mp hb51) (by omega)
    · refine S_aload_0 (q := 55) dX6_find_54 rfl ?_
      refine S_getI (q := 58) dX6_find_55 fl_X6_35 (by first | assumption | rfl) (by rfl) rfl ?_
      rw [z5]
      refine S_if_le (t := 124) (q := 61) dX6_find_58 (by decide) rfl (fun hb58 => ?_) (fun hb58 => ?_)
      · have hnil : t = [] := by
          have h0 : nI t.length ≤ nI 0 := hb58
          have := (nI_leI (by omega) (by omega)).mp h0
          exact List.length_eq_zero_iff.mp (by omega)
        subst hnil
        exact S_ret (v := 0) rfl dX6_find_124 rfl (fin 0 _ ([], R) i1 ⟨z5, z6, z7, z8, z9, zs, zl, zn, zf⟩ i7 (i8.trans (mchN_fix mch_nil _)))
      · refine S_aload_0 (q := 62) dX6_find_61 rfl ?_
        refine S_getI (q := 65) dX6_find_62 fl_X6_45 (by first | assumption | rfl) (by rfl) rfl ?_
        refine S_iload_3 (q := 66) dX6_find_65 rfl ?_
        rw [z8]
        refine S_icmp_ge (t := 124) (q := 69) dX6_find_66 (by decide) rfl (fun hb66 => ?_) (fun hb66 => ?_)
        · have hst : stR lim R := Or.inr ((nI_leI (by omega) (by omega)).mp hb66)
          exact S_ret (v := 0) rfl dX6_find_124 rfl (fin 0 _ (t, R) i1 ⟨z5, z6, z7, z8, z9, zs, zl, zn, zf⟩ i7 (i8.trans (mchN_fix (mch_stop hst) _)))
        · have hs2 : ¬ lim ≤ R.2.1 := fun h => hb66 ((nI_leI (by omega) (by omega)).mpr h)
          refine S_aload_0 (q := 70) dX6_find_69 rfl ?_
          refine S_getI (q := 73) dX6_find_70 fl_X6_48 (by first | assumption | rfl) (by rfl) rfl ?_
          rw [z9]
          refine S_if_ne (t := 124) (q := 76) dX6_find_73 (by decide) rfl (fun hb73 => ?_) (fun hb73 => ?_)
          · have hst : stR lim R := by
              left
              cases hf : R.2.2.1 with
              | true => rfl
              | false => rw [hf] at hb73; exact absurd rfl hb73
            exact S_ret (v := 0) rfl dX6_find_124 rfl (fin 0 _ (t, R) i1 ⟨z5, z6, z7, z8, z9, zs, zl, zn, zf⟩ i7 (i8.trans (mchN_fix (mch_stop hst) _)))
          · have hst : ¬ stR lim R := by
              rintro (h | h)
              · rw [h] at hb73; exact absurd hb73 (by decide)
              · exact hs2 h
            have hcons : ∃ g x k s, t = (g, x, k) :: s := by
              cases t with
              | nil => exact absurd (Int32.le_refl _) hb58
              | cons a s => exact ⟨a.1, a.2.1, a.2.2, s, rfl⟩
            obtain ⟨gg, x, k, s, rfl⟩ := hcons
            have hgo := mch_go (P := P) (ρ := ρ) (lim := lim) (g := gg) (x := x) (k := k) (t := s) hst
            have hsk := zs
            refine S_aload_0 (q := 77) dX6_find_76 rfl ?_
            refine S_callV0i (q := 80) dX6_find_77 lk_X6_64 (by first | assumption | rfl) rfl rfl (k_X6_makeNextChild hz hP i3 i4 i5 ⟨z5, z6, z7, z8, z9, zs, zl, zn, zf⟩) rfl rfl (Nat.le_of_ble_eq_true rfl) ⟨Nat.le_of_ble_eq_true rfl, Nat.le_of_ble_eq_true rfl⟩ ⟨Nat.le_of_ble_eq_true rfl, Nat.le_of_ble_eq_true rfl⟩ rfl (fun v77 M77 hv77 => ?_)
            obtain ⟨m1, m2, m3⟩ := hv77
            refine S_if_eq (t := 108) (q := 83) dX6_find_80 (by decide) rfl (fun hb80 => ?_) (fun hb80 => ?_)
            · have hj : ¬ nxC (gg x) P.k k ≤ P.k := fun h => by
                rw [(m2 h).1] at hb80; exact absurd hb80 (by decide)
              obtain ⟨m4, m5⟩ := m3 hj
              rw [if_neg hj] at hgo
              refine S_aload_0 (q := 109) dX6_find_108 rfl ?_
              refine S_dup (q := 110) dX6_find_109 rfl rfl ?_
              refine S_getI (q := 113) dX6_find_110 fl_X6_35 (by first | assumption | rfl) (by rfl) rfl ?_
              refine S_iconst (q := 114) (nI 1) dX6_find_113 (by decide) rfl ?_
              refine S_isub (q := 115) dX6_find_114 rfl ?_
              rw [m5.1, List.length_cons, pk_sub (show 1 ≤ s.length + 1 by omega), show s.length + 1 - 1 = s.length from rfl]
              refine S_putI (q := 118) dX6_find_115 fp_X6_35 (by first | assumption | rfl) (by rfl) rfl (by rfl) rfl ?_
              refine S_iinc_4 (q := 121) (nI (i + 1)) dX6_find_118 (inc1 _) rfl ?_
              refine S_goto (t := 47) dX6_find_121 (by decide) ?_
              refine ih (i + 1) (s, R) _ (by omega) hlt ⟨fun a ha => ?_, ⟨?_, ?_, ?_, ?_, ?_, SK.fr hP s m5.2.2.2.2.2.1.2.2.2.2.2.2.2.2 (fun y hy => ?_) (fun y hy => ?_) (fun y hy => ?_), Nat.le_trans (Nat.le_succ _) zl, zn, zf⟩, ?_, ?_, ?_, ?_, fun h => absurd h hs2, ?_⟩
              · rw [up_n (by omega), m1 a (by omega) (by omega)]; exact i1 a ha
              · rw [up_s]
              · rw [up_eq, if_neg (by omega)]; exact m5.2.1
              · rw [up_eq, if_neg (by omega)]; exact m5.2.2.1
              · rw [up_eq, if_neg (by omega)]; exact m5.2.2.2.1
              · rw [up_eq, if_neg (by omega)]; exact m5.2.2.2.2.1
              · rw [up_n (by omega)]
              · rw [up_n (by omega)]
              · rw [up_n (by omega)]
              · rw [up_n (by omega), m1 _ (by omega) (by omega)]; exact i3
              · rw [up_n (by omega), m1 _ (by omega) (by omega)]; exact i4
              · rw [up_n (by omega), m1 _ (by omega) (by omega)]; exact i5
              · exact i6.fr (by rw [up_n (by omega), m1 _ (by omega) (by omega)]) (by rw [up_n (by omega), m1 _ (by omega) (by omega)]) (by rw [up_n (by omega), m1 _ (by omega) (by omega)])
              · rw [i8, show 121 - i = (121 - (i + 1)) + 1 by omega, mchN, hgo]
            · have hj : nxC (gg x) P.k k ≤ P.k := Decidable.not_not.mp (fun h => hb80 (by rw [(m3 h).1]; rfl))
              obtain ⟨m4, m5, m6⟩ := m2 hj
              rw [if_pos hj] at hgo
              refine S_aload_0 (q := 84) dX6_find_83 rfl ?_
              refine S_aload_0 (q := 85) dX6_find_84 rfl ?_
              refine S_getR (q := 88) dX6_find_85 fl_X6_12 (by first | assumption | rfl) (by rfl) rfl ?_
              refine S_aload_0 (q := 89) dX6_find_88 rfl ?_
              refine S_getR (q := 92) dX6_find_89 fl_X6_29 (by first | assumption | rfl) (by rfl) rfl ?_
              refine S_aload_0 (q := 93) dX6_find_92 rfl ?_
              refine S_getI (q := 96) dX6_find_93 fl_X6_35 (by first | assumption | rfl) (by rfl) rfl ?_
              refine S_iconst (q := 97) (nI 1) dX6_find_96 (by decide) rfl ?_
              refine S_isub (q := 98) dX6_find_97 rfl ?_
              rw [m5.1, List.length_cons, pk_sub (show 1 ≤ s.length + 1 by omega), show s.length + 1 - 1 = s.length from rfl]
              refine S_ialdV (i := s.length) (val := nI x) (q := 99) dX6_find_98 (by first | assumption | rfl) (by first | (simp only [nI_add, pk_mul, nI_1]; done) | rfl) (by have := m5.2.2.2.2.2.2.1; have := m5.2.2.2.2.2.2.2.1; simp only [List.length_cons] at *; omega) (by decide) m5.2.2.2.2.2.1.2.1 rfl ?_
              refine S_callV1i (q := 102) dX6_find_99 lk_X6_68 (by first | assumption | rfl) rfl rfl (k_X1_linesThrough hZg (r := P.r) (c := P.c) (by rw [m1 _ (by omega) (by omega)]; exact i3) (by rw [m1 _ (by omega) (by omega)]; exact i4) hr8 hc8 hc1 hsk.2.2.2.2.2.1) rfl rfl (Nat.le_of_ble_eq_true rfl) ⟨Nat.le_of_ble_eq_true rfl, Nat.le_of_ble_eq_true rfl⟩ ⟨Nat.le_of_ble_eq_true rfl, Nat.le_of_ble_eq_true rfl⟩ rfl (fun v99 M99 hv99 => ?_)
              obtain ⟨rfl, rfl⟩ := hv99
              refine S_callV1v (q := 105) dX6_find_102 lk_X6_60 (by first | assumption | rfl) rfl rfl (k_X6_visit (ρ := ρ) hz hP (by rw [m1 _ (by omega) (by omega)]; exact i3) (by rw [m1 _ (by omega) (by omega)]; exact i4) (i6.fr (m1 _ (by omega) (by omega)) (m1 _ (by omega) (by omega)) (m1 _ (by omega) (by omega))) m6 (STB.upf hP hsk.2.2.2.2.2.1 hsk.2.2.2.2.1) hρ m5) rfl rfl (Nat.le_of_ble_eq_true rfl) ⟨Nat.le_of_ble_eq_true rfl, Nat.le_of_ble_eq_true rfl⟩ ⟨Nat.le_of_ble_eq_true rfl, Nat.le_of_ble_eq_true rfl⟩ rfl (fun v102 M102 hv102 => ?_)
              obtain ⟨v1, v2, v3⟩ := hv102
              refine S_goto (t := 118) dX6_find_105 (by decide) ?_
              refine S_iinc_4 (q := 121) (nI (i + 1)) dX6_find_118 (inc1 _) rfl ?_
              refine S_goto (t := 47) dX6_find_121 (by decide) ?_
              refine ih (i + 1) _ _ (by omega) hlt ⟨fun a ha => ?_, v2, ?_, ?_, ?_, ?_, fun h => v3 _ rfl (fun e => ?_), ?_⟩
              · rw [v1 a (by omega) (by omega), m1 a (by omega) (by omega)]; exact i1 a ha
              · rw [v1 _ (by omega) (by omega), m1 _ (by omega) (by omega)]; exact i3
              · rw [v1 _ (by omega) (by omega), m1 _ (by omega) (by omega)]; exact i4
              · rw [v1 _ (by omega) (by omega), m1 _ (by omega) (by omega)]; exact i5
              · exact i6.fr (by rw [v1 _ (by omega) (by omega), m1 _ (by omega) (by omega)]) (by rw [v1 _ (by omega) (by omega), m1 _ (by omega) (by omega)]) (by rw [v1 _ (by omega) (by omega), m1 _ (by omega) (by omega)])
              · rw [e] at h; exact hs2 h
              · rw [i8, show 121 - i = (121 - (i + 1)) + 1 by omega, mchN, hgo]
