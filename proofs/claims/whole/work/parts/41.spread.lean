/-- a grid of the reference, with the clues, and what assign is asked for -/
def LWR (M : Mem) (P : Pz) (f : Nat → Nat) (bb : Nat) (ask : Int32) (ap : Nat) : Prop := M 140 0 = nI P.r ∧ M 140 1 = nI P.c ∧ CLU M 141 P ∧ RCE M bb P f ∧ M 140 20 = ask ∧ M 140 21 = nI ap
theorem LWR.fr {M M1 : Mem} {P : Pz} {f g : Nat → Nat} {bb ap : Nat} {ask : Int32} (h : LWR M P f bb ask ap) (h1 : ∀ a, a ≠ 140 → a ≠ 141 → a ≠ 149 → a ≠ 150 → M1 a = M a) (h2 : ∀ k, k ≠ 17 → k ≠ 18 → k ≠ 19 → k ≠ 22 → k ≠ 23 → k ≠ 24 → M1 140 k = M 140 k) (h3 : RCE M1 bb P g) : LWR M1 P g bb ask ap := by
  obtain ⟨a1, a2, a3, a4, a5, a6⟩ := h
  exact ⟨by rw [h2 0 (by decide) (by decide) (by decide) (by decide) (by decide) (by decide)]; exact a1, by rw [h2 1 (by decide) (by decide) (by decide) (by decide) (by decide) (by decide)]; exact a2, a3.fr (h1 _ (by decide) (by decide) (by decide) (by decide)) (h1 _ (by decide) (by decide) (by decide) (by decide)) (h1 _ (by decide) (by decide) (by decide) (by decide)), h3, by rw [h2 20 (by decide) (by decide) (by decide) (by decide) (by decide) (by decide)]; exact a5, by rw [h2 21 (by decide) (by decide) (by decide) (by decide) (by decide) (by decide)]; exact a6⟩
theorem tb16 {a b : Nat} (ha : a < 16) (hb : b < 16) (h : ∀ k, k < 4 → (a.testBit k = true ↔ b.testBit k = true)) : a = b := by
  refine Nat.eq_of_testBit_eq (fun k => ?_)
  by_cases hk : k < 4
  · have := h k hk
    cases h1 : a.testBit k <;> cases h2 : b.testBit k <;> simp_all
  · have e : ∀ m, m < 16 → m.testBit k = false := fun m hm => Nat.testBit_lt_two_pow (Nat.lt_of_lt_of_le hm (show 2 ^ 4 ≤ 2 ^ k from Nat.pow_le_pow_right (by decide) (by omega)))
    rw [e a ha, e b hb]
theorem andn : ∀ a, a < 16 → ∀ b, b < 16 → (∀ k, k < 4 → b.testBit k = true → a.testBit k = true) → nI a &&& (nI b ^^^ (-1)) = nI (a - b) ∧ a - b < 16 ∧ pc4 (a - b) + pc4 b = pc4 a ∧ nI a &&& nI b = nI b := by decide +kernel
set_option maxHeartbeats 4000000 in
set_option maxRecDepth 100000 in
theorem k_X10_assignAll {l : Launch} {G : Gd} {b0 : Nat} {M : Mem} {P : Pz} {f : Nat → Nat} {bb i ap : Nat} {ask : Int32} (hP : P.ok) (hbb : bb + 64 ≤ 4160) (hli : i < P.r + P.c) (hap : ap < 8) (hapn : ap < lnLen P.r P.c i ∨ ask = -1) (hW : LWR M P f bb ask ap)  : Ct l G b0 yX10_assignAll cX10_assignAll 4 none (rmZ 10 387) LAY LAY M [.ref (b0 + 140), .int (nI bb), .int (nI i)] (fun v M' => (∀ a, a ≠ 140 → a ≠ 149 → a ≠ 150 → M' a = M a) ∧ (∀ k, k ≠ 17 → k ≠ 18 → k ≠ 19 → k ≠ 22 → M' 140 k = M 140 k) ∧ M' 140 19 = nI (wyL P f i) ∧ (∀ q, q < lnLen P.r P.c i → M' 150 q = nI (kpL P f i q)) ∧ ∀ m, m < wyL P f i → ask = nI m → M' 140 22 = nI (((asL P f i).getD m []).getD ap 0)) := by
  have hr1 := hP.r1
  have hr8 := hP.r8
  have hc1 := hP.c1
  have hc8 := hP.c8
  have hi16 : i < 16 := by omega
  have hl8 := lnLen_le (i := i) hr8 hc8
  obtain ⟨a1, a2, a3, a4, a5, a6⟩ := id hW
  refine Ct.of [some (.ref (b0 + 140)), some (.int (nI bb)), some (.int (nI i)), none] (by decide) (Nat.le_of_ble_eq_true rfl) rfl rfl ?_
  refine S_aload_0 (q := 1) dX10_assignAll_0 rfl ?_
  refine S_iload_1 (q := 2) dX10_assignAll_1 rfl ?_
  refine S_putI (q := 5) dX10_assignAll_2 fp_X10_62 (by first | assumption | rfl) (by rfl) rfl (by rfl) rfl ?_
  refine S_aload_0 (q := 6) dX10_assignAll_5 rfl ?_
  refine S_iload_2 (q := 7) dX10_assignAll_6 rfl ?_
  refine S_putI (q := 10) dX10_assignAll_7 fp_X10_65 (by first | assumption | rfl) (by rfl) rfl (by rfl) rfl ?_
  refine S_aload_0 (q := 11) dX10_assignAll_10 rfl ?_
  refine S_iconst (q := 12) (nI 0) dX10_assignAll_11 (by decide) rfl ?_
  refine S_putI (q := 15) dX10_assignAll_12 fp_X10_68 (by first | assumption | rfl) (by rfl) rfl (by rfl) rfl ?_
  refine S_iconst (q := 16) (nI 0) dX10_assignAll_15 (by decide) rfl ?_
  refine S_istore_3 (q := 17) dX10_assignAll_16 rfl ?_
  suffices H : ∀ (d : Nat) (i_ : Nat) (M1 : Mem), 8 - i_ = d → i_ ≤ 8 → ((∀ a, a ≠ 150 → M1 a = (up (up (up M 140 17 (nI bb)) 140 18 (nI i)) 140 19 (nI 0)) a) ∧ ∀ x, x < i_ → M1 150 x = nI 0) → S l G b0 yX10_assignAll cX10_assignAll 4 none (rmZ 10 387) LAY (fun v M' => (∀ a, a ≠ 140 → a ≠ 149 → a ≠ 150 → M' a = M a) ∧ (∀ k, k ≠ 17 → k ≠ 18 → k ≠ 19 → k ≠ 22 → M' 140 k = M 140 k) ∧ M' 140 19 = nI (wyL P f i) ∧ (∀ q, q < lnLen P.r P.c i → M' 150 q = nI (kpL P f i q)) ∧ ∀ m, m < wyL P f i → ask = nI m → M' 140 22 = nI (((asL P f i).getD m []).getD ap 0)) 0 0 0 0 LAY 17 [some (.ref (b0 + 140)), some (.int (nI bb)), some (.int (nI i)), some (.int (nI (i_)))] [] M1 from H _ 0 _ rfl (by omega) ⟨fun _ _ => rfl, fun x hx => absurd hx (Nat.not_lt_zero x)⟩
  intro d
  induction d with
  | zero =>
    intro i_ M1 hd hi hI
    have e : 8 = i_ := by omega
    subst e
    refine S_iload_3 (q := 18) dX10_assignAll_17 rfl ?_
    refine S_bipush (q := 20) (nI 8) dX10_assignAll_18 (by decide) rfl ?_
    refine S_icmp_ge (t := 36) (q := 23) dX10_assignAll_20 (by decide) rfl (fun hb20 => ?_) (fun hb20 => ?_)
    · refine S_aload_0 (q := 37) dX10_assignAll_36 rfl ?_
      refine S_iconst (q := 38) (nI 0) dX10_assignAll_37 (by decide) rfl ?_
      refine S_iconst (q := 39) (nI 0) dX10_assignAll_38 (by decide) rfl ?_
      refine S_iconst (q := 40) (nI 0) dX10_assignAll_39 (by decide) rfl ?_
      have hAW : AW M1 P f bb i ask ap := ⟨by rw [hI.1 140 (by decide), up_eq, if_neg (by decide), up_eq, if_neg (by decide), up_eq, if_neg (by decide)]; exact a1, by rw [hI.1 140 (by decide), up_eq, if_neg (by decide), up_eq, if_neg (by decide), up_eq, if_neg (by decide)]; exact a2, by rw [hI.1 140 (by decide), up_eq, if_neg (by decide), up_eq, if_neg (by decide), up_s], by rw [hI.1 140 (by decide), up_eq, if_neg (by decide), up_s], a3.fr (by rw [hI.1 _ (by decide), up_n (by decide), up_n (by decide), up_n (by decide)]) (by rw [hI.1 _ (by decide), up_n (by decide), up_n (by decide), up_n (by decide)]) (by rw [hI.1 _ (by decide), up_n (by decide), up_n (by decide), up_n (by decide)]), fun x hx => by rw [hI.1 141 (by decide), up_n (by decide), up_n (by decide), up_n (by decide)]; exact a4 x hx, by rw [hI.1 140 (by decide), up_eq, if_neg (by decide), up_eq, if_neg (by decide), up_eq, if_neg (by decide)]; exact a5, by rw [hI.1 140 (by decide), up_eq, if_neg (by decide), up_eq, if_neg (by decide), up_eq, if_neg (by decide)]; exact a6⟩
      refine S_callV3v (q := 43) dX10_assignAll_40 lk_X10_221 (by first | assumption | rfl) rfl rfl (k_X10_assign hP hli hbb hap hapn (lnLen P.r P.c i) 0 0 0 M1 (fun _ => 0) (fun _ => 0, 0, M 140 22) (Nat.sub_zero _) (Nat.zero_le _) (Nat.zero_le _) (fun y => hP.h1 i 0 y) (Nat.zero_le _) hAW (fun q hq => absurd hq (Nat.not_lt_zero q)) ⟨fun x hx => ⟨hI.2 x hx, show (0 : Nat) < 16 by decide⟩, by rw [hI.1 140 (by decide), up_s], by rw [hI.1 140 (by decide), up_eq, if_neg (by decide), up_eq, if_neg (by decide), up_eq, if_neg (by decide)]⟩ (by have := Nat.pow_le_pow_right (show 1 ≤ 2 by decide) hl8; show 0 + _ ≤ _; omega)) rfl rfl (Nat.le_of_ble_eq_true rfl) ⟨by simp only [rmZ]; omega, by simp only [rmZ]; omega⟩ ⟨Nat.le_of_ble_eq_true rfl, Nat.le_of_ble_eq_true rfl⟩ rfl (fun v40 M40 hv40 => ?_)
      exact S_ret (v := 0) rfl dX10_assignAll_43 rfl (by
              obtain ⟨c1, c2, c3, c4⟩ := hv40
              have hall : enu (lnLen P.r P.c i) (P.R i) (P.len i) (P.col i) (lmk P f i) (lnLen P.r P.c i) 0 0 0 = asL P f i := enu_all (fun j hj => ⟨(hP.h1 i j hj), ((hP.cl i).2 j hj).2.2.1⟩)
              rw [if_pos rfl, hall, show (asL P f i).map (fun t => prf (fun _ => 0) 0 ++ t) = asL P f i from (List.map_congr_left (fun t _ => rfl)).trans (List.map_id _)] at c4
              obtain ⟨d1, d2, d3⟩ := c4
              have hw0 : wyL P f i < 2 ^ 30 := Nat.lt_of_le_of_lt (wy_256 (fun j z => hP.h1 i j z) hl8 (Nat.zero_le _)) (by decide)
              refine ⟨fun a h1 h2 h3 => ?_, fun k h1 h2 h3 h4 => ?_, ?_, fun q hq => ?_, fun m hm ha => ?_⟩
              · rw [c1 a h1 h2 h3, hI.1 a h3, up_n h1, up_n h1, up_n h1]
              · rw [c2 k h3 h4, hI.1 140 (by decide), up_eq, if_neg (by omega), up_eq, if_neg (by omega), up_eq, if_neg (by omega)]
              · rw [d2, leafs_n]; exact congrArg nI (Nat.zero_add _)
              · obtain ⟨e1, e2⟩ := d1 q (by omega)
                rw [e1]
                refine congrArg nI (tb16 e2 kpL_lt (fun k hk => ?_))
                rw [leafs_sn _ _ hq, kpL_tb]
                constructor
                · rintro (h | h)
                  · exact absurd h (by show ¬ (Nat.testBit 0 k = true); rw [Nat.zero_testBit]; decide)
                  · exact ⟨hk, h⟩
                · exact fun h => .inr h.2
              · rw [d3, ha]
                have hwl : (asL P f i).length = wyL P f i := rfl
                rw [leafs_ans (by omega) (asL P f i) _ (by show 0 + (asL P f i).length < _; omega) (Nat.zero_le _) (by show m < 0 + (asL P f i).length; omega)]
                rfl)
    · exact absurd (Int32.le_refl _) hb20
  | succ d ih =>
    intro i_ M1 hd hi hI
    have hlt : i_ < 8 := by omega
    refine S_iload_3 (q := 18) dX10_assignAll_17 rfl ?_
    refine S_bipush (q := 20) (nI 8) dX10_assignAll_18 (by decide) rfl ?_
    refine S_icmp_ge (t := 36) (q := 23) dX10_assignAll_20 (by decide) rfl (fun hb20 => ?_) (fun hb20 => ?_)
    · exact absurd hb20 (nI_ge hlt (by omega))
    · refine S_aload_0 (q := 24) dX10_assignAll_23 rfl ?_
      refine S_getR (q := 27) dX10_assignAll_24 fl_X10_59 (by first | assumption | rfl) (by rfl) rfl ?_
      refine S_iload_3 (q := 28) dX10_assignAll_27 rfl ?_
      refine S_iconst (q := 29) (nI 0) dX10_assignAll_28 (by decide) rfl ?_
      refine S_iastE (i := i_) (q := 30) dX10_assignAll_29 (by first | assumption | rfl) (by first | (simp only [nI_add, pk_mul, nI_1]; done) | rfl) (by omega) (by decide) rfl ?_
      refine S_iinc_3 (q := 33) (nI (i_ + 1)) dX10_assignAll_30 (inc1 _) rfl ?_
      refine S_goto (t := 17) dX10_assignAll_33 (by decide) ?_
      exact ih (i_ + 1) _ (by omega) hlt ⟨fun a ha => by rw [up_n ha]; exact hI.1 a ha, fun x hx => by
        rw [up_eq]
        by_cases e : x = i_
        · rw [if_pos ⟨rfl, e⟩]
        · rw [if_neg (fun y => e y.2)]; exact hI.2 x (by omega)⟩
set_option maxHeartbeats 4000000 in
set_option maxRecDepth 100000 in
theorem k_X10_solve {l : Launch} {G : Gd} {b0 : Nat} {M : Mem} {P : Pz} {f : Nat → Nat} {bb i ap : Nat} {ask : Int32} (hP : P.ok) (hbb : bb + 64 ≤ 4160) (hli : i < P.r + P.c) (hap : ap < 8) (hask : ask = -1) (hW : LWR M P f bb ask ap)  : Ct l G b0 yX10_solve cX10_solve 6 (some .int) (rmZ 11 410) LAY LAY M [.ref (b0 + 140), .int (nI bb), .int (nI i)] (fun v M' => (∀ a, a ≠ 140 → a ≠ 141 → a ≠ 149 → a ≠ 150 → M' a = M a) ∧ (∀ k, k ≠ 17 → k ≠ 18 → k ≠ 19 → k ≠ 22 → M' 140 k = M 140 k) ∧ (∀ x, (x < bb ∨ bb + 64 ≤ x) → M' 141 x = M 141 x) ∧ (wyL P f i = 0 → v = -1) ∧ (wyL P f i ≠ 0 → v = nI (WT P f - WT P (lnS P f i)) ∧ RCE M' bb P (lnS P f i))) := by
  have hr1 := hP.r1
  have hr8 := hP.r8
  have hc1 := hP.c1
  have hc8 := hP.c8
  have hi16 : i < 16 := by omega
  have hl8 := lnLen_le (i := i) hr8 hc8
  obtain ⟨a1, a2, a3, a4, a5, a6⟩ := id hW
  refine Ct.of [some (.ref (b0 + 140)), some (.int (nI bb)), some (.int (nI i)), none, none, none] (by decide) (Nat.le_of_ble_eq_true rfl) rfl rfl ?_
  refine S_aload_0 (q := 1) dX10_solve_0 rfl ?_
  refine S_iload_1 (q := 2) dX10_solve_1 rfl ?_
  refine S_iload_2 (q := 3) dX10_solve_2 rfl ?_
  refine S_callV2v (q := 6) dX10_solve_3 lk_X10_224 (by first | assumption | rfl) rfl rfl (k_X10_assignAll hP hbb hli hap (.inr hask) hW) rfl rfl (Nat.le_of_ble_eq_true rfl) ⟨Nat.le_of_ble_eq_true rfl, Nat.le_of_ble_eq_true rfl⟩ ⟨Nat.le_of_ble_eq_true rfl, Nat.le_of_ble_eq_true rfl⟩ rfl (fun v3 M3 hv3 => ?_)
  obtain ⟨hs1, hs2, hs3, hs4, hs5⟩ := hv3
  have b1 : M3 140 0 = nI P.r := by rw [hs2 0 (by decide) (by decide) (by decide) (by decide)]; exact a1
  have b2 : M3 140 1 = nI P.c := by rw [hs2 1 (by decide) (by decide) (by decide) (by decide)]; exact a2
  have hw0 : wyL P f i < 2 ^ 30 := Nat.lt_of_le_of_lt (wy_256 (fun j z => hP.h1 i j z) hl8 (Nat.zero_le _)) (by decide)
  refine S_aload_0 (q := 7) dX10_solve_6 rfl ?_
  refine S_getI (q := 10) dX10_solve_7 fl_X10_68 (by first | assumption | rfl) (by rfl) rfl ?_
  rw [hs3]
  refine S_if_ne (t := 15) (q := 13) dX10_solve_10 (by decide) rfl (fun hb10 => ?_) (fun hb10 => ?_)
  · have hz : ¬ wyL P f i = 0 := fun e => hb10 (by rw [e]; rfl)
    have e0 : nI 0 = nI (WT P f - WT P (lnT P f i 0)) := by rw [show lnT P f i 0 = f from rfl, Nat.sub_self]
    refine S_iconst (q := 16) (nI 0) dX10_solve_15 (by decide) rfl ?_
    refine S_istore_3 (q := 17) dX10_solve_16 rfl ?_
    rw [e0]
    refine S_iconst (q := 18) (nI 0) dX10_solve_17 (by decide) rfl ?_
    refine S_istore_4 (q := 20) dX10_solve_18 rfl ?_
    suffices H : ∀ (d : Nat) (q : Nat) (M1 : Mem), (lnLen P.r P.c i) - q = d → q ≤ (lnLen P.r P.c i) → ((∀ a, a ≠ 141 → M1 a = M3 a) ∧ (∀ x, (x < bb ∨ bb + 64 ≤ x) → M1 141 x = M3 141 x) ∧ RCE M1 bb P (lnT P f i (q))) → S l G b0 yX10_solve cX10_solve 6 (some .int) (rmZ 11 410) LAY (fun v M' => (∀ a, a ≠ 140 → a ≠ 141 → a ≠ 149 → a ≠ 150 → M' a = M a) ∧ (∀ k, k ≠ 17 → k ≠ 18 → k ≠ 19 → k ≠ 22 → M' 140 k = M 140 k) ∧ (∀ x, (x < bb ∨ bb + 64 ≤ x) → M' 141 x = M 141 x) ∧ (wyL P f i = 0 → v = -1) ∧ (wyL P f i ≠ 0 → v = nI (WT P f - WT P (lnS P f i)) ∧ RCE M' bb P (lnS P f i))) 0 0 0 0 LAY 20 [some (.ref (b0 + 140)), some (.int (nI bb)), some (.int (nI i)), some (.int (nI (WT P f - WT P (lnT P f i (q))))), some (.int (nI (q))), none] [] M1 from H _ 0 _ rfl (by omega) ⟨fun _ _ => rfl, fun _ _ => rfl, fun x hx => by rw [hs1 141 (by decide) (by decide) (by decide)]; exact a4 x hx⟩
    intro d
    induction d with
    | zero =>
      intro q M1 hd hi hI
      have e : lnLen P.r P.c i = q := by omega
      subst e
      refine S_iload_4 (q := 22) dX10_solve_20 rfl ?_
      refine S_aload_0 (q := 23) dX10_solve_22 rfl ?_
      refine S_iload_2 (q := 24) dX10_solve_23 rfl ?_
      refine S_callV1i (q := 27) dX10_solve_24 lk_X10_214 (by first | assumption | rfl) rfl rfl (k_X10_size (by rw [hI.1 140 (by decide)]; exact b1) (by rw [hI.1 140 (by decide)]; exact b2) hr8 hc8 hr1 hc1 hi16) rfl rfl (Nat.le_of_ble_eq_true rfl) ⟨Nat.le_of_ble_eq_true rfl, Nat.le_of_ble_eq_true rfl⟩ ⟨Nat.le_of_ble_eq_true rfl, Nat.le_of_ble_eq_true rfl⟩ rfl (fun v24 M24 hv24 => ?_)
      obtain ⟨e24, rfl⟩ := hv24
      rw [e24]
      refine S_icmp_ge (t := 88) (q := 30) dX10_solve_27 (by decide) rfl (fun hb27 => ?_) (fun hb27 => ?_)
      · refine S_iload_3 (q := 89) dX10_solve_88 rfl ?_
        exact S_iret rfl dX10_solve_89 rfl rfl (⟨fun a h1 h2 h3 h4 => (by rw [hI.1 a h2]; exact hs1 a h1 h3 h4), fun k h1 h2 h3 h4 => (by rw [hI.1 140 (by decide)]; exact hs2 k h1 h2 h3 h4), fun x hx => (by rw [hI.2.1 x hx]; exact congrFun (hs1 141 (by decide) (by decide) (by decide)) x), fun y => absurd y hz, fun _ => ⟨rfl, hI.2.2⟩⟩)
      · exact absurd (Int32.le_refl _) hb27
    | succ d ih =>
      intro q M1 hd hi hI
      have hlt : q < (lnLen P.r P.c i) := by omega
      have hG64 := lnG_64 hr8 hc8 hli hlt
      have hg0 : lnT P f i q (lnCell P.r P.c i q) = f (lnCell P.r P.c i q) := lnT_out q (fun q' hq' e => by have := lnCell_inj hc1 e; omega)
      have hg1 := hI.2.2.ln hli hlt
      rw [hg0] at hg1
      have hkp : M1 150 q = nI (kpL P f i q) := by rw [hI.1 150 (by decide)]; exact hs4 q hlt
      have hand := andn _ hg1.2.2 _ (kpL_lt (P := P) (f := f) (i := i) (p := q)) (fun k _ h => kpL_sub hP hlt k h)
      have hst := WT_step (f := f) hc1 hli hlt
      have hle1 := WT_T hP a4.gf hli q (by omega)
      have hle2 := WT_T hP a4.gf hli (q + 1) (by omega)
      refine S_iload_4 (q := 22) dX10_solve_20 rfl ?_
      refine S_aload_0 (q := 23) dX10_solve_22 rfl ?_
      refine S_iload_2 (q := 24) dX10_solve_23 rfl ?_
      refine S_callV1i (q := 27) dX10_solve_24 lk_X10_214 (by first | assumption | rfl) rfl rfl (k_X10_size (by rw [hI.1 140 (by decide)]; exact b1) (by rw [hI.1 140 (by decide)]; exact b2) hr8 hc8 hr1 hc1 hi16) rfl rfl (Nat.le_of_ble_eq_true rfl) ⟨Nat.le_of_ble_eq_true rfl, Nat.le_of_ble_eq_true rfl⟩ ⟨Nat.le_of_ble_eq_true rfl, Nat.le_of_ble_eq_true rfl⟩ rfl (fun v24 M24 hv24 => ?_)
      obtain ⟨e24, rfl⟩ := hv24
      rw [e24]
      refine S_icmp_ge (t := 88) (q := 30) dX10_solve_27 (by decide) rfl (fun hb27 => ?_) (fun hb27 => ?_)
      · exact absurd hb27 (nI_ge hlt (by omega))
      · refine S_iload_1 (q := 31) dX10_solve_30 rfl ?_
        refine S_aload_0 (q := 32) dX10_solve_31 rfl ?_
        refine S_iload_2 (q := 33) dX10_solve_32 rfl ?_
        refine S_iload_4 (q := 35) dX10_solve_33 rfl ?_
        refine S_callV2i (q := 38) dX10_solve_35 lk_X10_217 (by first | assumption | rfl) rfl rfl (k_X10_cellOf (by rw [hI.1 140 (by decide)]; exact b1) (by rw [hI.1 140 (by decide)]; exact b2) hr8 hc8 hr1 hc1 hi16) rfl rfl (Nat.le_of_ble_eq_true rfl) ⟨Nat.le_of_ble_eq_true rfl, Nat.le_of_ble_eq_true rfl⟩ ⟨Nat.le_of_ble_eq_true rfl, Nat.le_of_ble_eq_true rfl⟩ rfl (fun v35 M35 hv35 => ?_)
        obtain ⟨e35, rfl⟩ := hv35
        rw [e35]
        refine S_iadd (q := 39) dX10_solve_38 rfl ?_
        rw [nI_add]
        refine S_istore_5 (q := 41) dX10_solve_39 rfl ?_
        refine S_iload_3 (q := 42) dX10_solve_41 rfl ?_
        refine S_aload_0 (q := 43) dX10_solve_42 rfl ?_
        refine S_aload_0 (q := 44) dX10_solve_43 rfl ?_
        refine S_getR (q := 47) dX10_solve_44 fl_X10_22 (by first | assumption | rfl) (by rfl) rfl ?_
        refine S_iload_5 (q := 49) dX10_solve_47 rfl ?_
        refine S_ialdV (i := bb + lnG P.r P.c i q) (val := nI (f (lnCell P.r P.c i q))) (q := 50) dX10_solve_49 (by first | assumption | rfl) rfl (by omega) (by decide) hg1.1 rfl ?_
        refine S_aload_0 (q := 51) dX10_solve_50 rfl ?_
        refine S_getR (q := 54) dX10_solve_51 fl_X10_59 (by first | assumption | rfl) (by rfl) rfl ?_
        refine S_iload_4 (q := 56) dX10_solve_54 rfl ?_
        refine S_ialdV (i := q) (val := nI (kpL P f i q)) (q := 57) dX10_solve_56 (by first | assumption | rfl) (by first | (simp only [nI_add, pk_mul, nI_1]; done) | rfl) (by omega) (by decide) hkp rfl ?_
        refine S_iconst (q := 58) (-1) dX10_solve_57 (by decide) rfl ?_
        refine S_ixor (q := 59) dX10_solve_58 rfl ?_
        refine S_iand (q := 60) dX10_solve_59 rfl ?_
        rw [hand.1]
        refine S_callV1i (q := 63) dX10_solve_60 lk_X10_208 (by first | assumption | rfl) rfl rfl (k_X10_ones hand.2.1) rfl rfl (Nat.le_of_ble_eq_true rfl) ⟨Nat.le_of_ble_eq_true rfl, Nat.le_of_ble_eq_true rfl⟩ ⟨Nat.le_of_ble_eq_true rfl, Nat.le_of_ble_eq_true rfl⟩ rfl (fun v60 M60 hv60 => ?_)
        obtain ⟨e60, rfl⟩ := hv60
        rw [e60]
        refine S_iadd (q := 64) dX10_solve_63 rfl ?_
        rw [nI_add]
        refine S_istore_3 (q := 65) dX10_solve_64 rfl ?_
        refine S_aload_0 (q := 66) dX10_solve_65 rfl ?_
        refine S_getR (q := 69) dX10_solve_66 fl_X10_22 (by first | assumption | rfl) (by rfl) rfl ?_
        refine S_iload_5 (q := 71) dX10_solve_69 rfl ?_
        refine S_dup2 (q := 72) dX10_solve_71 rfl rfl rfl ?_
        refine S_ialdV (i := bb + lnG P.r P.c i q) (val := nI (f (lnCell P.r P.c i q))) (q := 73) dX10_solve_72 (by first | assumption | rfl) rfl (by omega) (by decide) hg1.1 rfl ?_
        refine S_aload_0 (q := 74) dX10_solve_73 rfl ?_
        refine S_getR (q := 77) dX10_solve_74 fl_X10_59 (by first | assumption | rfl) (by rfl) rfl ?_
        refine S_iload_4 (q := 79) dX10_solve_77 rfl ?_
        refine S_ialdV (i := q) (val := nI (kpL P f i q)) (q := 80) dX10_solve_79 (by first | assumption | rfl) (by first | (simp only [nI_add, pk_mul, nI_1]; done) | rfl) (by omega) (by decide) hkp rfl ?_
        refine S_iand (q := 81) dX10_solve_80 rfl ?_
        rw [hand.2.2.2]
        refine S_iastE (i := bb + lnG P.r P.c i q) (q := 82) dX10_solve_81 (by first | assumption | rfl) rfl (by omega) (by decide) rfl ?_
        refine S_iinc_4 (q := 85) (nI (q + 1)) dX10_solve_82 (inc1 _) rfl ?_
        refine S_goto (t := 20) dX10_solve_85 (by decide) ?_
        refine S_fgt5 ?_
        rw [show WT P f - WT P (lnT P f i q) + pc4 (f (lnCell P.r P.c i q) - kpL P f i q) = WT P f - WT P (lnT P f i (q + 1)) by omega]
        exact ih (q + 1) _ (by omega) hlt ⟨fun a ha => by rw [up_n ha]; exact hI.1 a ha, fun x hx => by rw [up_eq, if_neg (by omega)]; exact hI.2.1 x hx, by
          have h := RCE.up hI.2.2 hP (lnCell_lt hli hlt) (kpL_pos hP a4.gf hli hz hlt) (kpL_lt (P := P) (f := f) (i := i) (p := q))
          rw [gx_ln hli hlt] at h
          exact h⟩
  · have hz : wyL P f i = 0 := nI_inj (by omega) (by decide) hb10
    refine S_iconst (q := 14) (-1) dX10_solve_13 (by decide) rfl ?_
    exact S_iret rfl dX10_solve_14 rfl rfl (⟨fun a h1 h2 h3 h4 => hs1 a h1 h3 h4, hs2, fun x hx => congrFun (hs1 141 (by decide) (by decide) (by decide)) x, fun _ => rfl, fun y => absurd hz y⟩)
/-- what spread keeps -/
def SFR (M M1 : Mem) (bb : Nat) : Prop := (∀ a, a ≠ 140 → a ≠ 141 → a ≠ 149 → a ≠ 150 → M1 a = M a) ∧ (∀ k, k ≠ 17 → k ≠ 18 → k ≠ 19 → k ≠ 22 → k ≠ 23 → k ≠ 24 → M1 140 k = M 140 k) ∧ (∀ x, (x < bb ∨ bb + 64 ≤ x) → M1 141 x = M 141 x)
theorem SFR.refl {M : Mem} {bb : Nat} : SFR M M bb := ⟨fun _ _ _ _ _ => rfl, fun _ _ _ _ _ _ _ => rfl, fun _ _ => rfl⟩
theorem SFR.trans {M M1 M2 : Mem} {bb : Nat} (h : SFR M M1 bb) (g : SFR M1 M2 bb) : SFR M M2 bb := ⟨fun a h1 h2 h3 h4 => by rw [g.1 a h1 h2 h3 h4]; exact h.1 a h1 h2 h3 h4, fun k h1 h2 h3 h4 h5 h6 => by rw [g.2.1 k h1 h2 h3 h4 h5 h6]; exact h.2.1 k h1 h2 h3 h4 h5 h6, fun x hx => by rw [g.2.2 x hx]; exact h.2.2 x hx⟩
theorem SFR.up {M : Mem} {bb k : Nat} {v : Int32} (hk : k = 23 ∨ k = 24) : SFR M (up M 140 k v) bb := ⟨fun a h1 _ _ _ => up_n h1, fun z _ _ _ _ _ _ => by rw [up_eq, if_neg (by omega)], fun x _ => by rw [up_n (by decide)]⟩
theorem LWR.up {M : Mem} {P : Pz} {f : Nat → Nat} {bb ap k : Nat} {ask v : Int32} (h : LWR M P f bb ask ap) (hk : k = 23 ∨ k = 24) : LWR (up M 140 k v) P f bb ask ap := h.fr (fun a h1 _ _ _ => up_n h1) (fun z _ _ _ _ _ _ => by rw [up_eq, if_neg (by omega)]) (fun x hx => by rw [up_n (by decide)]; exact h.2.2.2.1 x hx)
theorem LWR.sp {M M1 : Mem} {P : Pz} {f g : Nat → Nat} {bb ap : Nat} {ask : Int32} (h : LWR M P f bb ask ap) (hs : SFR M M1 bb) (hg : RCE M1 bb P g) : LWR M1 P g bb ask ap := h.fr hs.1 hs.2.1 hg
theorem pas_at {P : Pz} {f : Nat → Nat} {i : Nat} (hi : i < P.r + P.c) : pas P f (P.r + P.c - i) = if wyL P f i = 0 then .inl i else pas P (lnS P f i) (P.r + P.c - (i + 1)) := by
  rw [show P.r + P.c - i = P.r + P.c - (i + 1) + 1 by omega, pas, show P.r + P.c - (P.r + P.c - (i + 1) + 1) = i by omega]
set_option maxHeartbeats 4000000 in
set_option maxRecDepth 100000 in
theorem q_pass {l : Launch} {G : Gd} {b0 : Nat} {M : Mem} {Post : PT} {P : Pz} {bb ap : Nat} {ask : Int32} {f : Nat → Nat} {W0 : Nat} {z3 : Int32} (hP : P.ok) (hbb : bb + 64 ≤ 4160) (hap : ap < 8) (hask : ask = -1) (hW : LWR M P f bb ask ap) (hw : WT P f ≤ W0) (hbad : ∀ j M2, pas P f (P.r + P.c) = .inl j → SFR M M2 bb → M2 140 24 = nI j → Post (-1) M2) (k : ∀ g M2, pas P f (P.r + P.c) = .inr g → SFR M M2 bb → M2 140 23 = M 140 23 → LWR M2 P g bb ask ap → S l G b0 yX10_spread cX10_spread 6 (some .int) (rmZ 12 435) LAY Post 0 0 0 0 LAY 71 [some (.ref (b0 + 140)), some (.int (nI bb)), some (.int (nI (W0 - WT P g))), some (.int z3), none, none] [] M2) : S l G b0 yX10_spread cX10_spread 6 (some .int) (rmZ 12 435) LAY Post 0 0 0 0 LAY 29 [some (.ref (b0 + 140)), some (.int (nI bb)), some (.int (nI (W0 - WT P f))), some (.int z3), some (.int (nI (0))), none] [] M := by
  have hr1 := hP.r1
  have hr8 := hP.r8
  have hc1 := hP.c1
  have hc8 := hP.c8
  suffices H : ∀ (d i : Nat) (g : Nat → Nat) (M1 : Mem), P.r + P.c - i = d → i ≤ P.r + P.c → pas P g (P.r + P.c - i) = pas P f (P.r + P.c) → WT P g ≤ W0 → SFR M M1 bb → M1 140 23 = M 140 23 → LWR M1 P g bb ask ap → S l G b0 yX10_spread cX10_spread 6 (some .int) (rmZ 12 435) LAY Post 0 0 0 0 LAY 29 [some (.ref (b0 + 140)), some (.int (nI bb)), some (.int (nI (W0 - WT P g))), some (.int z3), some (.int (nI (i))), none] [] M1 from H _ 0 f M rfl (Nat.zero_le _) rfl hw SFR.refl rfl hW
  intro d
  induction d with
  | zero =>
    intro i g M1 hd hi hpa hwg hfr h23 hW1
    have e : P.r + P.c = i := by omega
    subst e
    refine S_iload_4 (q := 31) dX10_spread_29 rfl ?_
    refine S_aload_0 (q := 32) dX10_spread_31 rfl ?_
    refine S_callV0i (q := 35) dX10_spread_32 lk_X10_168 (by first | assumption | rfl) rfl rfl (k_X10_lines hW1.1 hW1.2.1) rfl rfl (Nat.le_of_ble_eq_true rfl) ⟨Nat.le_of_ble_eq_true rfl, Nat.le_of_ble_eq_true rfl⟩ ⟨Nat.le_of_ble_eq_true rfl, Nat.le_of_ble_eq_true rfl⟩ rfl (fun v32 M32 hv32 => ?_)
    obtain ⟨e32, rfl⟩ := hv32
    rw [e32]
    refine S_icmp_ge (t := 71) (q := 38) dX10_spread_35 (by decide) rfl (fun hb35 => ?_) (fun hb35 => ?_)
    · refine S_fgt4 ?_
      exact k g M1 (by rw [← hpa, Nat.sub_self]; rfl) hfr h23 hW1
    · exact absurd (Int32.le_refl _) hb35
  | succ d ih =>
    intro i g M1 hd hi hpa hwg hfr h23 hW1
    have hlt : i < P.r + P.c := by omega
    have hgf := hW1.2.2.2.1.gf
    have h256 := WT_le hP (f := g)
    refine S_iload_4 (q := 31) dX10_spread_29 rfl ?_
    refine S_aload_0 (q := 32) dX10_spread_31 rfl ?_
    refine S_callV0i (q := 35) dX10_spread_32 lk_X10_168 (by first | assumption | rfl) rfl rfl (k_X10_lines hW1.1 hW1.2.1) rfl rfl (Nat.le_of_ble_eq_true rfl) ⟨Nat.le_of_ble_eq_true rfl, Nat.le_of_ble_eq_true rfl⟩ ⟨Nat.le_of_ble_eq_true rfl, Nat.le_of_ble_eq_true rfl⟩ rfl (fun v32 M32 hv32 => ?_)
    obtain ⟨e32, rfl⟩ := hv32
    rw [e32]
    refine S_icmp_ge (t := 71) (q := 38) dX10_spread_35 (by decide) rfl (fun hb35 => ?_) (fun hb35 => ?_)
    · exact absurd hb35 (nI_ge hlt (by omega))
    · refine S_aload_0 (q := 39) dX10_spread_38 rfl ?_
      refine S_iload_1 (q := 40) dX10_spread_39 rfl ?_
      refine S_iload_4 (q := 42) dX10_spread_40 rfl ?_
      refine S_callV2i (q := 45) dX10_spread_42 lk_X10_227 (by first | assumption | rfl) rfl rfl (k_X10_solve hP hbb hlt hap hask hW1) rfl rfl (Nat.le_of_ble_eq_true rfl) ⟨Nat.le_of_ble_eq_true rfl, Nat.le_of_ble_eq_true rfl⟩ ⟨Nat.le_of_ble_eq_true rfl, Nat.le_of_ble_eq_true rfl⟩ rfl (fun v42 M42 hv42 => ?_)
      obtain ⟨hs1, hs2, hs3, hs4, hs5⟩ := hv42
      have hfr2 : SFR M M42 bb := hfr.trans ⟨hs1, fun k h1 h2 h3 h4 _ _ => hs2 k h1 h2 h3 h4, hs3⟩
      refine S_istore_5 (q := 47) dX10_spread_45 rfl ?_
      refine S_iload_5 (q := 49) dX10_spread_47 rfl ?_
      refine S_if_ge (t := 60) (q := 52) dX10_spread_49 (by decide) rfl (fun hb49 => ?_) (fun hb49 => ?_)
      · have hz : ¬ wyL P g i = 0 := fun y => by rw [hs4 y] at hb49; exact absurd hb49 (by decide)
        obtain ⟨rfl, hg2⟩ := hs5 hz
        have hle := WT_S hP hgf hlt
        refine S_iload_2 (q := 61) dX10_spread_60 rfl ?_
        refine S_iload_5 (q := 63) dX10_spread_61 rfl ?_
        refine S_iadd (q := 64) dX10_spread_63 rfl ?_
        rw [nI_add, show W0 - WT P g + (WT P g - WT P (lnS P g i)) = W0 - WT P (lnS P g i) by omega]
        refine S_istore_2 (q := 65) dX10_spread_64 rfl ?_
        refine S_iinc_4 (q := 68) (nI (i + 1)) dX10_spread_65 (inc1 _) rfl ?_
        refine S_goto (t := 29) dX10_spread_68 (by decide) ?_
        refine S_fgt5 ?_
        exact ih (i + 1) (lnS P g i) M42 (by omega) hlt (by rw [← hpa, pas_at hlt, if_neg hz]) (by omega) hfr2 (by rw [hs2 23 (by decide) (by decide) (by decide) (by decide)]; exact h23) (hW1.sp ⟨hs1, fun k h1 h2 h3 h4 _ _ => hs2 k h1 h2 h3 h4, hs3⟩ hg2)
      · have hz : wyL P g i = 0 := Decidable.byContradiction (fun y => by rw [(hs5 y).1] at hb49; exact hb49 (nI_pos' (by omega)))
        refine S_aload_0 (q := 53) dX10_spread_52 rfl ?_
        refine S_iload_4 (q := 55) dX10_spread_53 rfl ?_
        refine S_putI (q := 58) dX10_spread_55 fp_X10_83 (by first | assumption | rfl) (by rfl) rfl (by rfl) rfl ?_
        refine S_iconst (q := 59) (-1) dX10_spread_58 (by decide) rfl ?_
        exact S_iret rfl dX10_spread_59 rfl rfl (hbad i _ (by rw [← hpa, pas_at hlt, if_pos hz]) (hfr2.trans (SFR.up (.inr rfl))) up_s)
theorem S_mono {l : Launch} {G : Gd} {b0 : Nat} {y : MethodName} {cc : ByteArray} {nL : Nat} {ret : Option FieldType} {rm : Room} {lay' : Lay} {Post Post2 : PT} {mc ms cells slots : Nat} {lay : Lay} {pc : Nat} {ls : List (Option Value)} {st : List Value} {M : Mem} (h : S l G b0 y cc nL ret rm lay' Post mc ms cells slots lay pc ls st M) (hm : ∀ v M', Post v M' → Post2 v M') : S l G b0 y cc nL ret rm lay' Post2 mc ms cells slots lay pc ls st M := by
  intro p e s m args below meth c F hb hz H locs la hw hs hL T hT X
  obtain ⟨t, h1, o, h2, h3, ⟨⟨v, M', e1, e2, e3⟩, e4⟩, h5⟩ := h p e s m args below meth c F hb hz H locs la hw hs hL T hT X
  exact ⟨t, h1, o, h2, h3, ⟨⟨v, M', e1, hm v M' e2, e3⟩, e4⟩, h5⟩
set_option maxHeartbeats 4000000 in
set_option maxRecDepth 100000 in
theorem q_spread {l : Launch} {G : Gd} {b0 : Nat} {P : Pz} {bb ap : Nat} {ask : Int32} {W0 : Nat} (hP : P.ok) (hbb : bb + 64 ≤ 4160) (hap : ap < 8) (hask : ask = -1) (hW0 : W0 ≤ 256) : ∀ (w : Nat) (f : Nat → Nat) (M M0 : Mem) (z3 : Int32) (n0 : Nat), WT P f = w → WT P f ≤ W0 → LWR M P f bb ask ap → SFR M0 M bb → M 140 23 = nI n0 → S l G b0 yX10_spread cX10_spread 6 (some .int) (rmZ 12 435) LAY (fun v M' => SFR M0 M' bb ∧ (∀ j, spr P f = .inl j → v = -1 ∧ M' 140 24 = nI j) ∧ ∀ g n, spr P f = .inr (g, n) → v = nI (W0 - WT P g) ∧ M' 140 23 = nI (n0 + n) ∧ RCE M' bb P g) 0 0 0 0 LAY 14 [some (.ref (b0 + 140)), some (.int (nI bb)), some (.int (nI (W0 - WT P f))), some (.int z3), none, none] [] M := by
  intro w
  induction w using Nat.strongRecOn with
  | ind w ih =>
    intro f M M0 z3 n0 hwf hw hW hfr h23
    refine S_iload_2 (q := 15) dX10_spread_14 rfl ?_
    refine S_istore_3 (q := 16) dX10_spread_15 rfl ?_
    refine S_aload_0 (q := 17) dX10_spread_16 rfl ?_
    refine S_dup (q := 18) dX10_spread_17 rfl rfl ?_
    refine S_getI (q := 21) dX10_spread_18 fl_X10_80 (by first | assumption | rfl) (by rfl) rfl ?_
    rw [h23]
    refine S_iconst (q := 22) (nI 1) dX10_spread_21 (by decide) rfl ?_
    refine S_iadd (q := 23) dX10_spread_22 rfl ?_
    rw [nI_add]
    refine S_putI (q := 26) dX10_spread_23 fp_X10_80 (by first | assumption | rfl) (by rfl) rfl (by rfl) rfl ?_
    refine S_iconst (q := 27) (nI 0) dX10_spread_26 (by decide) rfl ?_
    refine S_istore_4 (q := 29) dX10_spread_27 rfl ?_
    refine q_pass hP hbb hap hask (hW.up (.inl rfl)) hw (fun j M2 hp hs h24 => ?_) (fun g M2 hp hs h23b hW2 => ?_)
    · have e1 : spr P f = .inl j := by rw [spr, hp]
      exact ⟨(hfr.trans (SFR.up (.inl rfl))).trans hs, fun j' h => (by rw [e1] at h; cases h; exact ⟨rfl, h24⟩), fun g n h => (by rw [e1] at h; cases h)⟩
    · obtain ⟨k1, k2, k3⟩ := pas_ok hP (P.r + P.c) f g (Nat.le_refl _) hW.2.2.2.1.gf hp
      rw [up_s] at h23b
      have hfr2 := (hfr.trans (SFR.up (k := 23) (v := nI (n0 + 1)) (.inl rfl))).trans hs
      refine S_goto (t := 9) dX10_spread_71 (by decide) ?_
      refine S_iload_3 (q := 10) dX10_spread_9 rfl ?_
      refine S_iload_2 (q := 11) dX10_spread_10 rfl ?_
      refine S_icmp_ge (t := 74) (q := 14) dX10_spread_11 (by decide) rfl (fun hb11 => ?_) (fun hb11 => ?_)
      · have hl : ¬ WT P g < WT P f := fun y => by have := (nI_leI (by omega) (by omega)).mp hb11; omega
        have e1 : spr P f = .inr (g, 1) := by rw [spr, hp]; simp only; rw [dif_neg hl]
        refine S_iload_2 (q := 75) dX10_spread_74 rfl ?_
        exact S_iret rfl dX10_spread_75 rfl rfl (⟨hfr2, fun j h => (by rw [e1] at h; cases h), fun g2 n h => (by rw [e1] at h; cases h; exact ⟨rfl, h23b, hW2.2.2.2.1⟩)⟩)
      · have hl : WT P g < WT P f := Decidable.byContradiction (fun y => hb11 ((nI_leI (a := W0 - WT P g) (b := W0 - WT P f) (by omega) (by omega)).mpr (by omega)))
        have h := ih (WT P g) (by omega) g M2 M0 (nI (W0 - WT P f)) (n0 + 1) rfl (by omega) hW2 hfr2 h23b
        refine S_mono h (fun v M' hv => ⟨hv.1, fun j hj => ?_, fun g2 n hn => ?_⟩)
        · refine hv.2.1 j ?_
          rw [spr, hp] at hj
          simp only at hj
          rw [dif_pos hl] at hj
          cases e : spr P g with
          | inl j2 => rw [e] at hj; cases hj; rfl
          | inr z => rw [e] at hj; cases hj
        · rw [spr, hp] at hn
          simp only at hn
          rw [dif_pos hl] at hn
          cases e : spr P g with
          | inl j2 => rw [e] at hn; cases hn
          | inr z =>
            obtain ⟨g3, n3⟩ := z
            rw [e] at hn; cases hn
            have := hv.2.2 _ _ e
            rw [show ∀ a b : Nat, a + 1 + b = a + (b + 1) from fun a b => by omega] at this
            exact this
set_option maxHeartbeats 4000000 in
set_option maxRecDepth 100000 in
theorem k_X10_spread {l : Launch} {G : Gd} {b0 : Nat} {M : Mem} {P : Pz} {bb ap : Nat} {ask : Int32} {f : Nat → Nat}  (hP : P.ok) (hbb : bb + 64 ≤ 4160) (hap : ap < 8) (hask : ask = -1) (hW : LWR M P f bb ask ap)  : Ct l G b0 yX10_spread cX10_spread 6 (some .int) (rmZ 12 435) LAY LAY M [.ref (b0 + 140), .int (nI bb)] (fun v M' => SFR M M' bb ∧ (∀ j, spr P f = .inl j → v = -1 ∧ M' 140 24 = nI j) ∧ ∀ g n, spr P f = .inr (g, n) → v = nI (WT P f - WT P g) ∧ M' 140 23 = nI n ∧ RCE M' bb P g) := by
  have hr1 := hP.r1
  have hr8 := hP.r8
  have hc1 := hP.c1
  have hc8 := hP.c8
  have h256 := WT_le hP (f := f)
  refine Ct.of [some (.ref (b0 + 140)), some (.int (nI bb)), none, none, none, none] (by decide) (Nat.le_of_ble_eq_true rfl) rfl rfl ?_
  refine S_iconst (q := 1) (nI 0) dX10_spread_0 (by decide) rfl ?_
  refine S_istore_2 (q := 2) dX10_spread_1 rfl ?_
  rw [show nI 0 = nI (WT P f - WT P f) by rw [Nat.sub_self]]
  refine S_iconst (q := 3) (-1) dX10_spread_2 (by decide) rfl ?_
  refine S_istore_3 (q := 4) dX10_spread_3 rfl ?_
  refine S_aload_0 (q := 5) dX10_spread_4 rfl ?_
  refine S_iconst (q := 6) (nI 0) dX10_spread_5 (by decide) rfl ?_
  refine S_putI (q := 9) dX10_spread_6 fp_X10_80 (by first | assumption | rfl) (by rfl) rfl (by rfl) rfl ?_
  refine S_iload_3 (q := 10) dX10_spread_9 rfl ?_
  refine S_iload_2 (q := 11) dX10_spread_10 rfl ?_
  refine S_icmp_ge (t := 74) (q := 14) dX10_spread_11 (by decide) rfl (fun hb11 => ?_) (fun hb11 => ?_)
  · exact absurd (by rw [Nat.sub_self] at hb11; exact hb11) (show ¬ nI 0 ≤ (-1 : Int32) by decide)
  · refine S_mono (q_spread hP hbb hap hask h256 (WT P f) f _ M (-1) 0 rfl (Nat.le_refl _) (hW.up (.inl rfl)) (SFR.up (.inl rfl)) up_s) (fun v M' hv => ⟨hv.1, hv.2.1, fun g n h => ?_⟩)
    have := hv.2.2 g n h
    rw [Nat.zero_add] at this
    exact this
