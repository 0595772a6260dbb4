/-- the blocks of a line of colors, after so many cells: how many, their lengths, their colors -/
def bkT (C : Nat → Nat) : Nat → Nat × (Nat → Nat) × (Nat → Nat)
  | 0 => (0, fun _ => 0, fun _ => 0)
  | p + 1 => if C p = 0 then bkT C p else if 1 ≤ p ∧ C p = C (p - 1) then ((bkT C p).1, upf (bkT C p).2.1 ((bkT C p).1 - 1) ((bkT C p).2.1 ((bkT C p).1 - 1) + 1), (bkT C p).2.2) else ((bkT C p).1 + 1, upf (bkT C p).2.1 (bkT C p).1 1, upf (bkT C p).2.2 (bkT C p).1 (C p))
theorem bkT_0 {C : Nat → Nat} {p : Nat} (h : C p = 0) : bkT C (p + 1) = bkT C p := by
  rw [bkT, if_pos h]
theorem bkT_1 {C : Nat → Nat} {p : Nat} (h : C p ≠ 0) (h1 : 1 ≤ p) (h2 : C p = C (p - 1)) : bkT C (p + 1) = ((bkT C p).1, upf (bkT C p).2.1 ((bkT C p).1 - 1) ((bkT C p).2.1 ((bkT C p).1 - 1) + 1), (bkT C p).2.2) := by
  rw [bkT, if_neg h, if_pos ⟨h1, h2⟩]
theorem bkT_2 {C : Nat → Nat} {p : Nat} (h : C p ≠ 0) (h2 : ¬ (1 ≤ p ∧ C p = C (p - 1))) : bkT C (p + 1) = ((bkT C p).1 + 1, upf (bkT C p).2.1 (bkT C p).1 1, upf (bkT C p).2.2 (bkT C p).1 (C p)) := by
  rw [bkT, if_neg h, if_neg h2]
theorem bkT_ok {C : Nat → Nat} : ∀ p, (∀ q, q < p → C q ≤ 3) → (bkT C p).1 ≤ p ∧ (1 ≤ p → C (p - 1) ≠ 0 → 1 ≤ (bkT C p).1) ∧ ∀ j, j < (bkT C p).1 → 1 ≤ (bkT C p).2.1 j ∧ (bkT C p).2.1 j ≤ p ∧ 1 ≤ (bkT C p).2.2 j ∧ (bkT C p).2.2 j ≤ 3 := by
  intro p
  induction p with
  | zero => intro _; exact ⟨Nat.le_refl _, fun h => absurd h (by decide), fun j hj => absurd hj (Nat.not_lt_zero j)⟩
  | succ p ih =>
    intro hC
    obtain ⟨h1, h2, h3⟩ := ih (fun q hq => hC q (by omega))
    have hCp := hC p (Nat.lt_succ_self p)
    by_cases c0 : C p = 0
    · rw [bkT_0 c0]
      exact ⟨by omega, fun _ h => absurd c0 h, fun j hj => ⟨(h3 j hj).1, by have := (h3 j hj).2.1; omega, (h3 j hj).2.2⟩⟩
    · by_cases c1 : 1 ≤ p ∧ C p = C (p - 1)
      · have hN := h2 c1.1 (by rw [← c1.2]; exact c0)
        rw [bkT_1 c0 c1.1 c1.2]
        refine ⟨by show (bkT C p).1 ≤ p + 1; omega, fun _ _ => hN, fun j hj => ?_⟩
        have a := h3 j hj
        have b := h3 ((bkT C p).1 - 1) (by omega)
        refine ⟨?_, ?_, a.2.2⟩
        · show 1 ≤ upf _ _ _ j
          by_cases e : j = (bkT C p).1 - 1
          · rw [e, upf_s]; omega
          · rw [upf_n e]; exact a.1
        · show upf _ _ _ j ≤ p + 1
          by_cases e : j = (bkT C p).1 - 1
          · rw [e, upf_s]; omega
          · rw [upf_n e]; omega
      · rw [bkT_2 c0 c1]
        refine ⟨by show (bkT C p).1 + 1 ≤ p + 1; omega, fun _ _ => Nat.le_add_left _ _, fun j hj => ?_⟩
        have hj' : j < (bkT C p).1 + 1 := hj
        by_cases e : j = (bkT C p).1
        · subst e
          refine ⟨?_, ?_, ?_, ?_⟩
          · show 1 ≤ upf _ _ _ _; rw [upf_s]; exact Nat.le_refl 1
          · show upf _ _ _ _ ≤ p + 1; rw [upf_s]; omega
          · show 1 ≤ upf _ _ _ _; rw [upf_s]; omega
          · show upf _ _ _ _ ≤ 3; rw [upf_s]; exact hCp
        · have a := h3 j (by omega)
          refine ⟨?_, ?_, ?_, ?_⟩
          · show 1 ≤ upf _ _ _ j; rw [upf_n e]; exact a.1
          · show upf _ _ _ j ≤ p + 1; rw [upf_n e]; omega
          · show 1 ≤ upf _ _ _ j; rw [upf_n e]; exact a.2.2.1
          · show upf _ _ _ j ≤ 3; rw [upf_n e]; exact a.2.2.2
/-- the color of a decided cell -/
def clo (m : Nat) : Nat := pc4 (m - 1)
theorem clo_le : ∀ m, m < 16 → pc4 m = 1 → clo m ≤ 3 ∧ m = 2 ^ clo m := by decide +kernel
theorem clo_le3 : ∀ m, m < 16 → 1 ≤ m → clo m ≤ 3 := by decide +kernel
def lco (r c : Nat) (f : Nat → Nat) (i : Nat) : Nat → Nat := fun q => clo (f (lnCell r c i q))
/-- a line's part of the clues -/
def BKM (M M' : Mem) (g i0 : Nat) (B : Nat × (Nat → Nat) × (Nat → Nat)) : Prop := (∀ a, a ≠ g + 2 → a ≠ g + 3 → a ≠ g + 4 → M' a = M a) ∧ (∀ i, i ≠ i0 → M' (g + 2) i = M (g + 2) i) ∧ (∀ j, (j < i0 * 8 ∨ i0 * 8 + 8 ≤ j) → M' (g + 3) j = M (g + 3) j ∧ M' (g + 4) j = M (g + 4) j) ∧ M' (g + 2) i0 = nI B.1 ∧ ∀ j, j < B.1 → M' (g + 3) (i0 * 8 + j) = nI (B.2.1 j) ∧ M' (g + 4) (i0 * 8 + j) = nI (B.2.2 j)
set_option maxHeartbeats 4000000 in
set_option maxRecDepth 100000 in
theorem k_X1_describeLine {l : Launch} {G : Gd} {b0 : Nat} {lay : Lay} {M : Mem} {g r c i0 : Nat} {f : Nat → Nat} (hg : isG lay g) (hr : M g 0 = nI r) (hcl : M g 1 = nI c) (hr8 : r ≤ 8) (hc8 : c ≤ 8) (hr1 : 1 ≤ r) (hc1 : 1 ≤ c) (hi0 : i0 < r + c) (hce : CE M (g + 5) (r * c) f) (h0 : M (g + 2) i0 = nI 0)  : Ct l G b0 yX1_describeLine cX1_describeLine 5 none (rmZ 2 45) lay lay M [.ref (b0 + g), .int (nI i0)] (fun v M' => BKM M M' g i0 (bkT (lco r c f i0) (lnLen r c i0))) := by
  have h64 := rc64 hr8 hc8
  have hl8 := lnLen_le (i := i0) hr8 hc8
  have hlc : ∀ q, q < lnLen r c i0 → lco r c f i0 q ≤ 3 := fun q hq => clo_le3 _ (hce _ (lnCell_lt hi0 hq)).2.2 (hce _ (lnCell_lt hi0 hq)).2.1
  obtain ⟨hg0, ⟨hq0, hq1, hq2, hq3⟩, hg5⟩ := id hg
  refine Ct.of [some (.ref (b0 + g)), some (.int (nI i0)), none, none, none] (by decide) (Nat.le_of_ble_eq_true rfl) rfl rfl ?_
  refine S_iconst (q := 1) (nI 0) dX1_describeLine_0 (by decide) rfl ?_
  refine S_istore_2 (q := 2) dX1_describeLine_1 rfl ?_
  refine S_iconst (q := 3) (nI 0) dX1_describeLine_2 (by decide) rfl ?_
  refine S_istore_3 (q := 4) dX1_describeLine_3 rfl ?_
  suffices H : ∀ (d : Nat) (i : Nat) (M1 : Mem), lnLen r c i0 - i = d → i ≤ lnLen r c i0 → BKM M M1 g i0 (bkT (lco r c f i0) (i)) → S l G b0 yX1_describeLine cX1_describeLine 5 none (rmZ 2 45) lay (fun v M' => BKM M M' g i0 (bkT (lco r c f i0) (lnLen r c i0))) 0 0 0 0 lay 4 [some (.ref (b0 + g)), some (.int (nI i0)), some (.int (nI (if i = 0 then 0 else lco r c f i0 (i - 1)))), some (.int (nI (i))), none] [] M1 from H _ 0 _ rfl (by omega) ⟨fun _ _ _ _ => rfl, fun _ _ => rfl, fun _ _ => ⟨rfl, rfl⟩, h0, fun j hj => absurd hj (Nat.not_lt_zero j)⟩
  intro d
  induction d with
  | zero =>
    intro i M1 hd hi hI
    have e : lnLen r c i0 = i := by omega
    subst e
    refine S_iload_3 (q := 5) dX1_describeLine_4 rfl ?_
    refine S_aload_0 (q := 6) dX1_describeLine_5 rfl ?_
    refine S_iload_1 (q := 7) dX1_describeLine_6 rfl ?_
    refine S_callV1i (q := 10) dX1_describeLine_7 lk_X1_84 (by first | assumption | rfl) rfl rfl (k_X1_lineLength hg (r := r) (c := c) (by rw [hI.1 g (by omega) (by omega) (by omega)]; exact hr) (by rw [hI.1 g (by omega) (by omega) (by omega)]; exact hcl) hr8 hc8 (show i0 < 16 by omega)) rfl rfl (Nat.le_of_ble_eq_true rfl) ⟨Nat.le_of_ble_eq_true rfl, Nat.le_of_ble_eq_true rfl⟩ ⟨Nat.le_of_ble_eq_true rfl, Nat.le_of_ble_eq_true rfl⟩ rfl (fun v7 M7 hv7 => ?_)
    obtain ⟨rfl, rfl⟩ := hv7
    refine S_icmp_ge (t := 72) (q := 13) dX1_describeLine_10 (by decide) rfl (fun hb10 => ?_) (fun hb10 => ?_)
    · exact S_ret (v := 0) rfl dX1_describeLine_72 rfl hI
    · exact absurd (Int32.le_refl _) hb10
  | succ d ih =>
    intro i M1 hd hi hI
    have hlt : i < lnLen r c i0 := by omega
    have hcl2 := lnCell_lt hi0 hlt
    have hbk := bkT_ok (C := lco r c f i0) i (fun q hq => hlc q (by omega))
    have hlci := hlc i hlt
    refine S_iload_3 (q := 5) dX1_describeLine_4 rfl ?_
    refine S_aload_0 (q := 6) dX1_describeLine_5 rfl ?_
    refine S_iload_1 (q := 7) dX1_describeLine_6 rfl ?_
    refine S_callV1i (q := 10) dX1_describeLine_7 lk_X1_84 (by first | assumption | rfl) rfl rfl (k_X1_lineLength hg (r := r) (c := c) (by rw [hI.1 g (by omega) (by omega) (by omega)]; exact hr) (by rw [hI.1 g (by omega) (by omega) (by omega)]; exact hcl) hr8 hc8 (show i0 < 16 by omega)) rfl rfl (Nat.le_of_ble_eq_true rfl) ⟨Nat.le_of_ble_eq_true rfl, Nat.le_of_ble_eq_true rfl⟩ ⟨Nat.le_of_ble_eq_true rfl, Nat.le_of_ble_eq_true rfl⟩ rfl (fun v7 M7 hv7 => ?_)
    obtain ⟨rfl, rfl⟩ := hv7
    refine S_icmp_ge (t := 72) (q := 13) dX1_describeLine_10 (by decide) rfl (fun hb10 => ?_) (fun hb10 => ?_)
    · exact absurd hb10 (nI_ge hlt (by omega))
    · refine S_aload_0 (q := 14) dX1_describeLine_13 rfl ?_
      refine S_aload_0 (q := 15) dX1_describeLine_14 rfl ?_
      refine S_iload_1 (q := 16) dX1_describeLine_15 rfl ?_
      refine S_iload_3 (q := 17) dX1_describeLine_16 rfl ?_
      refine S_callV2i (q := 20) dX1_describeLine_17 lk_X1_87 (by first | assumption | rfl) rfl rfl (k_X1_lineCell hg (r := r) (c := c) (by rw [hI.1 g (by omega) (by omega) (by omega)]; exact hr) (by rw [hI.1 g (by omega) (by omega) (by omega)]; exact hcl) hr8 hc8 (show i0 < 16 by omega)) rfl rfl (Nat.le_of_ble_eq_true rfl) ⟨Nat.le_of_ble_eq_true rfl, Nat.le_of_ble_eq_true rfl⟩ ⟨Nat.le_of_ble_eq_true rfl, Nat.le_of_ble_eq_true rfl⟩ rfl (fun v17 M17 hv17 => ?_)
      obtain ⟨rfl, rfl⟩ := hv17
      refine S_callV1i (q := 23) dX1_describeLine_20 lk_X1_95 (by first | assumption | rfl) rfl rfl (k_X1_decidedColor hg (show lnCell r c i0 i < 64 by omega) (by rw [hI.1 _ (by omega) (by omega) (by omega)]; exact (hce _ hcl2).1) (hce _ hcl2).2.2 (hce _ hcl2).2.1) rfl rfl (Nat.le_of_ble_eq_true rfl) ⟨Nat.le_of_ble_eq_true rfl, Nat.le_of_ble_eq_true rfl⟩ ⟨Nat.le_of_ble_eq_true rfl, Nat.le_of_ble_eq_true rfl⟩ rfl (fun v20 M20 hv20 => ?_)
      obtain ⟨rfl, rfl⟩ := hv20
      rw [show pc4 (f (lnCell r c i0 i) - 1) = lco r c f i0 i from rfl]
      refine S_istore_4 (q := 25) dX1_describeLine_23 rfl ?_
      refine S_iload_4 (q := 27) dX1_describeLine_25 rfl ?_
      refine S_if_eq (t := 47) (q := 30) dX1_describeLine_27 (by decide) rfl (fun hb27 => ?_) (fun hb27 => ?_)
      · have hz : lco r c f i0 i = 0 := nI_inj (by omega) (by decide) hb27
        refine S_iload_4 (q := 49) dX1_describeLine_47 rfl ?_
        refine S_if_eq (t := 63) (q := 52) dX1_describeLine_49 (by decide) rfl (fun hb49 => ?_) (fun hb49 => ?_)
        · refine S_iload_4 (q := 65) dX1_describeLine_63 rfl ?_
          refine S_istore_2 (q := 66) dX1_describeLine_65 rfl ?_
          refine S_iinc_3 (q := 69) (nI (i + 1)) dX1_describeLine_66 (inc1 _) rfl ?_
          refine S_goto (t := 4) dX1_describeLine_69 (by decide) ?_
          refine S_fgt4 ?_
          refine ih (i + 1) _ (by omega) hlt ?_
          rw [bkT_0 hz]
          exact hI
        · exact absurd (by rw [hz]; rfl) hb49
      · have hz : lco r c f i0 i ≠ 0 := fun e => hb27 (by rw [e]; rfl)
        refine S_iload_4 (q := 32) dX1_describeLine_30 rfl ?_
        refine S_iload_2 (q := 33) dX1_describeLine_32 rfl ?_
        refine S_icmp_ne (t := 47) (q := 36) dX1_describeLine_33 (by decide) rfl (fun hb33 => ?_) (fun hb33 => ?_)
        · have hne : ¬ (1 ≤ i ∧ lco r c f i0 i = lco r c f i0 (i - 1)) := fun ⟨y1, y2⟩ => hb33 (by rw [if_neg (by omega), y2])
          refine S_iload_4 (q := 49) dX1_describeLine_47 rfl ?_
          refine S_if_eq (t := 63) (q := 52) dX1_describeLine_49 (by decide) rfl (fun hb49 => ?_) (fun hb49 => ?_)
          · exact absurd (nI_inj (by omega) (by decide) hb49) hz
          · refine S_aload_0 (q := 53) dX1_describeLine_52 rfl ?_
            refine S_getR (q := 56) dX1_describeLine_53 fl_X1_24 (by first | assumption | rfl) (by rfl) rfl ?_
            refine S_iload_1 (q := 57) dX1_describeLine_56 rfl ?_
            refine S_iconst (q := 58) (nI 1) dX1_describeLine_57 (by decide) rfl ?_
            refine S_iload_4 (q := 60) dX1_describeLine_58 rfl ?_
            refine S_callV3v (q := 63) dX1_describeLine_60 lk_X1_101 (by first | assumption | rfl) rfl rfl (k_X0_append hg.2.1 (show i0 < 16 by omega) (n := (bkT (lco r c f i0) i).1) hI.2.2.2.1 (by omega)) rfl rfl (Nat.le_of_ble_eq_true rfl) ⟨Nat.le_of_ble_eq_true rfl, Nat.le_of_ble_eq_true rfl⟩ ⟨Nat.le_of_ble_eq_true rfl, Nat.le_of_ble_eq_true rfl⟩ rfl (fun v60 M60 hv60 => ?_)
            subst hv60
            refine S_iload_4 (q := 65) dX1_describeLine_63 rfl ?_
            refine S_istore_2 (q := 66) dX1_describeLine_65 rfl ?_
            refine S_iinc_3 (q := 69) (nI (i + 1)) dX1_describeLine_66 (inc1 _) rfl ?_
            refine S_goto (t := 4) dX1_describeLine_69 (by decide) ?_
            refine S_fgt4 ?_
            refine ih (i + 1) _ (by omega) hlt ?_
            rw [bkT_2 hz hne]
            refine ⟨fun a h1 h2 h3 => ?_, fun a ha => ?_, fun j hj => ⟨?_, ?_⟩, up_s, fun j hj => ?_⟩
            · rw [up_n h1, up_n h3, up_n h2]; exact hI.1 a h1 h2 h3
            · rw [up_eq, if_neg (by omega), up_n (by omega), up_n (by omega)]; exact hI.2.1 a ha
            · rw [up_n (by omega), up_n (by omega), up_eq, if_neg (by omega)]; exact (hI.2.2.1 j hj).1
            · rw [up_n (by omega), up_eq, if_neg (by omega), up_n (by omega)]; exact (hI.2.2.1 j hj).2
            · have hj' : j < (bkT (lco r c f i0) i).1 + 1 := hj
              show _ = nI (upf _ _ _ j) ∧ _ = nI (upf _ _ _ j)
              by_cases e : j = (bkT (lco r c f i0) i).1
              · subst e
                rw [upf_s, upf_s, up_n (by omega), up_n (by omega), up_s, up_n (by omega), up_s]
                exact ⟨rfl, rfl⟩
              · rw [upf_n e, upf_n e, up_n (by omega), up_n (by omega), up_eq, if_neg (by omega), up_n (by omega), up_eq, if_neg (by omega), up_n (by omega)]
                exact hI.2.2.2.2 j (by omega)
        · have heq : lco r c f i0 i = (if i = 0 then 0 else lco r c f i0 (i - 1)) := nI_inj (by omega) (by split <;> first | omega | exact Nat.lt_of_le_of_lt (hlc _ (by omega)) (by decide)) hb33
          have hi1 : 1 ≤ i := by
            rcases Nat.eq_zero_or_pos i with e | e
            · rw [if_pos e] at heq; exact absurd heq hz
            · exact e
          rw [if_neg (by omega)] at heq
          have hN := hbk.2.1 hi1 (by rw [← heq]; exact hz)
          refine S_aload_0 (q := 37) dX1_describeLine_36 rfl ?_
          refine S_getR (q := 40) dX1_describeLine_37 fl_X1_24 (by first | assumption | rfl) (by rfl) rfl ?_
          refine S_iload_1 (q := 41) dX1_describeLine_40 rfl ?_
          refine S_callV1v (q := 44) dX1_describeLine_41 lk_X1_98 (by first | assumption | rfl) rfl rfl (k_X0_lengthenLast hg.2.1 (show i0 < 16 by omega) (n := (bkT (lco r c f i0) i).1 - 1) (by rw [hI.2.2.2.1, show (bkT (lco r c f i0) i).1 - 1 + 1 = (bkT (lco r c f i0) i).1 by omega]) (by omega)) rfl rfl (Nat.le_of_ble_eq_true rfl) ⟨Nat.le_of_ble_eq_true rfl, Nat.le_of_ble_eq_true rfl⟩ ⟨Nat.le_of_ble_eq_true rfl, Nat.le_of_ble_eq_true rfl⟩ rfl (fun v41 M41 hv41 => ?_)
          subst hv41
          refine S_goto (t := 63) dX1_describeLine_44 (by decide) ?_
          refine S_iload_4 (q := 65) dX1_describeLine_63 rfl ?_
          refine S_istore_2 (q := 66) dX1_describeLine_65 rfl ?_
          refine S_iinc_3 (q := 69) (nI (i + 1)) dX1_describeLine_66 (inc1 _) rfl ?_
          refine S_goto (t := 4) dX1_describeLine_69 (by decide) ?_
          refine S_fgt4 ?_
          refine ih (i + 1) _ (by omega) hlt ?_
          rw [bkT_1 hz hi1 heq]
          refine ⟨fun a h1 h2 h3 => ?_, fun a ha => ?_, fun j hj => ⟨?_, ?_⟩, ?_, fun j hj => ?_⟩
          · rw [up_n h2]; exact hI.1 a h1 h2 h3
          · rw [up_n (by omega)]; exact hI.2.1 a ha
          · rw [up_eq, if_neg (by omega)]; exact (hI.2.2.1 j hj).1
          · rw [up_n (by omega)]; exact (hI.2.2.1 j hj).2
          · rw [up_n (by omega)]; exact hI.2.2.2.1
          · have hj' : j < (bkT (lco r c f i0) i).1 := hj
            show _ = nI (upf _ _ _ j) ∧ _
            rw [up_n (show g + 4 ≠ g + 1 + 2 by omega)]
            refine ⟨?_, (hI.2.2.2.2 j hj').2⟩
            by_cases e : j = (bkT (lco r c f i0) i).1 - 1
            · rw [e, upf_s, up_s, (hI.2.2.2.2 _ (by omega)).1, nI_add]
            · rw [upf_n e, up_eq, if_neg (by omega)]; exact (hI.2.2.2.2 j hj').1
/-- the clues of a picture -/
def PIC (M' : Mem) (g r c : Nat) (f : Nat → Nat) (i : Nat) : Prop := (∀ a, a < i → M' (g + 2) a = nI (bkT (lco r c f a) (lnLen r c a)).1 ∧ ∀ j, j < (bkT (lco r c f a) (lnLen r c a)).1 → M' (g + 3) (a * 8 + j) = nI ((bkT (lco r c f a) (lnLen r c a)).2.1 j) ∧ M' (g + 4) (a * 8 + j) = nI ((bkT (lco r c f a) (lnLen r c a)).2.2 j)) ∧ ∀ a, i ≤ a → a < 16 → M' (g + 2) a = nI 0
set_option maxHeartbeats 4000000 in
set_option maxRecDepth 100000 in
theorem k_X1_describePicture {l : Launch} {G : Gd} {b0 : Nat} {lay : Lay} {M : Mem} {g r c : Nat} {f : Nat → Nat} (hg : isG lay g) (hr : M g 0 = nI r) (hcl : M g 1 = nI c) (hr8 : r ≤ 8) (hc8 : c ≤ 8) (hr1 : 1 ≤ r) (hc1 : 1 ≤ c) (hce : CE M (g + 5) (r * c) f)  : Ct l G b0 yX1_describePicture cX1_describePicture 2 none (rmZ 3 69) lay lay M [.ref (b0 + g)] (fun v M' => (∀ a, a ≠ g + 2 → a ≠ g + 3 → a ≠ g + 4 → M' a = M a) ∧ PIC M' g r c f (r + c)) := by
  have h64 := rc64 hr8 hc8
  obtain ⟨hg0, ⟨hq0, hq1, hq2, hq3⟩, hg5⟩ := id hg
  refine Ct.of [some (.ref (b0 + g)), none] (by decide) (Nat.le_of_ble_eq_true rfl) rfl rfl ?_
  refine S_aload_0 (q := 1) dX1_describePicture_0 rfl ?_
  refine S_getR (q := 4) dX1_describePicture_1 fl_X1_24 (by first | assumption | rfl) (by rfl) rfl ?_
  refine S_callV0v (q := 7) dX1_describePicture_4 lk_X1_32 (by first | assumption | rfl) rfl rfl (k_X0_emptyAll hg.2.1) rfl rfl (Nat.le_of_ble_eq_true rfl) ⟨Nat.le_of_ble_eq_true rfl, Nat.le_of_ble_eq_true rfl⟩ ⟨Nat.le_of_ble_eq_true rfl, Nat.le_of_ble_eq_true rfl⟩ rfl (fun v4 M4 hv4 => ?_)
  obtain ⟨e1, e2⟩ := hv4
  refine S_iconst (q := 8) (nI 0) dX1_describePicture_7 (by decide) rfl ?_
  refine S_istore_1 (q := 9) dX1_describePicture_8 rfl ?_
  suffices H : ∀ (d : Nat) (i : Nat) (M1 : Mem), (r + c) - i = d → i ≤ (r + c) → ((∀ a, a ≠ g + 2 → a ≠ g + 3 → a ≠ g + 4 → M1 a = M a) ∧ PIC M1 g r c f (i)) → S l G b0 yX1_describePicture cX1_describePicture 2 none (rmZ 3 69) lay (fun v M' => (∀ a, a ≠ g + 2 → a ≠ g + 3 → a ≠ g + 4 → M' a = M a) ∧ PIC M' g r c f (r + c)) 0 0 0 0 lay 9 [some (.ref (b0 + g)), some (.int (nI (i)))] [] M1 from H _ 0 _ rfl (by omega) ⟨fun a h1 h2 h3 => e1 a h1, fun a ha => absurd ha (Nat.not_lt_zero a), fun a _ ha => e2 a ha⟩
  intro d
  induction d with
  | zero =>
    intro i M1 hd hi hI
    have e : (r + c) = i := by omega
    subst e
    refine S_iload_1 (q := 10) dX1_describePicture_9 rfl ?_
    refine S_aload_0 (q := 11) dX1_describePicture_10 rfl ?_
    refine S_callV0i (q := 14) dX1_describePicture_11 lk_X1_54 (by first | assumption | rfl) rfl rfl (k_X1_lineTotal hg (r := r) (c := c) (by rw [hI.1 g (by omega) (by omega) (by omega)]; exact hr) (by rw [hI.1 g (by omega) (by omega) (by omega)]; exact hcl)) rfl rfl (Nat.le_of_ble_eq_true rfl) ⟨Nat.le_of_ble_eq_true rfl, Nat.le_of_ble_eq_true rfl⟩ ⟨Nat.le_of_ble_eq_true rfl, Nat.le_of_ble_eq_true rfl⟩ rfl (fun v11 M11 hv11 => ?_)
    obtain ⟨rfl, rfl⟩ := hv11
    refine S_icmp_ge (t := 28) (q := 17) dX1_describePicture_14 (by decide) rfl (fun hb14 => ?_) (fun hb14 => ?_)
    · exact S_ret (v := 0) rfl dX1_describePicture_28 rfl hI
    · exact absurd (Int32.le_refl _) hb14
  | succ d ih =>
    intro i M1 hd hi hI
    have hlt : i < (r + c) := by omega
    refine S_iload_1 (q := 10) dX1_describePicture_9 rfl ?_
    refine S_aload_0 (q := 11) dX1_describePicture_10 rfl ?_
    refine S_callV0i (q := 14) dX1_describePicture_11 lk_X1_54 (by first | assumption | rfl) rfl rfl (k_X1_lineTotal hg (r := r) (c := c) (by rw [hI.1 g (by omega) (by omega) (by omega)]; exact hr) (by rw [hI.1 g (by omega) (by omega) (by omega)]; exact hcl)) rfl rfl (Nat.le_of_ble_eq_true rfl) ⟨Nat.le_of_ble_eq_true rfl, Nat.le_of_ble_eq_true rfl⟩ ⟨Nat.le_of_ble_eq_true rfl, Nat.le_of_ble_eq_true rfl⟩ rfl (fun v11 M11 hv11 => ?_)
    obtain ⟨rfl, rfl⟩ := hv11
    refine S_icmp_ge (t := 28) (q := 17) dX1_describePicture_14 (by decide) rfl (fun hb14 => ?_) (fun hb14 => ?_)
    · exact absurd hb14 (nI_ge hlt (by omega))
    · refine S_aload_0 (q := 18) dX1_describePicture_17 rfl ?_
      refine S_iload_1 (q := 19) dX1_describePicture_18 rfl ?_
      refine S_callV1v (q := 22) dX1_describePicture_19 lk_X1_91 (by first | assumption | rfl) rfl rfl (k_X1_describeLine hg (r := r) (c := c) (by rw [hI.1 g (by omega) (by omega) (by omega)]; exact hr) (by rw [hI.1 g (by omega) (by omega) (by omega)]; exact hcl) hr8 hc8 hr1 hc1 hlt (hce.fr (hI.1 _ (by omega) (by omega) (by omega))) (hI.2.2 i (Nat.le_refl _) (by omega))) rfl rfl (Nat.le_of_ble_eq_true rfl) ⟨Nat.le_of_ble_eq_true rfl, Nat.le_of_ble_eq_true rfl⟩ ⟨Nat.le_of_ble_eq_true rfl, Nat.le_of_ble_eq_true rfl⟩ rfl (fun v19 M19 hv19 => ?_)
      obtain ⟨b1, b2, b3, b4, b5⟩ := hv19
      refine S_iinc_1 (q := 25) (nI (i + 1)) dX1_describePicture_22 (inc1 _) rfl ?_
      refine S_goto (t := 9) dX1_describePicture_25 (by decide) ?_
      refine ih (i + 1) _ (by omega) hlt ⟨fun a h1 h2 h3 => by rw [b1 a h1 h2 h3]; exact hI.1 a h1 h2 h3, fun a ha => ?_, fun a h1 h2 => by rw [b2 a (by omega)]; exact hI.2.2 a (by omega) h2⟩
      by_cases e : a = i
      · subst e
        exact ⟨b4, b5⟩
      · obtain ⟨d1, d2⟩ := hI.2.1 a (by omega)
        have hN := (bkT_ok (C := lco r c f a) (lnLen r c a) (fun q hq => clo_le3 _ (hce _ (lnCell_lt (by omega) hq)).2.2 (hce _ (lnCell_lt (by omega) hq)).2.1)).1
        have hl8 := lnLen_le (i := a) hr8 hc8
        refine ⟨by rw [b2 a e]; exact d1, fun j hj => ?_⟩
        obtain ⟨d3, d4⟩ := d2 j hj
        obtain ⟨c3, c4⟩ := b3 (a * 8 + j) (by omega)
        exact ⟨by rw [c3]; exact d3, by rw [c4]; exact d4⟩
