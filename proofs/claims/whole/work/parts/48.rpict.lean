/-- the blocks, as the reference holds them -/
def BLK (M : Mem) (B : Nat × (Nat → Nat) × (Nat → Nat)) : Prop := ∀ j, j < B.1 → M 152 j = nI (B.2.1 j) ∧ M 153 j = nI (B.2.2 j)
set_option maxHeartbeats 4000000 in
set_option maxRecDepth 100000 in
theorem k_X10_blocks {l : Launch} {G : Gd} {b0 : Nat} {M : Mem} {P : Pz} {f : Nat → Nat} {i0 : Nat}  (g0 : M 140 0 = nI P.r) (g1 : M 140 1 = nI P.c) (hP : P.ok) (hce : RCE M 0 P f) (hdd : ∀ x, x < P.r * P.c → pc4 (f x) = 1) (hi0 : i0 < P.r + P.c)  : Ct l G b0 yX10_blocks cX10_blocks 6 (some .int) (rmZ 1 22) LAY LAY M [.ref (b0 + 140), .int (nI i0)] (fun v M' => (∀ a, a ≠ 152 → a ≠ 153 → M' a = M a) ∧ v = nI (bkT (lco P.r P.c f i0) ((lnLen P.r P.c i0))).1 ∧ BLK M' (bkT (lco P.r P.c f i0) ((lnLen P.r P.c i0)))) := by
  have hr1 := hP.r1
  have hr8 := hP.r8
  have hc1 := hP.c1
  have hc8 := hP.c8
  have hi16 : i0 < 16 := by omega
  have hl8 := lnLen_le (i := i0) hr8 hc8
  have hlc : ∀ q, q < lnLen P.r P.c i0 → lco P.r P.c f i0 q ≤ 3 := fun q hq => clo_le3 _ (hce _ (lnCell_lt hi0 hq)).2.2 (hce _ (lnCell_lt hi0 hq)).2.1
  refine Ct.of [some (.ref (b0 + 140)), some (.int (nI i0)), none, none, none, none] (by decide) (Nat.le_of_ble_eq_true rfl) rfl rfl ?_
  refine S_iconst (q := 1) (nI 0) dX10_blocks_0 (by decide) rfl ?_
  refine S_istore_2 (q := 2) dX10_blocks_1 rfl ?_
  refine S_iconst (q := 3) (nI 0) dX10_blocks_2 (by decide) rfl ?_
  refine S_istore_3 (q := 4) dX10_blocks_3 rfl ?_
  refine S_iconst (q := 5) (nI 0) dX10_blocks_4 (by decide) rfl ?_
  refine S_istore_4 (q := 7) dX10_blocks_5 rfl ?_
  suffices H : ∀ (d : Nat) (i : Nat) (M1 : Mem), (lnLen P.r P.c i0) - i = d → i ≤ (lnLen P.r P.c i0) → ((∀ a, a ≠ 152 → a ≠ 153 → M1 a = M a) ∧ BLK M1 (bkT (lco P.r P.c f i0) (i))) → S l G b0 yX10_blocks cX10_blocks 6 (some .int) (rmZ 1 22) LAY (fun v M' => (∀ a, a ≠ 152 → a ≠ 153 → M' a = M a) ∧ v = nI (bkT (lco P.r P.c f i0) ((lnLen P.r P.c i0))).1 ∧ BLK M' (bkT (lco P.r P.c f i0) ((lnLen P.r P.c i0)))) 0 0 0 0 LAY 7 [some (.ref (b0 + 140)), some (.int (nI i0)), some (.int (nI (bkT (lco P.r P.c f i0) (i)).1)), some (.int (nI (if i = 0 then 0 else lco P.r P.c f i0 (i - 1)))), some (.int (nI (i))), none] [] M1 from H _ 0 _ rfl (by omega) ⟨fun _ _ _ => rfl, fun j hj => absurd hj (Nat.not_lt_zero j)⟩
  intro d
  induction d with
  | zero =>
    intro i M1 hd hi hI
    have e : (lnLen P.r P.c i0) = i := by omega
    subst e
    refine S_iload_4 (q := 9) dX10_blocks_7 rfl ?_
    refine S_aload_0 (q := 10) dX10_blocks_9 rfl ?_
    refine S_iload_1 (q := 11) dX10_blocks_10 rfl ?_
    refine S_callV1i (q := 14) dX10_blocks_11 lk_X10_214 (by first | assumption | rfl) rfl rfl (k_X10_size (by rw [hI.1 140 (by decide) (by decide)]; exact g0) (by rw [hI.1 140 (by decide) (by decide)]; exact g1) hr8 hc8 hr1 hc1 hi16) rfl rfl (Nat.le_of_ble_eq_true rfl) ⟨Nat.le_of_ble_eq_true rfl, Nat.le_of_ble_eq_true rfl⟩ ⟨Nat.le_of_ble_eq_true rfl, Nat.le_of_ble_eq_true rfl⟩ rfl (fun v11 M11 hv11 => ?_)
    obtain ⟨e11, rfl⟩ := hv11
    rw [e11]
    refine S_icmp_ge (t := 88) (q := 17) dX10_blocks_14 (by decide) rfl (fun hb14 => ?_) (fun hb14 => ?_)
    · refine S_iload_2 (q := 89) dX10_blocks_88 rfl ?_
      exact S_iret rfl dX10_blocks_89 rfl rfl (⟨hI.1, rfl, hI.2⟩)
    · exact absurd (Int32.le_refl _) hb14
  | succ d ih =>
    intro i M1 hd hi hI
    have hlt : i < (lnLen P.r P.c i0) := by omega
    have hg := hce.ln hi0 hlt
    rw [Nat.zero_add] at hg
    have hG64 := lnG_64 hr8 hc8 hi0 hlt
    have hlci := hlc i hlt
    have hbk := bkT_ok (C := lco P.r P.c f i0) i (fun q hq => hlc q (by omega))
    refine S_iload_4 (q := 9) dX10_blocks_7 rfl ?_
    refine S_aload_0 (q := 10) dX10_blocks_9 rfl ?_
    refine S_iload_1 (q := 11) dX10_blocks_10 rfl ?_
    refine S_callV1i (q := 14) dX10_blocks_11 lk_X10_214 (by first | assumption | rfl) rfl rfl (k_X10_size (by rw [hI.1 140 (by decide) (by decide)]; exact g0) (by rw [hI.1 140 (by decide) (by decide)]; exact g1) hr8 hc8 hr1 hc1 hi16) rfl rfl (Nat.le_of_ble_eq_true rfl) ⟨Nat.le_of_ble_eq_true rfl, Nat.le_of_ble_eq_true rfl⟩ ⟨Nat.le_of_ble_eq_true rfl, Nat.le_of_ble_eq_true rfl⟩ rfl (fun v11 M11 hv11 => ?_)
    obtain ⟨e11, rfl⟩ := hv11
    rw [e11]
    refine S_icmp_ge (t := 88) (q := 17) dX10_blocks_14 (by decide) rfl (fun hb14 => ?_) (fun hb14 => ?_)
    · exact absurd hb14 (nI_ge hlt (by omega))
    · refine S_aload_0 (q := 18) dX10_blocks_17 rfl ?_
      refine S_aload_0 (q := 19) dX10_blocks_18 rfl ?_
      refine S_iload_1 (q := 20) dX10_blocks_19 rfl ?_
      refine S_iload_4 (q := 22) dX10_blocks_20 rfl ?_
      refine S_callV2i (q := 25) dX10_blocks_22 lk_X10_217 (by first | assumption | rfl) rfl rfl (k_X10_cellOf (by rw [hI.1 140 (by decide) (by decide)]; exact g0) (by rw [hI.1 140 (by decide) (by decide)]; exact g1) hr8 hc8 hr1 hc1 hi16) rfl rfl (Nat.le_of_ble_eq_true rfl) ⟨Nat.le_of_ble_eq_true rfl, Nat.le_of_ble_eq_true rfl⟩ ⟨Nat.le_of_ble_eq_true rfl, Nat.le_of_ble_eq_true rfl⟩ rfl (fun v22 M22 hv22 => ?_)
      obtain ⟨e22, rfl⟩ := hv22
      rw [e22]
      refine S_callV1i (q := 28) dX10_blocks_25 lk_X10_201 (by first | assumption | rfl) rfl rfl (k_X10_colorAt (x := lnG P.r P.c i0 i) (by omega) (by rw [hI.1 141 (by decide) (by decide)]; exact hg.1) (hdd _ (lnCell_lt hi0 hlt)) hg.2.2) rfl rfl (Nat.le_of_ble_eq_true rfl) ⟨Nat.le_of_ble_eq_true rfl, Nat.le_of_ble_eq_true rfl⟩ ⟨Nat.le_of_ble_eq_true rfl, Nat.le_of_ble_eq_true rfl⟩ rfl (fun v25 M25 hv25 => ?_)
      obtain ⟨e25, rfl⟩ := hv25
      rw [e25, show clo (f (lnCell P.r P.c i0 i)) = lco P.r P.c f i0 i from rfl]
      refine S_istore_5 (q := 30) dX10_blocks_28 rfl ?_
      refine S_iload_5 (q := 32) dX10_blocks_30 rfl ?_
      refine S_if_le (t := 56) (q := 35) dX10_blocks_32 (by decide) rfl (fun hb32 => ?_) (fun hb32 => ?_)
      · have hz : lco P.r P.c f i0 i = 0 := by have := (nI_leI (b := 0) (by omega) (by decide)).mp hb32; omega
        refine S_iload_5 (q := 58) dX10_blocks_56 rfl ?_
        refine S_if_le (t := 79) (q := 61) dX10_blocks_58 (by decide) rfl (fun hb58 => ?_) (fun hb58 => ?_)
        · refine S_iload_5 (q := 81) dX10_blocks_79 rfl ?_
          refine S_istore_3 (q := 82) dX10_blocks_81 rfl ?_
          refine S_iinc_4 (q := 85) (nI (i + 1)) dX10_blocks_82 (inc1 _) rfl ?_
          refine S_goto (t := 7) dX10_blocks_85 (by decide) ?_
          refine S_fgt5 ?_
          rw [show lco P.r P.c f i0 i = (if i + 1 = 0 then 0 else lco P.r P.c f i0 (i + 1 - 1)) by rw [if_neg (Nat.succ_ne_zero i), Nat.add_sub_cancel]]
          have eb : (bkT (lco P.r P.c f i0) (i + 1)) = (bkT (lco P.r P.c f i0) (i)) := bkT_0 hz
          rw [← eb]
          exact ih (i + 1) M1 (by omega) hlt ⟨hI.1, by rw [eb]; exact hI.2⟩
        · exact absurd ((nI_leI (b := 0) (by omega) (by decide)).mpr (by omega)) hb58
      · have hz : lco P.r P.c f i0 i ≠ 0 := fun e => hb32 ((nI_leI (b := 0) (by omega) (by decide)).mpr (by omega))
        refine S_iload_5 (q := 37) dX10_blocks_35 rfl ?_
        refine S_iload_3 (q := 38) dX10_blocks_37 rfl ?_
        refine S_icmp_ne (t := 56) (q := 41) dX10_blocks_38 (by decide) rfl (fun hb38 => ?_) (fun hb38 => ?_)
        · have hne : ¬ (1 ≤ i ∧ lco P.r P.c f i0 i = lco P.r P.c f i0 (i - 1)) := fun y => hb38 (by rw [if_neg (by omega), ← y.2])
          refine S_iload_5 (q := 58) dX10_blocks_56 rfl ?_
          refine S_if_le (t := 79) (q := 61) dX10_blocks_58 (by decide) rfl (fun hb58 => ?_) (fun hb58 => ?_)
          · exact absurd ((nI_leI (b := 0) (by omega) (by decide)).mp hb58) (by omega)
          · refine S_aload_0 (q := 62) dX10_blocks_61 rfl ?_
            refine S_getR (q := 65) dX10_blocks_62 fl_X10_105 (by first | assumption | rfl) (by rfl) rfl ?_
            refine S_iload_2 (q := 66) dX10_blocks_65 rfl ?_
            refine S_iconst (q := 67) (nI 1) dX10_blocks_66 (by decide) rfl ?_
            refine S_iastE (i := (bkT (lco P.r P.c f i0) (i)).1) (q := 68) dX10_blocks_67 (by first | assumption | rfl) (by first | (simp only [nI_add, pk_mul, nI_1]; done) | rfl) (by omega) (by decide) rfl ?_
            refine S_aload_0 (q := 69) dX10_blocks_68 rfl ?_
            refine S_getR (q := 72) dX10_blocks_69 fl_X10_108 (by first | assumption | rfl) (by rfl) rfl ?_
            refine S_iload_2 (q := 73) dX10_blocks_72 rfl ?_
            refine S_iload_5 (q := 75) dX10_blocks_73 rfl ?_
            refine S_iastE (i := (bkT (lco P.r P.c f i0) (i)).1) (q := 76) dX10_blocks_75 (by first | assumption | rfl) (by first | (simp only [nI_add, pk_mul, nI_1]; done) | rfl) (by omega) (by decide) rfl ?_
            refine S_iinc_2 (q := 79) (nI ((bkT (lco P.r P.c f i0) (i)).1 + 1)) dX10_blocks_76 (inc1 _) rfl ?_
            refine S_iload_5 (q := 81) dX10_blocks_79 rfl ?_
            refine S_istore_3 (q := 82) dX10_blocks_81 rfl ?_
            refine S_iinc_4 (q := 85) (nI (i + 1)) dX10_blocks_82 (inc1 _) rfl ?_
            refine S_goto (t := 7) dX10_blocks_85 (by decide) ?_
            refine S_fgt5 ?_
            rw [show lco P.r P.c f i0 i = (if i + 1 = 0 then 0 else lco P.r P.c f i0 (i + 1 - 1)) by rw [if_neg (Nat.succ_ne_zero i), Nat.add_sub_cancel]]
            have eb : (bkT (lco P.r P.c f i0) (i + 1)) = _ := bkT_2 hz hne
            rw [show (bkT (lco P.r P.c f i0) (i)).1 + 1 = (bkT (lco P.r P.c f i0) (i + 1)).1 by rw [eb]]
            exact ih (i + 1) _ (by omega) hlt ⟨fun a h1 h2 => by rw [up_n h2, up_n h1]; exact hI.1 a h1 h2, fun j hj => (by
              rw [eb] at hj ⊢
              have hj' : j < (bkT (lco P.r P.c f i0) (i)).1 + 1 := hj
              refine ⟨?_, ?_⟩
              · show _ = nI (upf _ _ _ j)
                rw [up_n (by decide)]
                by_cases e : j = (bkT (lco P.r P.c f i0) (i)).1
                · rw [e, up_s, upf_s]
                · rw [up_eq, if_neg (fun y => e y.2), upf_n e]; exact (hI.2 j (by omega)).1
              · show _ = nI (upf _ _ _ j)
                by_cases e : j = (bkT (lco P.r P.c f i0) (i)).1
                · rw [e, up_s, upf_s, if_neg (Nat.succ_ne_zero i), Nat.add_sub_cancel]
                · rw [up_eq, if_neg (fun y => e y.2), upf_n e, up_n (by decide)]; exact (hI.2 j (by omega)).2)⟩
        · have hcc : 1 ≤ i ∧ lco P.r P.c f i0 i = lco P.r P.c f i0 (i - 1) := by
            by_cases e : i = 0
            · rw [if_pos e] at hb38; exact absurd (nI_inj (by omega) (by decide) hb38) hz
            · rw [if_neg e] at hb38; exact ⟨by omega, nI_inj (by omega) (by have := hlc (i - 1) (by omega); omega) hb38⟩
          have hN := (hbk.2.1 hcc.1 (by rw [← hcc.2]; exact hz))
          refine S_aload_0 (q := 42) dX10_blocks_41 rfl ?_
          refine S_getR (q := 45) dX10_blocks_42 fl_X10_105 (by first | assumption | rfl) (by rfl) rfl ?_
          refine S_iload_2 (q := 46) dX10_blocks_45 rfl ?_
          refine S_iconst (q := 47) (nI 1) dX10_blocks_46 (by decide) rfl ?_
          refine S_isub (q := 48) dX10_blocks_47 rfl ?_
          refine S_dup2 (q := 49) dX10_blocks_48 rfl rfl rfl ?_
          refine S_ialdV (i := (bkT (lco P.r P.c f i0) (i)).1 - 1) (val := nI ((bkT (lco P.r P.c f i0) (i)).2.1 ((bkT (lco P.r P.c f i0) (i)).1 - 1))) (q := 50) dX10_blocks_49 (by first | assumption | rfl) (pk_sub hN) (by omega) (by decide) (hI.2 _ (by omega)).1 rfl ?_
          refine S_iconst (q := 51) (nI 1) dX10_blocks_50 (by decide) rfl ?_
          refine S_iadd (q := 52) dX10_blocks_51 rfl ?_
          rw [nI_add]
          refine S_iastE (i := (bkT (lco P.r P.c f i0) (i)).1 - 1) (q := 53) dX10_blocks_52 (by first | assumption | rfl) (pk_sub hN) (by omega) (by decide) rfl ?_
          refine S_goto (t := 79) dX10_blocks_53 (by decide) ?_
          refine S_iload_5 (q := 81) dX10_blocks_79 rfl ?_
          refine S_istore_3 (q := 82) dX10_blocks_81 rfl ?_
          refine S_iinc_4 (q := 85) (nI (i + 1)) dX10_blocks_82 (inc1 _) rfl ?_
          refine S_goto (t := 7) dX10_blocks_85 (by decide) ?_
          refine S_fgt5 ?_
          rw [show lco P.r P.c f i0 i = (if i + 1 = 0 then 0 else lco P.r P.c f i0 (i + 1 - 1)) by rw [if_neg (Nat.succ_ne_zero i), Nat.add_sub_cancel]]
          have eb : (bkT (lco P.r P.c f i0) (i + 1)) = _ := bkT_1 hz hcc.1 hcc.2
          rw [show (bkT (lco P.r P.c f i0) (i)).1 = (bkT (lco P.r P.c f i0) (i + 1)).1 by rw [eb]]
          exact ih (i + 1) _ (by omega) hlt ⟨fun a h1 h2 => by rw [up_n h1]; exact hI.1 a h1 h2, fun j hj => (by
            rw [eb] at hj ⊢
            have hj' : j < (bkT (lco P.r P.c f i0) (i)).1 := hj
            refine ⟨?_, ?_⟩
            · show _ = nI (upf _ _ _ j)
              by_cases e : j = (bkT (lco P.r P.c f i0) (i)).1 - 1
              · rw [e, upf_s]; exact up_s
              · rw [up_eq, if_neg (fun y => e (by rw [y.2])), upf_n e]; exact (hI.2 j hj').1
            · rw [up_n (by decide)]; exact (hI.2 j hj').2)⟩
set_option maxHeartbeats 4000000 in
set_option maxRecDepth 100000 in
theorem k_pushN {l : Launch} {G : Gd} {b0 : Nat} {M : Mem} {i n : Nat} {x z : Int32}  (hR : M 142 i = nI n) (hi : i < 16) (hn : n < 8)  : Ct l G b0 yX10_push cX10_push 4 none (rmZ 0 0) LAY LAY M [.ref (b0 + 140), .int (nI i), .int x, .int z] (fun v M' => M' = up (up (up M 143 (i * 8 + n) x) 144 (i * 8 + n) z) 142 i (nI (n + 1))) := by
  refine Ct.of [some (.ref (b0 + 140)), some (.int (nI i)), some (.int x), some (.int z)] (by decide) (Nat.le_of_ble_eq_true rfl) rfl rfl ?_
  refine S_aload_0 (q := 1) dX10_push_0 rfl ?_
  refine S_getR (q := 4) dX10_push_1 fl_X10_29 (by first | assumption | rfl) (by rfl) rfl ?_
  refine S_bipush (q := 6) (nI 8) dX10_push_4 (by decide) rfl ?_
  refine S_iload_1 (q := 7) dX10_push_6 rfl ?_
  refine S_imul (q := 8) dX10_push_7 rfl ?_
  refine S_aload_0 (q := 9) dX10_push_8 rfl ?_
  refine S_getR (q := 12) dX10_push_9 fl_X10_26 (by first | assumption | rfl) (by rfl) rfl ?_
  refine S_iload_1 (q := 13) dX10_push_12 rfl ?_
  refine S_ialdV (i := i) (val := nI n) (q := 14) dX10_push_13 (by first | assumption | rfl) (by first | (simp only [nI_add, pk_mul, nI_1]; done) | rfl) (by omega) (by decide) hR rfl ?_
  refine S_iadd (q := 15) dX10_push_14 rfl ?_
  refine S_iload_2 (q := 16) dX10_push_15 rfl ?_
  refine S_iastE (i := i * 8 + n) (q := 17) dX10_push_16 (by first | assumption | rfl) (by rw [pk_mul, nI_add]; exact congrArg nI (by omega)) (by omega) (by decide) rfl ?_
  refine S_aload_0 (q := 18) dX10_push_17 rfl ?_
  refine S_getR (q := 21) dX10_push_18 fl_X10_32 (by first | assumption | rfl) (by rfl) rfl ?_
  refine S_bipush (q := 23) (nI 8) dX10_push_21 (by decide) rfl ?_
  refine S_iload_1 (q := 24) dX10_push_23 rfl ?_
  refine S_imul (q := 25) dX10_push_24 rfl ?_
  refine S_aload_0 (q := 26) dX10_push_25 rfl ?_
  refine S_getR (q := 29) dX10_push_26 fl_X10_26 (by first | assumption | rfl) (by rfl) rfl ?_
  refine S_iload_1 (q := 30) dX10_push_29 rfl ?_
  refine S_ialdV (i := i) (val := nI n) (q := 31) dX10_push_30 (by first | assumption | rfl) (by first | (simp only [nI_add, pk_mul, nI_1]; done) | rfl) (by omega) (by decide) (by rw [up_n (by decide)]; exact hR) rfl ?_
  refine S_iadd (q := 32) dX10_push_31 rfl ?_
  refine S_iload_3 (q := 33) dX10_push_32 rfl ?_
  refine S_iastE (i := i * 8 + n) (q := 34) dX10_push_33 (by first | assumption | rfl) (by rw [pk_mul, nI_add]; exact congrArg nI (by omega)) (by omega) (by decide) rfl ?_
  refine S_aload_0 (q := 35) dX10_push_34 rfl ?_
  refine S_getR (q := 38) dX10_push_35 fl_X10_26 (by first | assumption | rfl) (by rfl) rfl ?_
  refine S_iload_1 (q := 39) dX10_push_38 rfl ?_
  refine S_dup2 (q := 40) dX10_push_39 rfl rfl rfl ?_
  refine S_ialdV (i := i) (val := nI n) (q := 41) dX10_push_40 (by first | assumption | rfl) (by first | (simp only [nI_add, pk_mul, nI_1]; done) | rfl) (by omega) (by decide) (by rw [up_n (by decide), up_n (by decide)]; exact hR) rfl ?_
  refine S_iconst (q := 42) (nI 1) dX10_push_41 (by decide) rfl ?_
  refine S_iadd (q := 43) dX10_push_42 rfl ?_
  rw [nI_add]
  refine S_iastE (i := i) (q := 44) dX10_push_43 (by first | assumption | rfl) (by first | (simp only [nI_add, pk_mul, nI_1]; done) | rfl) (by omega) (by decide) rfl ?_
  exact S_ret (v := 0) rfl dX10_push_44 rfl (rfl)
/-- the clues up to a line -/
def TK (M : Mem) (P : Pz) (f : Nat → Nat) (i : Nat) : Prop := (∀ a, a < i → M 142 a = nI (pcP P f |>.R a) ∧ ∀ j, j < (pcP P f).R a → M 143 (a * 8 + j) = nI ((pcP P f).len a j) ∧ M 144 (a * 8 + j) = nI ((pcP P f).col a j))
def KFR (M M1 : Mem) : Prop := (∀ a, a ≠ 152 → a ≠ 153 → (a < 142 ∨ 144 < a) → M1 a = M a)
theorem sm_z {g : Nat → Nat} {n : Nat} : ∀ m, (∀ j, n ≤ j → j < n + m → g j = 0) → sm g (n + m) = sm g n
  | 0, _ => rfl
  | m + 1, h => by
    show sm g (n + m) + g (n + m) = _
    rw [sm_z m (fun j h1 h2 => h j h1 (by omega)), h (n + m) (by omega) (by omega)]; rfl
theorem pcP_R {P : Pz} {f : Nat → Nat} {i : Nat} (hi : i < P.r + P.c) : (pcP P f).R i = (bkT (lco P.r P.c f i) (lnLen P.r P.c i)).1 := if_pos hi
set_option maxHeartbeats 4000000 in
set_option maxRecDepth 100000 in
theorem q_takeLine {l : Launch} {G : Gd} {b0 : Nat} {M : Mem} {Post : PT} {P : Pz} {f : Nat → Nat} {i0 A0 : Nat} (hi16 : i0 < 16) (hR8 : (pcP P f).R i0 ≤ 8) (h0 : M 142 i0 = nI 0) (hB : ∀ j, j < (pcP P f).R i0 → M 152 j = nI ((pcP P f).len i0 j) ∧ M 153 j = nI ((pcP P f).col i0 j)) (k : ∀ M2, ((∀ a, (a < 142 ∨ 144 < a) → M2 a = M a) ∧ (∀ a, a ≠ i0 → M2 142 a = M 142 a) ∧ (∀ j, (j < i0 * 8 ∨ i0 * 8 + 8 ≤ j) → M2 143 j = M 143 j ∧ M2 144 j = M 144 j) ∧ M2 142 i0 = nI (((pcP P f).R i0)) ∧ ∀ j, j < ((pcP P f).R i0) → M2 143 (i0 * 8 + j) = nI ((pcP P f).len i0 j) ∧ M2 144 (i0 * 8 + j) = nI ((pcP P f).col i0 j)) → S l G b0 yX10_take cX10_take 5 (some .int) (rmZ 2 47) LAY Post 0 0 0 0 LAY 59 [some (.ref (b0 + 140)), some (.int (nI A0)), some (.int (nI i0)), some (.int (nI (pcP P f |>.R i0))), some (.int (nI (((pcP P f).R i0))))] [] M2) : S l G b0 yX10_take cX10_take 5 (some .int) (rmZ 2 47) LAY Post 0 0 0 0 LAY 28 [some (.ref (b0 + 140)), some (.int (nI A0)), some (.int (nI i0)), some (.int (nI (pcP P f |>.R i0))), some (.int (nI (0)))] [] M := by
  suffices H : ∀ (d : Nat) (i : Nat) (M1 : Mem), ((pcP P f).R i0) - i = d → i ≤ ((pcP P f).R i0) → ((∀ a, (a < 142 ∨ 144 < a) → M1 a = M a) ∧ (∀ a, a ≠ i0 → M1 142 a = M 142 a) ∧ (∀ j, (j < i0 * 8 ∨ i0 * 8 + 8 ≤ j) → M1 143 j = M 143 j ∧ M1 144 j = M 144 j) ∧ M1 142 i0 = nI (i) ∧ ∀ j, j < i → M1 143 (i0 * 8 + j) = nI ((pcP P f).len i0 j) ∧ M1 144 (i0 * 8 + j) = nI ((pcP P f).col i0 j)) → S l G b0 yX10_take cX10_take 5 (some .int) (rmZ 2 47) LAY Post 0 0 0 0 LAY 28 [some (.ref (b0 + 140)), some (.int (nI A0)), some (.int (nI i0)), some (.int (nI (pcP P f |>.R i0))), some (.int (nI (i)))] [] M1 from H _ 0 _ rfl (by omega) ⟨fun _ _ => rfl, fun _ _ => rfl, fun _ _ => ⟨rfl, rfl⟩, h0, fun j hj => absurd hj (Nat.not_lt_zero j)⟩
  intro d
  induction d with
  | zero =>
    intro i M1 hd hi hI
    have e : ((pcP P f).R i0) = i := by omega
    subst e
    refine S_iload_4 (q := 30) dX10_take_28 rfl ?_
    refine S_iload_3 (q := 31) dX10_take_30 rfl ?_
    refine S_icmp_ge (t := 59) (q := 34) dX10_take_31 (by decide) rfl (fun hb31 => ?_) (fun hb31 => ?_)
    · exact k M1 hI
    · exact absurd (Int32.le_refl _) hb31
  | succ d ih =>
    intro i M1 hd hi hI
    have hlt : i < ((pcP P f).R i0) := by omega
    refine S_iload_4 (q := 30) dX10_take_28 rfl ?_
    refine S_iload_3 (q := 31) dX10_take_30 rfl ?_
    refine S_icmp_ge (t := 59) (q := 34) dX10_take_31 (by decide) rfl (fun hb31 => ?_) (fun hb31 => ?_)
    · exact absurd hb31 (nI_ge hlt (by omega))
    · refine S_aload_0 (q := 35) dX10_take_34 rfl ?_
      refine S_iload_2 (q := 36) dX10_take_35 rfl ?_
      refine S_aload_0 (q := 37) dX10_take_36 rfl ?_
      refine S_getR (q := 40) dX10_take_37 fl_X10_105 (by first | assumption | rfl) (by rfl) rfl ?_
      refine S_iload_4 (q := 42) dX10_take_40 rfl ?_
      refine S_ialdV (i := i) (val := nI ((pcP P f).len i0 i)) (q := 43) dX10_take_42 (by first | assumption | rfl) (by first | (simp only [nI_add, pk_mul, nI_1]; done) | rfl) (by omega) (by decide) (by rw [hI.1 152 (by omega)]; exact (hB i hlt).1) rfl ?_
      refine S_aload_0 (q := 44) dX10_take_43 rfl ?_
      refine S_getR (q := 47) dX10_take_44 fl_X10_108 (by first | assumption | rfl) (by rfl) rfl ?_
      refine S_iload_4 (q := 49) dX10_take_47 rfl ?_
      refine S_ialdV (i := i) (val := nI ((pcP P f).col i0 i)) (q := 50) dX10_take_49 (by first | assumption | rfl) (by first | (simp only [nI_add, pk_mul, nI_1]; done) | rfl) (by omega) (by decide) (by rw [hI.1 153 (by omega)]; exact (hB i hlt).2) rfl ?_
      refine S_callV3v (q := 53) dX10_take_50 lk_X10_187 (by first | assumption | rfl) rfl rfl (k_pushN hI.2.2.2.1 hi16 (by omega)) rfl rfl (Nat.le_of_ble_eq_true rfl) ⟨Nat.le_of_ble_eq_true rfl, Nat.le_of_ble_eq_true rfl⟩ ⟨Nat.le_of_ble_eq_true rfl, Nat.le_of_ble_eq_true rfl⟩ rfl (fun v50 M50 hv50 => ?_)
      subst hv50
      refine S_iinc_4 (q := 56) (nI (i + 1)) dX10_take_53 (inc1 _) rfl ?_
      refine S_goto (t := 28) dX10_take_56 (by decide) ?_
      exact ih (i + 1) _ (by omega) hlt ⟨fun a ha => by rw [up_n (by omega), up_n (by omega), up_n (by omega)]; exact hI.1 a ha, fun a ha => by rw [up_eq, if_neg (by omega), up_n (by decide), up_n (by decide)]; exact hI.2.1 a ha, fun j hj => ⟨by rw [up_n (by decide), up_n (by decide), up_eq, if_neg (by omega)]; exact (hI.2.2.1 j hj).1, by rw [up_n (by decide), up_eq, if_neg (by omega), up_n (by decide)]; exact (hI.2.2.1 j hj).2⟩, up_s, fun j hj => by
        by_cases e : j = i
        · rw [e]; exact ⟨by rw [up_n (by decide), up_n (by decide), up_s], by rw [up_n (by decide), up_s]⟩
        · have := hI.2.2.2.2 j (by omega)
          exact ⟨by rw [up_n (by decide), up_n (by decide), up_eq, if_neg (by omega)]; exact this.1, by rw [up_n (by decide), up_eq, if_neg (by omega), up_n (by decide)]; exact this.2⟩⟩
set_option maxHeartbeats 4000000 in
set_option maxRecDepth 100000 in
theorem k_X10_take {l : Launch} {G : Gd} {b0 : Nat} {M : Mem} {P : Pz} {f : Nat → Nat}  (g0 : M 140 0 = nI P.r) (g1 : M 140 1 = nI P.c) (hP : P.ok) (hce : RCE M 0 P f) (hdd : ∀ x, x < P.r * P.c → pc4 (f x) = 1)  : Ct l G b0 yX10_take cX10_take 5 (some .int) (rmZ 2 47) LAY LAY M [.ref (b0 + 140)] (fun v M' => KFR M M' ∧ TK M' P f (P.r + P.c) ∧ (∀ a, P.r + P.c ≤ a → M' 142 a = M 142 a) ∧ v = nI (sm (pcP P f).R (P.r + P.c))) := by
  have hr1 := hP.r1
  have hr8 := hP.r8
  have hc1 := hP.c1
  have hc8 := hP.c8
  refine Ct.of [some (.ref (b0 + 140)), none, none, none, none] (by decide) (Nat.le_of_ble_eq_true rfl) rfl rfl ?_
  refine S_iconst (q := 1) (nI 0) dX10_take_0 (by decide) rfl ?_
  refine S_istore_1 (q := 2) dX10_take_1 rfl ?_
  refine S_iconst (q := 3) (nI 0) dX10_take_2 (by decide) rfl ?_
  refine S_istore_2 (q := 4) dX10_take_3 rfl ?_
  suffices H : ∀ (d : Nat) (i : Nat) (M1 : Mem), (P.r + P.c) - i = d → i ≤ (P.r + P.c) → (KFR M M1 ∧ TK M1 P f (i) ∧ ∀ a, i ≤ a → M1 142 a = M 142 a) → S l G b0 yX10_take cX10_take 5 (some .int) (rmZ 2 47) LAY (fun v M' => KFR M M' ∧ TK M' P f (P.r + P.c) ∧ (∀ a, P.r + P.c ≤ a → M' 142 a = M 142 a) ∧ v = nI (sm (pcP P f).R (P.r + P.c))) 0 0 0 0 LAY 4 [some (.ref (b0 + 140)), some (.int (nI (sm (pcP P f).R (i)))), some (.int (nI (i))), none, none] [] M1 from H _ 0 _ rfl (by omega) ⟨fun _ _ _ _ => rfl, fun a ha => absurd ha (Nat.not_lt_zero a), fun _ _ => rfl⟩
  intro d
  induction d with
  | zero =>
    intro i M1 hd hi hI
    have e : (P.r + P.c) = i := by omega
    subst e
    refine S_iload_2 (q := 5) dX10_take_4 rfl ?_
    refine S_aload_0 (q := 6) dX10_take_5 rfl ?_
    refine S_callV0i (q := 9) dX10_take_6 lk_X10_168 (by first | assumption | rfl) rfl rfl (k_X10_lines (by rw [hI.1 140 (by decide) (by decide) (by decide)]; exact g0) (by rw [hI.1 140 (by decide) (by decide) (by decide)]; exact g1)) rfl rfl (Nat.le_of_ble_eq_true rfl) ⟨Nat.le_of_ble_eq_true rfl, Nat.le_of_ble_eq_true rfl⟩ ⟨Nat.le_of_ble_eq_true rfl, Nat.le_of_ble_eq_true rfl⟩ rfl (fun v6 M6 hv6 => ?_)
    obtain ⟨e6, rfl⟩ := hv6
    rw [e6]
    refine S_icmp_ge (t := 69) (q := 12) dX10_take_9 (by decide) rfl (fun hb9 => ?_) (fun hb9 => ?_)
    · refine S_iload_1 (q := 70) dX10_take_69 rfl ?_
      exact S_iret rfl dX10_take_70 rfl rfl (⟨hI.1, hI.2.1, hI.2.2, rfl⟩)
    · exact absurd (Int32.le_refl _) hb9
  | succ d ih =>
    intro i M1 hd hi hI
    have hlt : i < (P.r + P.c) := by omega
    have hi16 : i < 16 := by omega
    have hR8 : (pcP P f).R i ≤ 8 := ((pcP_gd hP hce.gf).1.cl i).1
    refine S_iload_2 (q := 5) dX10_take_4 rfl ?_
    refine S_aload_0 (q := 6) dX10_take_5 rfl ?_
    refine S_callV0i (q := 9) dX10_take_6 lk_X10_168 (by first | assumption | rfl) rfl rfl (k_X10_lines (by rw [hI.1 140 (by decide) (by decide) (by decide)]; exact g0) (by rw [hI.1 140 (by decide) (by decide) (by decide)]; exact g1)) rfl rfl (Nat.le_of_ble_eq_true rfl) ⟨Nat.le_of_ble_eq_true rfl, Nat.le_of_ble_eq_true rfl⟩ ⟨Nat.le_of_ble_eq_true rfl, Nat.le_of_ble_eq_true rfl⟩ rfl (fun v6 M6 hv6 => ?_)
    obtain ⟨e6, rfl⟩ := hv6
    rw [e6]
    refine S_icmp_ge (t := 69) (q := 12) dX10_take_9 (by decide) rfl (fun hb9 => ?_) (fun hb9 => ?_)
    · exact absurd hb9 (nI_ge hlt (by omega))
    · refine S_aload_0 (q := 13) dX10_take_12 rfl ?_
      refine S_iload_2 (q := 14) dX10_take_13 rfl ?_
      refine S_callV1i (q := 17) dX10_take_14 lk_X10_262 (by first | assumption | rfl) rfl rfl (k_X10_blocks (by rw [hI.1 140 (by decide) (by decide) (by decide)]; exact g0) (by rw [hI.1 140 (by decide) (by decide) (by decide)]; exact g1) hP (fun x hx => by rw [hI.1 141 (by decide) (by decide) (by decide)]; exact hce x hx) hdd hlt) rfl rfl (Nat.le_of_ble_eq_true rfl) ⟨Nat.le_of_ble_eq_true rfl, Nat.le_of_ble_eq_true rfl⟩ ⟨Nat.le_of_ble_eq_true rfl, Nat.le_of_ble_eq_true rfl⟩ rfl (fun v14 M14 hv14 => ?_)
      obtain ⟨hs1, rfl, hs3⟩ := hv14
      have hs3' : ∀ j, j < (pcP P f).R i → M14 152 j = nI ((pcP P f).len i j) ∧ M14 153 j = nI ((pcP P f).col i j) := fun j hj => by rw [pcP_R hlt] at hj; exact hs3 j hj
      rw [← pcP_R (P := P) (f := f) hlt]
      refine S_istore_3 (q := 18) dX10_take_17 rfl ?_
      refine S_aload_0 (q := 19) dX10_take_18 rfl ?_
      refine S_getR (q := 22) dX10_take_19 fl_X10_26 (by first | assumption | rfl) (by rfl) rfl ?_
      refine S_iload_2 (q := 23) dX10_take_22 rfl ?_
      refine S_iconst (q := 24) (nI 0) dX10_take_23 (by decide) rfl ?_
      refine S_iastE (i := i) (q := 25) dX10_take_24 (by first | assumption | rfl) (by first | (simp only [nI_add, pk_mul, nI_1]; done) | rfl) (by omega) (by decide) rfl ?_
      refine S_iconst (q := 26) (nI 0) dX10_take_25 (by decide) rfl ?_
      refine S_istore_4 (q := 28) dX10_take_26 rfl ?_
      refine q_takeLine (P := P) (f := f) (i0 := i) hi16 hR8 up_s (fun j hj => by rw [up_n (by decide), up_n (by decide)]; exact hs3' j hj) (fun M2 hM => ?_)
      refine S_iload_1 (q := 60) dX10_take_59 rfl ?_
      refine S_iload_3 (q := 61) dX10_take_60 rfl ?_
      refine S_iadd (q := 62) dX10_take_61 rfl ?_
      rw [nI_add]
      refine S_istore_1 (q := 63) dX10_take_62 rfl ?_
      refine S_iinc_2 (q := 66) (nI (i + 1)) dX10_take_63 (inc1 _) rfl ?_
      refine S_goto (t := 4) dX10_take_66 (by decide) ?_
      refine S_fgt3 ?_
      refine S_fgt4 ?_
      exact ih (i + 1) M2 (by omega) hlt ⟨fun a h1 h2 h3 => by rw [hM.1 a h3, up_n (by omega), hs1 a h1 h2]; exact hI.1 a h1 h2 h3, fun a ha => (by
        by_cases e : a = i
        · rw [e]; exact ⟨hM.2.2.2.1, hM.2.2.2.2⟩
        · have h1 := hI.2.1 a (by omega)
          have hRa := (pcP_gd hP hce.gf).1.cl a
          refine ⟨by rw [hM.2.1 a e, up_eq, if_neg (by omega), hs1 142 (by decide) (by decide)]; exact h1.1, fun j hj => ?_⟩
          have h2 := h1.2 j hj
          have h3 := hM.2.2.1 (a * 8 + j) (by omega)
          exact ⟨by rw [h3.1, up_n (by decide), hs1 143 (by decide) (by decide)]; exact h2.1, by rw [h3.2, up_n (by decide), hs1 144 (by decide) (by decide)]; exact h2.2⟩), fun a ha => by rw [hM.2.1 a (by omega), up_eq, if_neg (by omega), hs1 142 (by decide) (by decide)]; exact hI.2.2 a (by omega)⟩
theorem TK.clu {M : Mem} {P : Pz} {f : Nat → Nat} (hP : P.ok) (hf : GF P f) (h : TK M P f (P.r + P.c)) (hz : ∀ a, P.r + P.c ≤ a → a < 16 → M 142 a = nI 0) : CLU M 141 (pcP P f) := by
  intro i hi
  have hg := (pcP_gd hP hf).1.cl i
  by_cases e : i < P.r + P.c
  · obtain ⟨h1, h2⟩ := h i e
    refine ⟨h1, hg.1, fun j hj => ?_⟩
    have h3 := h2 j hj
    have h4 := hg.2 j hj
    exact ⟨h3.1, h4.1, h4.2.1, h3.2, h4.2.2.1, h4.2.2.2⟩
  · have eR : (pcP P f).R i = 0 := if_neg e
    exact ⟨by rw [eR]; exact hz i (by omega) hi, by rw [eR]; exact Nat.zero_le _, fun j hj => by rw [eR] at hj; exact absurd hj (Nat.not_lt_zero j)⟩
theorem pcP_sm {P : Pz} {f : Nat → Nat} (hP : P.ok) : sm (pcP P f).R 16 = sm (pcP P f).R (P.r + P.c) := by
  have hr8 := hP.r8
  have hc8 := hP.c8
  have h := sm_z (g := (pcP P f).R) (n := P.r + P.c) (16 - (P.r + P.c)) (fun j h1 _ => if_neg (Nat.not_lt.mpr h1))
  rw [show P.r + P.c + (16 - (P.r + P.c)) = 16 by omega] at h
  exact h
theorem dec_all {P : Pz} {f : Nat → Nat} (h : sm (dc1 f) (P.r * P.c) = P.r * P.c) : ∀ x, x < P.r * P.c → pc4 (f x) = 1 := adec_iff.mp h
theorem dec_ge {f : Nat → Nat} {n : Nat} : (n ≤ sm (dc1 f) n) ↔ sm (dc1 f) n = n := by
  have := sm_le (f := dc1 f) (n := n) (b := 1) (fun j _ => dc1_le f j)
  omega
theorem RGr.pic {M M1 : Mem} {P : Pz} {f f1 : Nat → Nat} (h : RGr M P f) (h0 : ∀ k, k ≤ 2 → M1 140 k = M 140 k) (hce : RCE M1 0 P f1) (hc : CLU M1 141 (pcP P f1)) : RGr M1 (pcP P f1) f1 := ⟨by rw [h0 0 (by decide)]; exact h.1, by rw [h0 1 (by decide)]; exact h.2.1, by rw [h0 2 (by decide)]; exact h.2.2.1, hc, hce⟩
set_option maxHeartbeats 4000000 in
set_option maxRecDepth 100000 in
theorem k_X10_takeClues {l : Launch} {G : Gd} {b0 : Nat} {M : Mem} {A : Ab}  (hC : RR M A) (hk : A.ok)  : Ct l G b0 yX10_takeClues cX10_takeClues 1 (some .int) (rmZ 3 71) LAY LAY M [.ref (b0 + 140)] (fun v M' => RSR M (o_take A) v M') := by
  obtain ⟨⟨g0, g1, g2, gcu, gce⟩, hru, hhi, hbad, hask, htx, hfo, hsn, htb⟩ := id hC
  have hP := hk.P
  have hr1 := hP.r1
  have hr8 := hP.r8
  have hc1 := hP.c1
  have hc8 := hP.c8
  have hk1 := hP.k1
  have hk3 := hP.k3
  have h64 := rc64 hr8 hc8
  have hH8 := hk.H8
  have hN : A.N = A.P.r + A.P.c := rfl
  have hsm := sm_le (f := dc1 A.f) (n := A.P.r * A.P.c) (b := 1) (fun j _ => dc1_le A.f j)
  refine Ct.of [some (.ref (b0 + 140))] (by decide) (Nat.le_of_ble_eq_true rfl) rfl rfl ?_
  refine S_aload_0 (q := 1) dX10_takeClues_0 rfl ?_
  refine S_iconst (q := 2) (nI 0) dX10_takeClues_1 (by decide) rfl ?_
  refine S_callV1i (q := 5) dX10_takeClues_2 lk_X10_211 (by first | assumption | rfl) rfl rfl (k_X10_decidedIn g0 g1 hP (by decide) gce) rfl rfl (Nat.le_of_ble_eq_true rfl) ⟨Nat.le_of_ble_eq_true rfl, Nat.le_of_ble_eq_true rfl⟩ ⟨Nat.le_of_ble_eq_true rfl, Nat.le_of_ble_eq_true rfl⟩ rfl (fun v2 M2 hv2 => ?_)
  obtain ⟨e2, rfl⟩ := hv2
  rw [e2]
  refine S_aload_0 (q := 6) dX10_takeClues_5 rfl ?_
  refine S_getI (q := 9) dX10_takeClues_6 fl_X10_7 (by first | assumption | rfl) (by rfl) rfl ?_
  rw [g0]
  refine S_aload_0 (q := 10) dX10_takeClues_9 rfl ?_
  refine S_getI (q := 13) dX10_takeClues_10 fl_X10_13 (by first | assumption | rfl) (by rfl) rfl ?_
  rw [g1]
  refine S_imul (q := 14) dX10_takeClues_13 rfl ?_
  rw [pk_mul]
  refine S_icmp_ge (t := 20) (q := 17) dX10_takeClues_14 (by decide) rfl (fun hb14 => ?_) (fun hb14 => ?_)
  · have hdd := dec_ge.mp ((nI_leI (by omega) (by omega)).mp hb14)
    refine S_aload_0 (q := 21) dX10_takeClues_20 rfl ?_
    refine S_callV0v (q := 24) dX10_takeClues_21 lk_X10_184 (by first | assumption | rfl) rfl rfl (k_X10_keep hC hk) rfl rfl (Nat.le_of_ble_eq_true rfl) ⟨Nat.le_of_ble_eq_true rfl, Nat.le_of_ble_eq_true rfl⟩ ⟨Nat.le_of_ble_eq_true rfl, Nat.le_of_ble_eq_true rfl⟩ rfl (fun v21 M21 hv21 => ?_)
    have hp : KPT M M21 A := hv21
    have hG : RGr M21 A.P A.f := hC.1.fr hP (fun k hk => hp.2.1 k (by omega)) (fun a a1 a2 => hp.1 a (by omega) (by omega)) (fun x _ => by rw [hp.1 141 (by decide) (by decide)])
    refine S_aload_0 (q := 25) dX10_takeClues_24 rfl ?_
    refine S_callV0i (q := 28) dX10_takeClues_25 lk_X10_265 (by first | assumption | rfl) rfl rfl (k_X10_take (P := A.P) (f := A.f) hG.1 hG.2.1 hP hG.2.2.2.2 (dec_all hdd)) rfl rfl (Nat.le_of_ble_eq_true rfl) ⟨Nat.le_of_ble_eq_true rfl, Nat.le_of_ble_eq_true rfl⟩ ⟨Nat.le_of_ble_eq_true rfl, Nat.le_of_ble_eq_true rfl⟩ rfl (fun v25 M25 hv25 => ?_)
    obtain ⟨hs1, hs2, hs3, rfl⟩ := hv25
    have hcl : CLU M25 141 (pcP A.P A.f) := hs2.clu hP gce.gf (fun a h1 h2 => by rw [hs3 a h1, (hG.2.2.2.1 a h2).1, hk.z a h1])
    have h140 : M25 140 = M21 140 := hs1 140 (by decide) (by decide) (by decide)
    have h141 : M25 141 = M21 141 := hs1 141 (by decide) (by decide) (by decide)
    exact S_iret rfl dX10_takeClues_28 rfl rfl (RSR.to (A := A.sG (pcP A.P A.f) A.f A.ps) (hC.grid (fun k hk2 => by rw [h140, hp.2.1 k (by omega)]) (fun a ha => by rw [hs1 a (by omega) (by omega) (by omega), hp.1 a (by omega) (by omega)]) (hG.pic (fun k _ => by rw [h140]) (fun x hx => by rw [h141]; exact hG.2.2.2.2 x hx) hcl) ((RHs.fr hp.2.2 hk.ps.1 (by rw [h140]) (fun a a1 a2 => hs1 a (by omega) (by omega) (by omega))).wc rfl rfl rfl)) (fun a ha => by rw [hs1 a (by omega) (by omega) (by omega), hp.1 a (by omega) (by omega)]) (by unfold o_take; rw [if_pos hdd, pcP_sm hP]))
  · have hdd : ¬ sm (dc1 A.f) (A.P.r * A.P.c) = A.P.r * A.P.c := fun e => hb14 ((nI_leI (by omega) (by omega)).mpr (dec_ge.mpr e))
    refine S_bipush (q := 19) (-6) dX10_takeClues_17 (by decide) rfl ?_
    exact S_iret rfl dX10_takeClues_19 rfl rfl (RSR.same hC (by unfold o_take; rw [if_neg hdd]))
set_option maxHeartbeats 4000000 in
set_option maxRecDepth 100000 in
theorem k_X10_clearCells {l : Launch} {G : Gd} {b0 : Nat} {M : Mem} {A : Ab}  (hC : RR M A) (hk : A.ok)  : Ct l G b0 yX10_clearCells cX10_clearCells 2 (some .int) (rmZ 2 45) LAY LAY M [.ref (b0 + 140)] (fun v M' => RSR M (o_clear A) v M') := by
  obtain ⟨⟨g0, g1, g2, gcu, gce⟩, hru, hhi, hbad, hask, htx, hfo, hsn, htb⟩ := id hC
  have hP := hk.P
  have hr1 := hP.r1
  have hr8 := hP.r8
  have hc1 := hP.c1
  have hc8 := hP.c8
  have hk1 := hP.k1
  have hk3 := hP.k3
  have h64 := rc64 hr8 hc8
  have hH8 := hk.H8
  have hN : A.N = A.P.r + A.P.c := rfl
  refine Ct.of [some (.ref (b0 + 140)), none] (by decide) (Nat.le_of_ble_eq_true rfl) rfl rfl ?_
  refine S_aload_0 (q := 1) dX10_clearCells_0 rfl ?_
  refine S_iconst (q := 2) (nI 0) dX10_clearCells_1 (by decide) rfl ?_
  refine S_callV1i (q := 5) dX10_clearCells_2 lk_X10_211 (by first | assumption | rfl) rfl rfl (k_X10_decidedIn g0 g1 hP (by decide) gce) rfl rfl (Nat.le_of_ble_eq_true rfl) ⟨Nat.le_of_ble_eq_true rfl, Nat.le_of_ble_eq_true rfl⟩ ⟨Nat.le_of_ble_eq_true rfl, Nat.le_of_ble_eq_true rfl⟩ rfl (fun v2 M2 hv2 => ?_)
  obtain ⟨e2, rfl⟩ := hv2
  rw [e2]
  refine S_istore_1 (q := 6) dX10_clearCells_5 rfl ?_
  refine S_aload_0 (q := 7) dX10_clearCells_6 rfl ?_
  refine S_callV0v (q := 10) dX10_clearCells_7 lk_X10_165 (by first | assumption | rfl) rfl rfl (k_X10_open g2 hk3) rfl rfl (Nat.le_of_ble_eq_true rfl) ⟨Nat.le_of_ble_eq_true rfl, Nat.le_of_ble_eq_true rfl⟩ ⟨Nat.le_of_ble_eq_true rfl, Nat.le_of_ble_eq_true rfl⟩ rfl (fun v7 M7 hv7 => ?_)
  refine S_aload_0 (q := 11) dX10_clearCells_10 rfl ?_
  refine S_iconst (q := 12) (nI 0) dX10_clearCells_11 (by decide) rfl ?_
  refine S_putI (q := 15) dX10_clearCells_12 fp_X10_35 (by first | assumption | rfl) (by rfl) rfl (by rfl) rfl ?_
  refine S_iload_1 (q := 16) dX10_clearCells_15 rfl ?_
  exact S_iret rfl dX10_clearCells_16 rfl rfl (RSR.to (A := A.sG A.P (fun _ => 2 ^ (A.P.k + 1) - 1) []) (hC.grid (fun k hk2 => by rw [up_eq, if_neg (by omega), hv7.1 140 (by decide)]) (fun a ha => by rw [up_n (by omega), hv7.1 a (by omega)]) (hC.1.ce (fun k hk2 => by rw [up_eq, if_neg (by omega), hv7.1 140 (by decide)]) (fun a a1 a2 => by rw [up_n (by omega), hv7.1 a (by omega)]) (fun x hx => ⟨by rw [up_n (by decide), Nat.zero_add]; exact hv7.2.2 _ (gx_64 hr8 hc8 hc1 hx).1, (fl_16 hk3).1, (fl_16 hk3).2⟩)) (RHs.nil up_s)) (fun a ha => by rw [up_n (by omega), hv7.1 a (by omega)]) rfl)
set_option maxHeartbeats 4000000 in
set_option maxRecDepth 100000 in
theorem q_drawRow {l : Launch} {G : Gd} {b0 : Nat} {M : Mem} {Post : PT} {A : Ab} {s : Int32} {i0 : Nat} {M0 : Mem} (hk : A.ok) (g1 : M0 140 1 = nI A.P.c) (g2 : M0 140 2 = nI A.P.k) (hi0 : i0 < A.P.r) (hf0 : ∀ a, a ≠ 141 → M a = M0 a) (hd0 : ∀ x, x < i0 * A.P.c + 0 → M 141 (gx A.P.c x) = nI (2 ^ drC s A.P.k x)) (k : ∀ M2, (∀ a, a ≠ 141 → M2 a = M0 a) → (∀ x, x < i0 * A.P.c + A.P.c → M2 141 (gx A.P.c x) = nI (2 ^ drC s A.P.k x)) → S l G b0 yX10_drawPicture cX10_drawPicture 7 (some .int) (rmZ 3 71) LAY Post 0 0 0 0 LAY 87 [some (.ref (b0 + 140)), some (.int s), some (.int (lcg s (i0 * A.P.c + A.P.c))), some (.int (nI (sm (fun x => if drC s A.P.k x = 0 then 0 else 1) (i0 * A.P.c + A.P.c)))), some (.int (nI i0)), some (.int (nI A.P.c)), none] [] M2) : S l G b0 yX10_drawPicture cX10_drawPicture 7 (some .int) (rmZ 3 71) LAY Post 0 0 0 0 LAY 19 [some (.ref (b0 + 140)), some (.int s), some (.int (lcg s (i0 * A.P.c + (0)))), some (.int (nI (sm (fun x => if drC s A.P.k x = 0 then 0 else 1) (i0 * A.P.c + (0))))), some (.int (nI i0)), some (.int (nI (0))), none] [] M := by
  have hP := hk.P
  have hr8 := hP.r8
  have hc8 := hP.c8
  have hc1 := hP.c1
  have hk3 := hP.k3
  have h64 := rc64 hr8 hc8
  suffices H : ∀ (d : Nat) (i : Nat) (M1 : Mem), A.P.c - i = d → i ≤ A.P.c → ((∀ a, a ≠ 141 → M1 a = M0 a) ∧ (∀ x, x < i0 * A.P.c + (i) → M1 141 (gx A.P.c x) = nI (2 ^ drC s A.P.k x))) → S l G b0 yX10_drawPicture cX10_drawPicture 7 (some .int) (rmZ 3 71) LAY Post 0 0 0 0 LAY 19 [some (.ref (b0 + 140)), some (.int s), some (.int (lcg s (i0 * A.P.c + (i)))), some (.int (nI (sm (fun x => if drC s A.P.k x = 0 then 0 else 1) (i0 * A.P.c + (i))))), some (.int (nI i0)), some (.int (nI (i))), none] [] M1 from H _ 0 _ rfl (by omega) ⟨hf0, hd0⟩
  intro d
  induction d with
  | zero =>
    intro i M1 hd hi hI
    have e : A.P.c = i := by omega
    subst e
    refine S_iload_5 (q := 21) dX10_drawPicture_19 rfl ?_
    refine S_aload_0 (q := 22) dX10_drawPicture_21 rfl ?_
    refine S_getI (q := 25) dX10_drawPicture_22 fl_X10_13 (by first | assumption | rfl) (by rfl) rfl ?_
    rw [hI.1 140 (by decide), g1]
    refine S_icmp_ge (t := 87) (q := 28) dX10_drawPicture_25 (by decide) rfl (fun hb25 => ?_) (fun hb25 => ?_)
    · refine S_fgt6 ?_
      exact k M1 hI.1 hI.2
    · exact absurd (Int32.le_refl _) hb25
  | succ d ih =>
    intro i M1 hd hi hI
    have hlt : i < A.P.c := by omega
    have hx := cel_lt hi0 hlt
    have hgx : gx A.P.c (i0 * A.P.c + i) = 8 * i0 + i := gx_at hlt
    refine S_iload_5 (q := 21) dX10_drawPicture_19 rfl ?_
    refine S_aload_0 (q := 22) dX10_drawPicture_21 rfl ?_
    refine S_getI (q := 25) dX10_drawPicture_22 fl_X10_13 (by first | assumption | rfl) (by rfl) rfl ?_
    rw [hI.1 140 (by decide), g1]
    refine S_icmp_ge (t := 87) (q := 28) dX10_drawPicture_25 (by decide) rfl (fun hb25 => ?_) (fun hb25 => ?_)
    · exact absurd hb25 (nI_ge hlt (by omega))
    · refine S_iload_2 (q := 29) dX10_drawPicture_28 rfl ?_
      refine S_ldcw (q := 32) _ dX10_drawPicture_29 ko_X10_268 rfl ?_
      refine S_imul (q := 33) dX10_drawPicture_32 rfl ?_
      refine S_sipush (q := 36) (nI 12345) dX10_drawPicture_33 (by decide) rfl ?_
      refine S_iadd (q := 37) dX10_drawPicture_36 rfl ?_
      rw [lcg_s]
      refine S_istore_2 (q := 38) dX10_drawPicture_37 rfl ?_
      refine S_iload_2 (q := 39) dX10_drawPicture_38 rfl ?_
      refine S_bipush (q := 41) (nI 16) dX10_drawPicture_39 (by decide) rfl ?_
      refine S_iushr (q := 42) dX10_drawPicture_41 rfl ?_
      rw [ush16]
      refine S_aload_0 (q := 43) dX10_drawPicture_42 rfl ?_
      refine S_getI (q := 46) dX10_drawPicture_43 fl_X10_16 (by first | assumption | rfl) (by rfl) rfl ?_
      refine S_iconst (q := 47) (nI 1) dX10_drawPicture_46 (by decide) rfl ?_
      refine S_iadd (q := 48) dX10_drawPicture_47 rfl ?_
      rw [hI.1 140 (by decide), g2, nI_add]
      refine S_irem (q := 49) dX10_drawPicture_48 (nI_n0 (show A.P.k + 1 ≠ 0 by omega) (by omega)) rfl ?_
      rw [pk_rem (by have := (lcg s (i0 * A.P.c + i + 1)).toBitVec.isLt; omega) (by omega) (by omega), show (lcg s (i0 * A.P.c + i + 1)).toBitVec.toNat / 65536 % (A.P.k + 1) = drC s A.P.k (i0 * A.P.c + i) from rfl]
      have hd3 := drC_le (s := s) (x := i0 * A.P.c + i) hk3
      refine S_istore_6 (q := 51) dX10_drawPicture_49 rfl ?_
      refine S_aload_0 (q := 52) dX10_drawPicture_51 rfl ?_
      refine S_getR (q := 55) dX10_drawPicture_52 fl_X10_22 (by first | assumption | rfl) (by rfl) rfl ?_
      refine S_bipush (q := 57) (nI 8) dX10_drawPicture_55 (by decide) rfl ?_
      refine S_iload_4 (q := 59) dX10_drawPicture_57 rfl ?_
      refine S_imul (q := 60) dX10_drawPicture_59 rfl ?_
      refine S_iload_5 (q := 62) dX10_drawPicture_60 rfl ?_
      refine S_iadd (q := 63) dX10_drawPicture_62 rfl ?_
      refine S_iconst (q := 64) (nI 1) dX10_drawPicture_63 (by decide) rfl ?_
      refine S_iload_6 (q := 66) dX10_drawPicture_64 rfl ?_
      refine S_ishl (q := 67) dX10_drawPicture_66 rfl ?_
      rw [nI_shl (show drC s A.P.k (i0 * A.P.c + i) < 32 by omega) (by rw [Nat.one_mul]; exact Nat.lt_trans (p2_16 hd3).2 (by decide)), Nat.one_mul]
      refine S_iastE (i := 8 * i0 + i) (q := 68) dX10_drawPicture_67 (by first | assumption | rfl) (by first | (simp only [nI_add, pk_mul, nI_1]; done) | rfl) (by omega) (by decide) rfl ?_
      refine S_iload_3 (q := 69) dX10_drawPicture_68 rfl ?_
      refine S_iload_6 (q := 71) dX10_drawPicture_69 rfl ?_
      refine S_if_le (t := 78) (q := 74) dX10_drawPicture_71 (by decide) rfl (fun hb71 => ?_) (fun hb71 => ?_)
      · have hz : drC s A.P.k (i0 * A.P.c + i) = 0 := by have := (nI_leI (b := 0) (by omega) (by decide)).mp hb71; omega
        have es : sm (fun x => if drC s A.P.k x = 0 then 0 else 1) (i0 * A.P.c + (i + 1)) = sm (fun x => if drC s A.P.k x = 0 then 0 else 1) (i0 * A.P.c + i) := by rw [← Nat.add_assoc, sm_s, if_pos hz]; rfl
        refine S_iconst (q := 79) (nI 0) dX10_drawPicture_78 (by decide) rfl ?_
        refine S_iadd (q := 80) dX10_drawPicture_79 rfl ?_
        refine S_istore_3 (q := 81) dX10_drawPicture_80 rfl ?_
        refine S_iinc_5 (q := 84) (nI (i + 1)) dX10_drawPicture_81 (inc1 _) rfl ?_
        refine S_goto (t := 19) dX10_drawPicture_84 (by decide) ?_
        rw [show ∀ a : Nat, nI a + nI 0 = nI a from fun a => nI_add a 0, ← es]
        refine S_fgt6 ?_
        exact ih (i + 1) _ (by omega) hlt ⟨fun a ha => by rw [up_n ha]; exact hI.1 a ha, fun x hx2 => (by
          rw [up_eq]
          by_cases e : x = i0 * A.P.c + i
          · rw [e, if_pos ⟨rfl, hgx⟩]
          · rw [if_neg (fun y => e (gx_inj hr8 hc8 hc1 (by omega) hx (by rw [y.2, hgx])))]; exact hI.2 x (by omega))⟩
      · have hz : ¬ drC s A.P.k (i0 * A.P.c + i) = 0 := fun e => hb71 ((nI_leI (b := 0) (by omega) (by decide)).mpr (by omega))
        have es : sm (fun x => if drC s A.P.k x = 0 then 0 else 1) (i0 * A.P.c + (i + 1)) = sm (fun x => if drC s A.P.k x = 0 then 0 else 1) (i0 * A.P.c + i) + 1 := by rw [← Nat.add_assoc, sm_s, if_neg hz]
        refine S_iconst (q := 75) (nI 1) dX10_drawPicture_74 (by decide) rfl ?_
        refine S_goto (t := 79) dX10_drawPicture_75 (by decide) ?_
        refine S_iadd (q := 80) dX10_drawPicture_79 rfl ?_
        refine S_istore_3 (q := 81) dX10_drawPicture_80 rfl ?_
        refine S_iinc_5 (q := 84) (nI (i + 1)) dX10_drawPicture_81 (inc1 _) rfl ?_
        refine S_goto (t := 19) dX10_drawPicture_84 (by decide) ?_
        rw [nI_add, ← es]
        refine S_fgt6 ?_
        exact ih (i + 1) _ (by omega) hlt ⟨fun a ha => by rw [up_n ha]; exact hI.1 a ha, fun x hx2 => (by
          rw [up_eq]
          by_cases e : x = i0 * A.P.c + i
          · rw [e, if_pos ⟨rfl, hgx⟩]
          · rw [if_neg (fun y => e (gx_inj hr8 hc8 hc1 (by omega) hx (by rw [y.2, hgx])))]; exact hI.2 x (by omega))⟩
theorem dr_dec {k : Nat} (h : k ≤ 3) : pc4 (2 ^ k) = 1 := by
  rcases (show k = 0 ∨ k = 1 ∨ k = 2 ∨ k = 3 by omega) with rfl | rfl | rfl | rfl <;> decide
set_option maxHeartbeats 4000000 in
set_option maxRecDepth 100000 in
theorem k_X10_drawPicture {l : Launch} {G : Gd} {b0 : Nat} {M : Mem} {A : Ab} {s : Int32}  (hC : RR M A) (hk : A.ok)  : Ct l G b0 yX10_drawPicture cX10_drawPicture 7 (some .int) (rmZ 3 71) LAY LAY M [.ref (b0 + 140), .int s] (fun v M' => RSR M (o_draw A s) v M') := by
  obtain ⟨⟨g0, g1, g2, gcu, gce⟩, hru, hhi, hbad, hask, htx, hfo, hsn, htb⟩ := id hC
  have hP := hk.P
  have hr1 := hP.r1
  have hr8 := hP.r8
  have hc1 := hP.c1
  have hc8 := hP.c8
  have hk1 := hP.k1
  have hk3 := hP.k3
  have h64 := rc64 hr8 hc8
  have hH8 := hk.H8
  have hN : A.N = A.P.r + A.P.c := rfl
  refine Ct.of [some (.ref (b0 + 140)), some (.int s), none, none, none, none, none] (by decide) (Nat.le_of_ble_eq_true rfl) rfl rfl ?_
  refine S_iload_1 (q := 1) dX10_drawPicture_0 rfl ?_
  refine S_istore_2 (q := 2) dX10_drawPicture_1 rfl ?_
  refine S_iconst (q := 3) (nI 0) dX10_drawPicture_2 (by decide) rfl ?_
  refine S_istore_3 (q := 4) dX10_drawPicture_3 rfl ?_
  refine S_iconst (q := 5) (nI 0) dX10_drawPicture_4 (by decide) rfl ?_
  refine S_istore_4 (q := 7) dX10_drawPicture_5 rfl ?_
  suffices H : ∀ (d : Nat) (i : Nat) (M1 : Mem), A.P.r - i = d → i ≤ A.P.r → ((∀ a, a ≠ 141 → M1 a = M a) ∧ (∀ x, x < A.P.c * (i) → M1 141 (gx A.P.c x) = nI (2 ^ drC s A.P.k x))) → S l G b0 yX10_drawPicture cX10_drawPicture 7 (some .int) (rmZ 3 71) LAY (fun v M' => RSR M (o_draw A s) v M') 0 0 0 0 LAY 7 [some (.ref (b0 + 140)), some (.int s), some (.int (lcg s (A.P.c * (i)))), some (.int (nI (sm (fun x => if drC s A.P.k x = 0 then 0 else 1) (A.P.c * (i))))), some (.int (nI (i))), none, none] [] M1 from H _ 0 _ rfl (by omega) ⟨fun _ _ => rfl, fun x hx => absurd hx (Nat.not_lt_zero x)⟩
  intro d
  induction d with
  | zero =>
    intro i M1 hd hi hI
    have e : A.P.r = i := by omega
    subst e
    refine S_iload_4 (q := 9) dX10_drawPicture_7 rfl ?_
    refine S_aload_0 (q := 10) dX10_drawPicture_9 rfl ?_
    refine S_getI (q := 13) dX10_drawPicture_10 fl_X10_7 (by first | assumption | rfl) (by rfl) rfl ?_
    rw [hI.1 140 (by decide), g0]
    refine S_icmp_ge (t := 93) (q := 16) dX10_drawPicture_13 (by decide) rfl (fun hb13 => ?_) (fun hb13 => ?_)
    · have hce : RCE M1 0 A.P (fun x => 2 ^ drC s A.P.k x) := fun x hx => ⟨by rw [Nat.zero_add]; exact hI.2 x (by rw [Nat.mul_comm]; exact hx), (p2_16 (drC_le hk3)).1, (p2_16 (drC_le hk3)).2⟩
      refine S_aload_0 (q := 94) dX10_drawPicture_93 rfl ?_
      refine S_iconst (q := 95) (nI 0) dX10_drawPicture_94 (by decide) rfl ?_
      refine S_putI (q := 98) dX10_drawPicture_95 fp_X10_35 (by first | assumption | rfl) (by rfl) rfl (by rfl) rfl ?_
      refine S_aload_0 (q := 99) dX10_drawPicture_98 rfl ?_
      refine S_callV0i (q := 102) dX10_drawPicture_99 lk_X10_265 (by first | assumption | rfl) rfl rfl (k_X10_take (P := A.P) (f := (fun x => 2 ^ drC s A.P.k x)) (by rw [up_eq, if_neg (by decide), hI.1 140 (by decide)]; exact g0) (by rw [up_eq, if_neg (by decide), hI.1 140 (by decide)]; exact g1) hP (fun x hx => by rw [up_n (by decide)]; exact hce x hx) (fun x _ => dr_dec (drC_le hk3))) rfl rfl (Nat.le_of_ble_eq_true rfl) ⟨Nat.le_of_ble_eq_true rfl, Nat.le_of_ble_eq_true rfl⟩ ⟨Nat.le_of_ble_eq_true rfl, Nat.le_of_ble_eq_true rfl⟩ rfl (fun v99 M99 hv99 => ?_)
      obtain ⟨hs1, hs2, hs3, rfl⟩ := hv99
      have h140 : ∀ k, k ≠ 8 → M99 140 k = M 140 k := fun k hk2 => by rw [hs1 140 (by decide) (by decide) (by decide), up_eq, if_neg (by omega), hI.1 140 (by decide)]
      have hcl : CLU M99 141 (pcP A.P (fun x => 2 ^ drC s A.P.k x)) := hs2.clu hP hce.gf (fun a h1 h2 => by rw [hs3 a h1, up_n (by decide), hI.1 142 (by decide), (gcu a h2).1, hk.z a h1])
      refine S_istore_4 (q := 104) dX10_drawPicture_102 rfl ?_
      refine S_iload_3 (q := 105) dX10_drawPicture_104 rfl ?_
      exact S_iret rfl dX10_drawPicture_105 rfl rfl (RSR.to (A := A.sG (pcP A.P (fun x => 2 ^ drC s A.P.k x)) (fun x => 2 ^ drC s A.P.k x) []) (hC.grid (fun k hk2 => h140 k (by omega)) (fun a ha => by rw [hs1 a (by omega) (by omega) (by omega), up_n (by omega), hI.1 a (by omega)]) (hC.1.pic (fun k hk2 => h140 k (by omega)) (fun x hx => by rw [hs1 141 (by decide) (by decide) (by decide), up_n (by decide)]; exact hce x hx) hcl) (RHs.nil (by rw [hs1 140 (by decide) (by decide) (by decide), up_s]))) (fun a ha => by rw [hs1 a (by omega) (by omega) (by omega), up_n (by omega), hI.1 a (by omega)]) (by unfold o_draw; rw [Nat.mul_comm A.P.r]))
    · exact absurd (Int32.le_refl _) hb13
  | succ d ih =>
    intro i M1 hd hi hI
    have hlt : i < A.P.r := by omega
    refine S_iload_4 (q := 9) dX10_drawPicture_7 rfl ?_
    refine S_aload_0 (q := 10) dX10_drawPicture_9 rfl ?_
    refine S_getI (q := 13) dX10_drawPicture_10 fl_X10_7 (by first | assumption | rfl) (by rfl) rfl ?_
    rw [hI.1 140 (by decide), g0]
    refine S_icmp_ge (t := 93) (q := 16) dX10_drawPicture_13 (by decide) rfl (fun hb13 => ?_) (fun hb13 => ?_)
    · exact absurd hb13 (nI_ge hlt (by omega))
    · refine S_iconst (q := 17) (nI 0) dX10_drawPicture_16 (by decide) rfl ?_
      refine S_istore_5 (q := 19) dX10_drawPicture_17 rfl ?_
      rw [show A.P.c * i = i * A.P.c + 0 from Nat.mul_comm _ _]
      refine q_drawRow (M0 := M) hk g1 g2 hlt hI.1 (fun x hx => hI.2 x (by rw [Nat.mul_comm]; exact hx)) (fun M2 h1 h2 => ?_)
      refine S_iinc_4 (q := 90) (nI (i + 1)) dX10_drawPicture_87 (inc1 _) rfl ?_
      refine S_goto (t := 7) dX10_drawPicture_90 (by decide) ?_
      refine S_fgt5 ?_
      have e1 : i * A.P.c + A.P.c = A.P.c * (i + 1) := by rw [← Nat.succ_mul, Nat.mul_comm]
      rw [e1] at h2 ⊢
      exact ih (i + 1) M2 (by omega) hlt ⟨h1, h2⟩
set_option maxHeartbeats 4000000 in
set_option maxRecDepth 100000 in
theorem q_fmLine {l : Launch} {G : Gd} {b0 : Nat} {M : Mem} {Post : PT} {A : Ab} {i0 : Nat} (hk : A.ok) (hi16 : i0 < 16) (gcu : CLU M 141 A.P) (hB : BLK M (bkT (lco A.P.r A.P.c A.f i0) (lnLen A.P.r A.P.c i0))) (hR8 : (bkT (lco A.P.r A.P.c A.f i0) (lnLen A.P.r A.P.c i0)).1 ≤ 8) (hL : ∀ j, j < (bkT (lco A.P.r A.P.c A.f i0) (lnLen A.P.r A.P.c i0)).1 → (bkT (lco A.P.r A.P.c A.f i0) (lnLen A.P.r A.P.c i0)).2.1 j ≤ 8 ∧ (bkT (lco A.P.r A.P.c A.f i0) (lnLen A.P.r A.P.c i0)).2.2 j ≤ 3) (heR : (bkT (lco A.P.r A.P.c A.f i0) (lnLen A.P.r A.P.c i0)).1 = A.P.R i0) (kt : ∀ t4, (∀ j, j < (bkT (lco A.P.r A.P.c A.f i0) (lnLen A.P.r A.P.c i0)).1 → (bkT (lco A.P.r A.P.c A.f i0) (lnLen A.P.r A.P.c i0)).2.1 j = A.P.len i0 j ∧ (bkT (lco A.P.r A.P.c A.f i0) (lnLen A.P.r A.P.c i0)).2.2 j = A.P.col i0 j) → S l G b0 yX10_firstMismatch cX10_firstMismatch 5 (some .int) (rmZ 2 47) LAY Post 0 0 0 0 LAY 121 [some (.ref (b0 + 140)), some (.int (nI i0)), some (.int (nI (bkT (lco A.P.r A.P.c A.f i0) (lnLen A.P.r A.P.c i0)).1)), some (.int (nI 1)), t4] [] M) (kf : ∀ t4, ¬ (True ∧ ∀ j, j < (bkT (lco A.P.r A.P.c A.f i0) (lnLen A.P.r A.P.c i0)).1 → (bkT (lco A.P.r A.P.c A.f i0) (lnLen A.P.r A.P.c i0)).2.1 j = A.P.len i0 j ∧ (bkT (lco A.P.r A.P.c A.f i0) (lnLen A.P.r A.P.c i0)).2.2 j = A.P.col i0 j) → S l G b0 yX10_firstMismatch cX10_firstMismatch 5 (some .int) (rmZ 2 47) LAY Post 0 0 0 0 LAY 121 [some (.ref (b0 + 140)), some (.int (nI i0)), some (.int (nI (bkT (lco A.P.r A.P.c A.f i0) (lnLen A.P.r A.P.c i0)).1)), some (.int (nI 0)), t4] [] M) : S l G b0 yX10_firstMismatch cX10_firstMismatch 5 (some .int) (rmZ 2 47) LAY Post 0 0 0 0 LAY 55 [some (.ref (b0 + 140)), some (.int (nI i0)), some (.int (nI (bkT (lco A.P.r A.P.c A.f i0) (lnLen A.P.r A.P.c i0)).1)), some (.int (nI 1)), some (.int (nI (0)))] [] M := by
  have hP := hk.P
  have hcl8 := (hP.cl i0).1
  have hcc := (hP.cl i0).2
  suffices H : ∀ (d : Nat) (i : Nat), (bkT (lco A.P.r A.P.c A.f i0) (lnLen A.P.r A.P.c i0)).1 - i = d → i ≤ (bkT (lco A.P.r A.P.c A.f i0) (lnLen A.P.r A.P.c i0)).1 → (∀ j, j < i → (bkT (lco A.P.r A.P.c A.f i0) (lnLen A.P.r A.P.c i0)).2.1 j = A.P.len i0 j ∧ (bkT (lco A.P.r A.P.c A.f i0) (lnLen A.P.r A.P.c i0)).2.2 j = A.P.col i0 j) → S l G b0 yX10_firstMismatch cX10_firstMismatch 5 (some .int) (rmZ 2 47) LAY Post 0 0 0 0 LAY 55 [some (.ref (b0 + 140)), some (.int (nI i0)), some (.int (nI (bkT (lco A.P.r A.P.c A.f i0) (lnLen A.P.r A.P.c i0)).1)), some (.int (nI 1)), some (.int (nI (i)))] [] M from H _ 0 rfl (by omega) (fun j hj => absurd hj (Nat.not_lt_zero j))
  intro d
  induction d with
  | zero =>
    intro i hd hi hI
    have e : (bkT (lco A.P.r A.P.c A.f i0) (lnLen A.P.r A.P.c i0)).1 = i := by omega
    subst e
    refine S_iload_4 (q := 57) dX10_firstMismatch_55 rfl ?_
    refine S_iload_2 (q := 58) dX10_firstMismatch_57 rfl ?_
    refine S_icmp_ge (t := 121) (q := 61) dX10_firstMismatch_58 (by decide) rfl (fun hb58 => ?_) (fun hb58 => ?_)
    · exact kt _ hI
    · exact absurd (Int32.le_refl _) hb58
  | succ d ih =>
    intro i hd hi hI
    have hlt : i < (bkT (lco A.P.r A.P.c A.f i0) (lnLen A.P.r A.P.c i0)).1 := by omega
    have hcu := (gcu i0 hi16).2.2 i (by omega)
    have hcz := hcc i (by omega)
    have hLi := hL i hlt
    refine S_iload_4 (q := 57) dX10_firstMismatch_55 rfl ?_
    refine S_iload_2 (q := 58) dX10_firstMismatch_57 rfl ?_
    refine S_icmp_ge (t := 121) (q := 61) dX10_firstMismatch_58 (by decide) rfl (fun hb58 => ?_) (fun hb58 => ?_)
    · exact absurd hb58 (nI_ge hlt (by omega))
    · refine S_iload_3 (q := 62) dX10_firstMismatch_61 rfl ?_
      refine S_if_eq (t := 121) (q := 65) dX10_firstMismatch_62 (by decide) rfl (fun hb62 => ?_) (fun hb62 => ?_)
      · exact absurd hb62 (by decide)
      · refine S_aload_0 (q := 66) dX10_firstMismatch_65 rfl ?_
        refine S_getR (q := 69) dX10_firstMismatch_66 fl_X10_105 (by first | assumption | rfl) (by rfl) rfl ?_
        refine S_iload_4 (q := 71) dX10_firstMismatch_69 rfl ?_
        refine S_ialdV (i := i) (val := nI ((bkT (lco A.P.r A.P.c A.f i0) (lnLen A.P.r A.P.c i0)).2.1 i)) (q := 72) dX10_firstMismatch_71 (by first | assumption | rfl) (by first | (simp only [nI_add, pk_mul, nI_1]; done) | rfl) (by omega) (by decide) (hB i hlt).1 rfl ?_
        refine S_aload_0 (q := 73) dX10_firstMismatch_72 rfl ?_
        refine S_getR (q := 76) dX10_firstMismatch_73 fl_X10_29 (by first | assumption | rfl) (by rfl) rfl ?_
        refine S_bipush (q := 78) (nI 8) dX10_firstMismatch_76 (by decide) rfl ?_
        refine S_iload_1 (q := 79) dX10_firstMismatch_78 rfl ?_
        refine S_imul (q := 80) dX10_firstMismatch_79 rfl ?_
        refine S_iload_4 (q := 82) dX10_firstMismatch_80 rfl ?_
        refine S_iadd (q := 83) dX10_firstMismatch_82 rfl ?_
        refine S_ialdV (i := i0 * 8 + i) (val := nI (A.P.len i0 i)) (q := 84) dX10_firstMismatch_83 (by first | assumption | rfl) (by rw [pk_mul, nI_add]; exact congrArg nI (by omega)) (by omega) (by decide) hcu.1 rfl ?_
        refine S_icmp_ne (t := 113) (q := 87) dX10_firstMismatch_84 (by decide) rfl (fun hb84 => ?_) (fun hb84 => ?_)
        · have hne : ¬ (bkT (lco A.P.r A.P.c A.f i0) (lnLen A.P.r A.P.c i0)).2.1 i = A.P.len i0 i := fun e => hb84 (by rw [e])
          refine S_iconst (q := 114) (nI 0) dX10_firstMismatch_113 (by decide) rfl ?_
          refine S_istore_3 (q := 115) dX10_firstMismatch_114 rfl ?_
          refine S_iinc_4 (q := 118) (nI (i + 1)) dX10_firstMismatch_115 (inc1 _) rfl ?_
          refine S_goto (t := 55) dX10_firstMismatch_118 (by decide) ?_
          refine S_iload_4 (q := 57) dX10_firstMismatch_55 rfl ?_
          refine S_iload_2 (q := 58) dX10_firstMismatch_57 rfl ?_
          refine S_icmp_ge (t := 121) (q := 61) dX10_firstMismatch_58 (by decide) rfl (fun _ => ?_) (fun _ => ?_)
          · exact kf _ (fun y => hne (y.2 i (by omega)).1)
          · refine S_iload_3 (q := 62) dX10_firstMismatch_61 rfl ?_
            refine S_if_eq (t := 121) (q := 65) dX10_firstMismatch_62 (by decide) rfl (fun _ => ?_) (fun y => absurd rfl y)
            exact kf _ (fun y => hne (y.2 i (by omega)).1)
        · have hq1 : (bkT (lco A.P.r A.P.c A.f i0) (lnLen A.P.r A.P.c i0)).2.1 i = A.P.len i0 i := nI_inj (by omega) (by omega) hb84
          refine S_aload_0 (q := 88) dX10_firstMismatch_87 rfl ?_
          refine S_getR (q := 91) dX10_firstMismatch_88 fl_X10_108 (by first | assumption | rfl) (by rfl) rfl ?_
          refine S_iload_4 (q := 93) dX10_firstMismatch_91 rfl ?_
          refine S_ialdV (i := i) (val := nI ((bkT (lco A.P.r A.P.c A.f i0) (lnLen A.P.r A.P.c i0)).2.2 i)) (q := 94) dX10_firstMismatch_93 (by first | assumption | rfl) (by first | (simp only [nI_add, pk_mul, nI_1]; done) | rfl) (by omega) (by decide) (hB i hlt).2 rfl ?_
          refine S_aload_0 (q := 95) dX10_firstMismatch_94 rfl ?_
          refine S_getR (q := 98) dX10_firstMismatch_95 fl_X10_32 (by first | assumption | rfl) (by rfl) rfl ?_
          refine S_bipush (q := 100) (nI 8) dX10_firstMismatch_98 (by decide) rfl ?_
          refine S_iload_1 (q := 101) dX10_firstMismatch_100 rfl ?_
          refine S_imul (q := 102) dX10_firstMismatch_101 rfl ?_
          refine S_iload_4 (q := 104) dX10_firstMismatch_102 rfl ?_
          refine S_iadd (q := 105) dX10_firstMismatch_104 rfl ?_
          refine S_ialdV (i := i0 * 8 + i) (val := nI (A.P.col i0 i)) (q := 106) dX10_firstMismatch_105 (by first | assumption | rfl) (by rw [pk_mul, nI_add]; exact congrArg nI (by omega)) (by omega) (by decide) hcu.2.2.2.1 rfl ?_
          refine S_icmp_ne (t := 113) (q := 109) dX10_firstMismatch_106 (by decide) rfl (fun hb106 => ?_) (fun hb106 => ?_)
          · have hne2 : ¬ (bkT (lco A.P.r A.P.c A.f i0) (lnLen A.P.r A.P.c i0)).2.2 i = A.P.col i0 i := fun e => hb106 (by rw [e])
            refine S_iconst (q := 114) (nI 0) dX10_firstMismatch_113 (by decide) rfl ?_
            refine S_istore_3 (q := 115) dX10_firstMismatch_114 rfl ?_
            refine S_iinc_4 (q := 118) (nI (i + 1)) dX10_firstMismatch_115 (inc1 _) rfl ?_
            refine S_goto (t := 55) dX10_firstMismatch_118 (by decide) ?_
            refine S_iload_4 (q := 57) dX10_firstMismatch_55 rfl ?_
            refine S_iload_2 (q := 58) dX10_firstMismatch_57 rfl ?_
            refine S_icmp_ge (t := 121) (q := 61) dX10_firstMismatch_58 (by decide) rfl (fun _ => ?_) (fun _ => ?_)
            · exact kf _ (fun y => hne2 (y.2 i (by omega)).2)
            · refine S_iload_3 (q := 62) dX10_firstMismatch_61 rfl ?_
              refine S_if_eq (t := 121) (q := 65) dX10_firstMismatch_62 (by decide) rfl (fun _ => ?_) (fun y => absurd rfl y)
              exact kf _ (fun y => hne2 (y.2 i (by omega)).2)
          · have hq2 : (bkT (lco A.P.r A.P.c A.f i0) (lnLen A.P.r A.P.c i0)).2.2 i = A.P.col i0 i := nI_inj (by omega) (by omega) hb106
            refine S_iconst (q := 110) (nI 1) dX10_firstMismatch_109 (by decide) rfl ?_
            refine S_goto (t := 114) dX10_firstMismatch_110 (by decide) ?_
            refine S_istore_3 (q := 115) dX10_firstMismatch_114 rfl ?_
            refine S_iinc_4 (q := 118) (nI (i + 1)) dX10_firstMismatch_115 (inc1 _) rfl ?_
            refine S_goto (t := 55) dX10_firstMismatch_118 (by decide) ?_
            exact ih (i + 1) (by omega) hlt (fun j hj => by
              by_cases e : j = i
              · rw [e]; exact ⟨hq1, hq2⟩
              · exact hI j (by omega))
set_option maxHeartbeats 4000000 in
set_option maxRecDepth 100000 in
theorem k_X10_firstMismatch {l : Launch} {G : Gd} {b0 : Nat} {M : Mem} {A : Ab}  (hC : RR M A) (hk : A.ok)  : Ct l G b0 yX10_firstMismatch cX10_firstMismatch 5 (some .int) (rmZ 2 47) LAY LAY M [.ref (b0 + 140)] (fun v M' => RSR M (o_fm A) v M') := by
  obtain ⟨⟨g0, g1, g2, gcu, gce⟩, hru, hhi, hbad, hask, htx, hfo, hsn, htb⟩ := id hC
  have hP := hk.P
  have hr1 := hP.r1
  have hr8 := hP.r8
  have hc1 := hP.c1
  have hc8 := hP.c8
  have hk1 := hP.k1
  have hk3 := hP.k3
  have h64 := rc64 hr8 hc8
  have hH8 := hk.H8
  have hN : A.N = A.P.r + A.P.c := rfl
  have hsm := sm_le (f := dc1 A.f) (n := A.P.r * A.P.c) (b := 1) (fun j _ => dc1_le A.f j)
  refine Ct.of [some (.ref (b0 + 140)), none, none, none, none] (by decide) (Nat.le_of_ble_eq_true rfl) rfl rfl ?_
  refine S_aload_0 (q := 1) dX10_firstMismatch_0 rfl ?_
  refine S_iconst (q := 2) (nI 0) dX10_firstMismatch_1 (by decide) rfl ?_
  refine S_callV1i (q := 5) dX10_firstMismatch_2 lk_X10_211 (by first | assumption | rfl) rfl rfl (k_X10_decidedIn g0 g1 hP (by decide) gce) rfl rfl (Nat.le_of_ble_eq_true rfl) ⟨Nat.le_of_ble_eq_true rfl, Nat.le_of_ble_eq_true rfl⟩ ⟨Nat.le_of_ble_eq_true rfl, Nat.le_of_ble_eq_true rfl⟩ rfl (fun v2 M2 hv2 => ?_)
  obtain ⟨e2, rfl⟩ := hv2
  rw [e2]
  refine S_aload_0 (q := 6) dX10_firstMismatch_5 rfl ?_
  refine S_getI (q := 9) dX10_firstMismatch_6 fl_X10_7 (by first | assumption | rfl) (by rfl) rfl ?_
  rw [g0]
  refine S_aload_0 (q := 10) dX10_firstMismatch_9 rfl ?_
  refine S_getI (q := 13) dX10_firstMismatch_10 fl_X10_13 (by first | assumption | rfl) (by rfl) rfl ?_
  rw [g1]
  refine S_imul (q := 14) dX10_firstMismatch_13 rfl ?_
  rw [pk_mul]
  refine S_icmp_ge (t := 20) (q := 17) dX10_firstMismatch_14 (by decide) rfl (fun hb14 => ?_) (fun hb14 => ?_)
  · have hdd := dec_ge.mp ((nI_leI (by omega) (by omega)).mp hb14)
    refine S_iconst (q := 21) (nI 0) dX10_firstMismatch_20 (by decide) rfl ?_
    refine S_istore_1 (q := 22) dX10_firstMismatch_21 rfl ?_
    suffices H : ∀ (d : Nat) (i : Nat) (M1 : Mem), (A.P.r + A.P.c) - i = d → i ≤ (A.P.r + A.P.c) → ((∀ a, a ≠ 152 → a ≠ 153 → M1 a = M a) ∧ fmT A.P A.f (A.P.r + A.P.c - (i)) = fmT A.P A.f (A.P.r + A.P.c)) → S l G b0 yX10_firstMismatch cX10_firstMismatch 5 (some .int) (rmZ 2 47) LAY (fun v M' => RSR M (o_fm A) v M') 0 0 0 0 LAY 22 [some (.ref (b0 + 140)), some (.int (nI (i))), none, none, none] [] M1 from H _ 0 _ rfl (by omega) ⟨fun _ _ _ => rfl, rfl⟩
    intro d
    induction d with
    | zero =>
      intro i M1 hd hi hI
      have e : (A.P.r + A.P.c) = i := by omega
      subst e
      refine S_iload_1 (q := 23) dX10_firstMismatch_22 rfl ?_
      refine S_aload_0 (q := 24) dX10_firstMismatch_23 rfl ?_
      refine S_callV0i (q := 27) dX10_firstMismatch_24 lk_X10_168 (by first | assumption | rfl) rfl rfl (k_X10_lines (by rw [hI.1 140 (by decide) (by decide)]; exact g0) (by rw [hI.1 140 (by decide) (by decide)]; exact g1)) rfl rfl (Nat.le_of_ble_eq_true rfl) ⟨Nat.le_of_ble_eq_true rfl, Nat.le_of_ble_eq_true rfl⟩ ⟨Nat.le_of_ble_eq_true rfl, Nat.le_of_ble_eq_true rfl⟩ rfl (fun v24 M24 hv24 => ?_)
      obtain ⟨e24, rfl⟩ := hv24
      rw [e24]
      refine S_icmp_ge (t := 133) (q := 30) dX10_firstMismatch_27 (by decide) rfl (fun hb27 => ?_) (fun hb27 => ?_)
      · refine S_bipush (q := 135) (-8) dX10_firstMismatch_133 (by decide) rfl ?_
        exact S_iret rfl dX10_firstMismatch_135 rfl rfl (RSR.to (hC.fr hk (fun k _ => by rw [hI.1 140 (by decide) (by decide)]) (fun a ha => hI.1 a (by omega) (by omega)) (fun x _ => by rw [hI.1 141 (by decide) (by decide)])) (fun a ha => hI.1 a (by omega) (by omega)) (by unfold o_fm; rw [if_pos hdd, show fmT A.P A.f A.N = _ from hI.2.symm, Nat.sub_self]; rfl))
      · exact absurd (Int32.le_refl _) hb27
    | succ d ih =>
      intro i M1 hd hi hI
      have hlt : i < (A.P.r + A.P.c) := by omega
      have hi16 : i < 16 := by omega
      have hl8 := lnLen_le (i := i) hr8 hc8
      have hbk := bkT_ok (C := lco A.P.r A.P.c A.f i) (lnLen A.P.r A.P.c i) (fun q hq => clo_le3 _ (gce _ (lnCell_lt hlt hq)).2.2 (gce _ (lnCell_lt hlt hq)).2.1)
      have hwm := wyL_match hP gce.gf hlt (dec_all hdd)
      have hPR := (hP.cl i).1
      refine S_iload_1 (q := 23) dX10_firstMismatch_22 rfl ?_
      refine S_aload_0 (q := 24) dX10_firstMismatch_23 rfl ?_
      refine S_callV0i (q := 27) dX10_firstMismatch_24 lk_X10_168 (by first | assumption | rfl) rfl rfl (k_X10_lines (by rw [hI.1 140 (by decide) (by decide)]; exact g0) (by rw [hI.1 140 (by decide) (by decide)]; exact g1)) rfl rfl (Nat.le_of_ble_eq_true rfl) ⟨Nat.le_of_ble_eq_true rfl, Nat.le_of_ble_eq_true rfl⟩ ⟨Nat.le_of_ble_eq_true rfl, Nat.le_of_ble_eq_true rfl⟩ rfl (fun v24 M24 hv24 => ?_)
      obtain ⟨e24, rfl⟩ := hv24
      rw [e24]
      refine S_icmp_ge (t := 133) (q := 30) dX10_firstMismatch_27 (by decide) rfl (fun hb27 => ?_) (fun hb27 => ?_)
      · exact absurd hb27 (nI_ge hlt (by omega))
      · refine S_aload_0 (q := 31) dX10_firstMismatch_30 rfl ?_
        refine S_iload_1 (q := 32) dX10_firstMismatch_31 rfl ?_
        refine S_callV1i (q := 35) dX10_firstMismatch_32 lk_X10_262 (by first | assumption | rfl) rfl rfl (k_X10_blocks (by rw [hI.1 140 (by decide) (by decide)]; exact g0) (by rw [hI.1 140 (by decide) (by decide)]; exact g1) hP (fun x hx => by rw [hI.1 141 (by decide) (by decide)]; exact gce x hx) (dec_all hdd) hlt) rfl rfl (Nat.le_of_ble_eq_true rfl) ⟨Nat.le_of_ble_eq_true rfl, Nat.le_of_ble_eq_true rfl⟩ ⟨Nat.le_of_ble_eq_true rfl, Nat.le_of_ble_eq_true rfl⟩ rfl (fun v32 M32 hv32 => ?_)
        obtain ⟨hs1, rfl, hs3⟩ := hv32
        have hf2 : ∀ a, a ≠ 152 → a ≠ 153 → M32 a = M a := fun a h1 h2 => by rw [hs1 a h1 h2]; exact hI.1 a h1 h2
        have hcu2 : CLU M32 141 A.P := gcu.fr (hf2 _ (by decide) (by decide)) (hf2 _ (by decide) (by decide)) (hf2 _ (by decide) (by decide))
        refine S_istore_2 (q := 36) dX10_firstMismatch_35 rfl ?_
        refine S_iload_2 (q := 37) dX10_firstMismatch_36 rfl ?_
        refine S_aload_0 (q := 38) dX10_firstMismatch_37 rfl ?_
        refine S_getR (q := 41) dX10_firstMismatch_38 fl_X10_26 (by first | assumption | rfl) (by rfl) rfl ?_
        refine S_iload_1 (q := 42) dX10_firstMismatch_41 rfl ?_
        refine S_ialdV (i := i) (val := nI (A.P.R i)) (q := 43) dX10_firstMismatch_42 (by first | assumption | rfl) (by first | (simp only [nI_add, pk_mul, nI_1]; done) | rfl) (by omega) (by decide) (hcu2 i hi16).1 rfl ?_
        refine S_icmp_ne (t := 50) (q := 46) dX10_firstMismatch_43 (by decide) rfl (fun hb43 => ?_) (fun hb43 => ?_)
        · have hRne : ¬ (bkT (lco A.P.r A.P.c A.f i) (lnLen A.P.r A.P.c i)).1 = A.P.R i := fun e => hb43 (by rw [e])
          have hz : wyL A.P A.f i = 0 := Decidable.byContradiction (fun y => hRne (hwm.mp y).1)
          refine S_iconst (q := 51) (nI 0) dX10_firstMismatch_50 (by decide) rfl ?_
          refine S_istore_3 (q := 52) dX10_firstMismatch_51 rfl ?_
          refine S_iconst (q := 53) (nI 0) dX10_firstMismatch_52 (by decide) rfl ?_
          refine S_istore_4 (q := 55) dX10_firstMismatch_53 rfl ?_
          refine S_iload_4 (q := 57) dX10_firstMismatch_55 rfl ?_
          refine S_iload_2 (q := 58) dX10_firstMismatch_57 rfl ?_
          refine S_icmp_ge (t := 121) (q := 61) dX10_firstMismatch_58 (by decide) rfl (fun _ => ?_) (fun _ => ?_)
          · skip
            refine S_iload_3 (q := 122) dX10_firstMismatch_121 rfl ?_
            refine S_if_ne (t := 127) (q := 125) dX10_firstMismatch_122 (by decide) rfl (fun hb122 => ?_) (fun hb122 => ?_)
            · exact absurd rfl hb122
            · refine S_iload_1 (q := 126) dX10_firstMismatch_125 rfl ?_
              exact S_iret rfl dX10_firstMismatch_126 rfl rfl (RSR.to (hC.fr hk (fun k _ => by rw [hf2 140 (by decide) (by decide)]) (fun a ha => hf2 a (by omega) (by omega)) (fun x _ => by rw [hf2 141 (by decide) (by decide)])) (fun a ha => hf2 a (by omega) (by omega)) (by unfold o_fm; rw [if_pos hdd, show fmT A.P A.f A.N = _ from hI.2.symm, fmT_at hlt, if_pos hz]))
          · refine S_iload_3 (q := 62) dX10_firstMismatch_61 rfl ?_
            refine S_if_eq (t := 121) (q := 65) dX10_firstMismatch_62 (by decide) rfl (fun _ => ?_) (fun y => absurd rfl y)
            refine S_iload_3 (q := 122) dX10_firstMismatch_121 rfl ?_
            refine S_if_ne (t := 127) (q := 125) dX10_firstMismatch_122 (by decide) rfl (fun hb122 => ?_) (fun hb122 => ?_)
            · exact absurd rfl hb122
            · refine S_iload_1 (q := 126) dX10_firstMismatch_125 rfl ?_
              exact S_iret rfl dX10_firstMismatch_126 rfl rfl (RSR.to (hC.fr hk (fun k _ => by rw [hf2 140 (by decide) (by decide)]) (fun a ha => hf2 a (by omega) (by omega)) (fun x _ => by rw [hf2 141 (by decide) (by decide)])) (fun a ha => hf2 a (by omega) (by omega)) (by unfold o_fm; rw [if_pos hdd, show fmT A.P A.f A.N = _ from hI.2.symm, fmT_at hlt, if_pos hz]))
        · have hReq : (bkT (lco A.P.r A.P.c A.f i) (lnLen A.P.r A.P.c i)).1 = A.P.R i := nI_inj (by omega) (by omega) hb43
          refine S_iconst (q := 47) (nI 1) dX10_firstMismatch_46 (by decide) rfl ?_
          refine S_goto (t := 51) dX10_firstMismatch_47 (by decide) ?_
          refine S_istore_3 (q := 52) dX10_firstMismatch_51 rfl ?_
          refine S_iconst (q := 53) (nI 0) dX10_firstMismatch_52 (by decide) rfl ?_
          refine S_istore_4 (q := 55) dX10_firstMismatch_53 rfl ?_
          refine q_fmLine hk hi16 hcu2 hs3 (by omega) (fun j hj => ⟨Nat.le_trans (hbk.2.2 j hj).2.1 hl8, (hbk.2.2 j hj).2.2.2⟩) hReq (fun t4 hy => ?_) (fun t4 hy => ?_)
          · have hz : ¬ wyL A.P A.f i = 0 := hwm.mpr ⟨hReq, fun t ht => hy t (by omega)⟩
            refine S_iload_3 (q := 122) dX10_firstMismatch_121 rfl ?_
            refine S_if_ne (t := 127) (q := 125) dX10_firstMismatch_122 (by decide) rfl (fun hb122 => ?_) (fun hb122 => ?_)
            · refine S_iinc_1 (q := 130) (nI (i + 1)) dX10_firstMismatch_127 (inc1 _) rfl ?_
              refine S_goto (t := 22) dX10_firstMismatch_130 (by decide) ?_
              refine S_fgt2 ?_
              refine S_fgt3 ?_
              refine S_fgt4 ?_
              exact ih (i + 1) M32 (by omega) hlt ⟨hf2, by rw [← hI.2, fmT_at hlt, if_neg hz]⟩
            · exact absurd hb122 (by decide)
          · have hz : wyL A.P A.f i = 0 := Decidable.byContradiction (fun y => hy ⟨trivial, fun j hj => (hwm.mp y).2 j (by omega)⟩)
            refine S_iload_3 (q := 122) dX10_firstMismatch_121 rfl ?_
            refine S_if_ne (t := 127) (q := 125) dX10_firstMismatch_122 (by decide) rfl (fun hb122 => ?_) (fun hb122 => ?_)
            · exact absurd rfl hb122
            · refine S_iload_1 (q := 126) dX10_firstMismatch_125 rfl ?_
              exact S_iret rfl dX10_firstMismatch_126 rfl rfl (RSR.to (hC.fr hk (fun k _ => by rw [hf2 140 (by decide) (by decide)]) (fun a ha => hf2 a (by omega) (by omega)) (fun x _ => by rw [hf2 141 (by decide) (by decide)])) (fun a ha => hf2 a (by omega) (by omega)) (by unfold o_fm; rw [if_pos hdd, show fmT A.P A.f A.N = _ from hI.2.symm, fmT_at hlt, if_pos hz]))
  · have hdd : ¬ sm (dc1 A.f) (A.P.r * A.P.c) = A.P.r * A.P.c := fun e => hb14 ((nI_leI (by omega) (by omega)).mpr (dec_ge.mpr e))
    refine S_bipush (q := 19) (-6) dX10_firstMismatch_17 (by decide) rfl ?_
    exact S_iret rfl dX10_firstMismatch_19 rfl rfl (RSR.same hC (by unfold o_fm; rw [if_neg hdd]))
