section MM
variable {l : Launch} {G : Gd} {b0 : Nat} {y : MethodName} {cc : ByteArray} {nL : Nat} {ret : Option FieldType} {rm : Room} {lay' : Lay} {Post : PT} {mc ms cells slots : Nat} {lay : Lay} {pc q : Nat} {ls : List (Option Value)} {st : List Value} {M : Mem}
def LMmin (own : String) (idx : Nat) : Prop := Cond.methodLink own idx Lib.Math.min.name ∈ TG ∧ Cond.static Lib.Math.min.name ∈ TG ∧ Cond.initialized "java/lang/Math" ∈ TG ∧ Cond.code Lib.Math.min.name Lib.Math.min.code 2 (some .int) ∈ TG
theorem S_mmin {idx : Nat} {x z : Int32} (hd : decode cc pc = .ok (.invokestatic idx, 3)) (hL : LMmin y.cls idx) (hfr : 1 ≤ rm.frames) (hlo : (st.map fun v => v.category).sum + 13 ≤ rm.locals) (hC : cells ≤ rm.cells ∧ slots ≤ rm.slots) (hq : pc + 3 = q) (k : S l G b0 y cc nL ret rm lay' Post mc ms cells slots lay q ls (.int (if z < x then z else x) :: st) M) : S l G b0 y cc nL ret rm lay' Post mc ms cells slots lay pc ls (.int z :: .int x :: st) M := by
  subst hq; intro p e s m args below meth c F hb hz H locs la hw hs hl
  exact va_mmin F.1 F.2.1 (F.2.2.2.1.trans hl.1.symm) F.2.2.2.2.1 (F.2.2.2.2.2.1 _ hL.1) (F.2.2.2.2.2.1 _ hL.2.1) (F.2.2.2.2.2.1 _ hL.2.2.1) (F.2.2.2.2.2.1 _ hL.2.2.2) hfr hlo hC.1 hC.2 hd (k p e s m args below meth c F hb hz H locs la hw hs hl)
def LMmax (own : String) (idx : Nat) : Prop := Cond.methodLink own idx Lib.Math.max.name ∈ TG ∧ Cond.static Lib.Math.max.name ∈ TG ∧ Cond.initialized "java/lang/Math" ∈ TG ∧ Cond.code Lib.Math.max.name Lib.Math.max.code 2 (some .int) ∈ TG
theorem S_mmax {idx : Nat} {x z : Int32} (hd : decode cc pc = .ok (.invokestatic idx, 3)) (hL : LMmax y.cls idx) (hfr : 1 ≤ rm.frames) (hlo : (st.map fun v => v.category).sum + 13 ≤ rm.locals) (hC : cells ≤ rm.cells ∧ slots ≤ rm.slots) (hq : pc + 3 = q) (k : S l G b0 y cc nL ret rm lay' Post mc ms cells slots lay q ls (.int (if x < z then z else x) :: st) M) : S l G b0 y cc nL ret rm lay' Post mc ms cells slots lay pc ls (.int z :: .int x :: st) M := by
  subst hq; intro p e s m args below meth c F hb hz H locs la hw hs hl
  exact va_mmax F.1 F.2.1 (F.2.2.2.1.trans hl.1.symm) F.2.2.2.2.1 (F.2.2.2.2.2.1 _ hL.1) (F.2.2.2.2.2.1 _ hL.2.1) (F.2.2.2.2.2.1 _ hL.2.2.1) (F.2.2.2.2.2.1 _ hL.2.2.2) hfr hlo hC.1 hC.2 hd (k p e s m args below meth c F hb hz H locs la hw hs hl)
end MM
theorem lm_X2_29 : LMmin RX2 29 := ⟨(TG_tab 396 (by decide +kernel) rfl), (TG_tab 397 (by decide +kernel) rfl), (TG_tab 10 (by decide +kernel) rfl), (TG_tab 398 (by decide +kernel) rfl)⟩
theorem lm_X8_13 : LMmax RX8 13 := ⟨(TG_tab 235 (by decide +kernel) rfl), (TG_tab 236 (by decide +kernel) rfl), (TG_tab 10 (by decide +kernel) rfl), (TG_tab 237 (by decide +kernel) rfl)⟩
/-- the candidates of n cells, a mask each -/
def CE (M : Mem) (a n : Nat) (f : Nat → Nat) : Prop := ∀ i, i < n → M a i = nI (f i) ∧ 1 ≤ f i ∧ f i < 16
def dc1 (f : Nat → Nat) (i : Nat) : Nat := if pc4 (f i) = 1 then 1 else 0
theorem rc64 {r c : Nat} (hr8 : r ≤ 8) (hc8 : c ≤ 8) : r * c ≤ 64 := Nat.mul_le_mul hr8 hc8
theorem lnCell_lt {r c i p : Nat} (hi : i < r + c) (hp : p < lnLen r c i) : lnCell r c i p < r * c := by
  unfold lnLen at hp
  unfold lnCell
  by_cases h : i < r
  · rw [if_pos h] at hp ⊢
    calc i * c + p < i * c + c := by omega
      _ = (i + 1) * c := by rw [Nat.succ_mul]
      _ ≤ r * c := Nat.mul_le_mul_right c h
  · rw [if_neg h] at hp ⊢
    calc p * c + (i - r) < p * c + c := by omega
      _ = (p + 1) * c := by rw [Nat.succ_mul]
      _ ≤ r * c := Nat.mul_le_mul_right c hp
theorem lnLen_le {r c i : Nat} (hr8 : r ≤ 8) (hc8 : c ≤ 8) : lnLen r c i ≤ 8 := by unfold lnLen; split <;> omega
set_option maxHeartbeats 4000000 in
set_option maxRecDepth 100000 in
theorem k_X1_decidedTotal {l : Launch} {G : Gd} {b0 : Nat} {lay : Lay} {M : Mem} {g r c : Nat} {f : Nat → Nat} (hg : isG lay g)(hr : M g 0 = nI r) (hcl : M g 1 = nI c) (hr8 : r ≤ 8) (hc8 : c ≤ 8) (hce : CE M (g + 5) (r * c) f) : Ct l G b0 yX1_decidedTotal cX1_decidedTotal 3 (some .int) (rmZ 2 41) lay lay M [.ref (b0 + g)] (fun v M' => M' = M ∧ v = nI (sm (dc1 f) (r * c))) := by
  have h64 := rc64 hr8 hc8
  obtain ⟨hg0, ⟨hq0, hq1, hq2, hq3⟩, hg5⟩ := id hg
  refine Ct.of [some (.ref (b0 + g)), none, none] (by decide) (Nat.le_of_ble_eq_true rfl) rfl rfl ?_
  refine S_iconst (q := 1) (nI 0) dX1_decidedTotal_0 (by decide) rfl ?_
  refine S_istore_1 (q := 2) dX1_decidedTotal_1 rfl ?_
  refine S_iconst (q := 3) (nI 0) dX1_decidedTotal_2 (by decide) rfl ?_
  refine S_istore_2 (q := 4) dX1_decidedTotal_3 rfl ?_
  suffices H : ∀ d i, r * c - i = d → i ≤ r * c → S l G b0 yX1_decidedTotal cX1_decidedTotal 3 (some .int) (rmZ 2 41) lay (fun v M' => M' = M ∧ v = nI (sm (dc1 f) (r * c))) 0 0 0 0 lay 4 [some (.ref (b0 + g)), some (.int (nI (sm (dc1 f) i))), some (.int (nI (i)))] [] M from H _ 0 rfl (Nat.zero_le _)
  intro d
  induction d with
  | zero =>
    intro i hd hi
    have e : i = r * c := by omega
    subst e
    refine S_iload_2 (q := 5) dX1_decidedTotal_4 rfl ?_
    refine S_aload_0 (q := 6) dX1_decidedTotal_5 rfl ?_
    refine S_callV0i (q := 9) dX1_decidedTotal_6 lk_X1_74 (by first | assumption | rfl) rfl rfl (k_X1_cellTotal hg hr hcl) rfl rfl (Nat.le_of_ble_eq_true rfl) ⟨Nat.le_of_ble_eq_true rfl, Nat.le_of_ble_eq_true rfl⟩ ⟨Nat.le_of_ble_eq_true rfl, Nat.le_of_ble_eq_true rfl⟩ rfl (fun v6 M6 hv6 => ?_)
    obtain ⟨rfl, rfl⟩ := hv6
    refine S_icmp_ge (t := 29) (q := 12) dX1_decidedTotal_9 (by decide) rfl (fun hb9 => ?_) (fun hb9 => ?_)
    · refine S_iload_1 (q := 30) dX1_decidedTotal_29 rfl ?_
      exact S_iret rfl dX1_decidedTotal_30 rfl rfl ⟨rfl, rfl⟩
    · exact absurd (Int32.le_refl _) hb9
  | succ d ih =>
    intro i hd hi
    have hlt : i < r * c := by omega
    refine S_iload_2 (q := 5) dX1_decidedTotal_4 rfl ?_
    refine S_aload_0 (q := 6) dX1_decidedTotal_5 rfl ?_
    refine S_callV0i (q := 9) dX1_decidedTotal_6 lk_X1_74 (by first | assumption | rfl) rfl rfl (k_X1_cellTotal hg hr hcl) rfl rfl (Nat.le_of_ble_eq_true rfl) ⟨Nat.le_of_ble_eq_true rfl, Nat.le_of_ble_eq_true rfl⟩ ⟨Nat.le_of_ble_eq_true rfl, Nat.le_of_ble_eq_true rfl⟩ rfl (fun v6 M6 hv6 => ?_)
    obtain ⟨rfl, rfl⟩ := hv6
    refine S_icmp_ge (t := 29) (q := 12) dX1_decidedTotal_9 (by decide) rfl (fun hb9 => ?_) (fun hb9 => ?_)
    · exact absurd hb9 (nI_ge hlt (by omega))
    · refine S_aload_0 (q := 13) dX1_decidedTotal_12 rfl ?_
      refine S_iload_2 (q := 14) dX1_decidedTotal_13 rfl ?_
      refine S_callV1i (q := 17) dX1_decidedTotal_14 lk_X1_77 (by first | assumption | rfl) rfl rfl (k_X1_isDecided hg (show i < 64 by omega) (hce i hlt).1 (hce i hlt).2.2) rfl rfl (Nat.le_of_ble_eq_true rfl) ⟨Nat.le_of_ble_eq_true rfl, Nat.le_of_ble_eq_true rfl⟩ ⟨Nat.le_of_ble_eq_true rfl, Nat.le_of_ble_eq_true rfl⟩ rfl (fun v14 M14 hv14 => ?_)
      obtain ⟨rfl, rfl⟩ := hv14
      refine S_if_eq (t := 23) (q := 20) dX1_decidedTotal_17 (by decide) rfl (fun hb17 => ?_) (fun hb17 => ?_)
      · have e : sm (dc1 f) (i + 1) = sm (dc1 f) i := by
          show sm (dc1 f) i + dc1 f i = _
          rw [show dc1 f i = 0 from if_neg (bI_0.mp hb17)]
          rfl
        refine S_iinc_2 (q := 26) (nI (i + 1)) dX1_decidedTotal_23 (inc1 _) rfl ?_
        refine S_goto (t := 4) dX1_decidedTotal_26 (by decide) ?_
        have hh := ih (i + 1) (by omega) hlt
        rw [e] at hh
        exact hh
      · have e : sm (dc1 f) (i + 1) = sm (dc1 f) i + 1 := by
          show sm (dc1 f) i + dc1 f i = _
          rw [show dc1 f i = 1 from if_pos (bI_n.mp hb17)]
        refine S_iinc_1 (q := 23) (nI (sm (dc1 f) i + 1)) dX1_decidedTotal_20 (inc1 _) rfl ?_
        refine S_iinc_2 (q := 26) (nI (i + 1)) dX1_decidedTotal_23 (inc1 _) rfl ?_
        refine S_goto (t := 4) dX1_decidedTotal_26 (by decide) ?_
        have hh := ih (i + 1) (by omega) hlt
        rw [e] at hh
        exact hh
set_option maxHeartbeats 4000000 in
set_option maxRecDepth 100000 in
theorem k_X1_isAllDecided {l : Launch} {G : Gd} {b0 : Nat} {lay : Lay} {M : Mem} {g r c : Nat} {f : Nat → Nat} (hg : isG lay g)(hr : M g 0 = nI r) (hcl : M g 1 = nI c) (hr8 : r ≤ 8) (hc8 : c ≤ 8) (hce : CE M (g + 5) (r * c) f) : Ct l G b0 yX1_isAllDecided cX1_isAllDecided 1 (some .boolean) (rmZ 3 63) lay lay M [.ref (b0 + g)] (fun v M' => M' = M ∧ v = bI (sm (dc1 f) (r * c) = r * c)) := by
  have h64 := rc64 hr8 hc8
  have hs := sm_le (f := dc1 f) (n := r * c) (b := 1) (fun j _ => by unfold dc1; split <;> omega)
  obtain ⟨hg0, ⟨hq0, hq1, hq2, hq3⟩, hg5⟩ := id hg
  refine Ct.of [some (.ref (b0 + g))] (by decide) (Nat.le_of_ble_eq_true rfl) rfl rfl ?_
  refine S_aload_0 (q := 1) dX1_isAllDecided_0 rfl ?_
  refine S_callV0i (q := 4) dX1_isAllDecided_1 lk_X1_81 (by first | assumption | rfl) rfl rfl (k_X1_decidedTotal hg hr hcl hr8 hc8 hce) rfl rfl (Nat.le_of_ble_eq_true rfl) ⟨Nat.le_of_ble_eq_true rfl, Nat.le_of_ble_eq_true rfl⟩ ⟨Nat.le_of_ble_eq_true rfl, Nat.le_of_ble_eq_true rfl⟩ rfl (fun v1 M1 hv1 => ?_)
  obtain ⟨rfl, rfl⟩ := hv1
  refine S_aload_0 (q := 5) dX1_isAllDecided_4 rfl ?_
  refine S_callV0i (q := 8) dX1_isAllDecided_5 lk_X1_74 (by first | assumption | rfl) rfl rfl (k_X1_cellTotal hg hr hcl) rfl rfl (Nat.le_of_ble_eq_true rfl) ⟨Nat.le_of_ble_eq_true rfl, Nat.le_of_ble_eq_true rfl⟩ ⟨Nat.le_of_ble_eq_true rfl, Nat.le_of_ble_eq_true rfl⟩ rfl (fun v5 M5 hv5 => ?_)
  obtain ⟨rfl, rfl⟩ := hv5
  refine S_icmp_ne (t := 15) (q := 11) dX1_isAllDecided_8 (by decide) rfl (fun hb8 => ?_) (fun hb8 => ?_)
  · have hb8 : ¬ sm (dc1 f) (r * c) = r * c := fun h => hb8 (by rw [h])
    refine S_iconst (q := 16) (nI 0) dX1_isAllDecided_15 (by decide) rfl ?_
    exact S_iret rfl dX1_isAllDecided_16 (by rfl) rfl ⟨rfl, (by first | exact (bI_f hb8).symm | exact (bI_t hb8).symm)⟩
  · have hb8 : sm (dc1 f) (r * c) = r * c := nI_inj (by omega) (by omega) hb8
    refine S_iconst (q := 12) (nI 1) dX1_isAllDecided_11 (by decide) rfl ?_
    refine S_goto (t := 16) dX1_isAllDecided_12 (by decide) ?_
    exact S_iret rfl dX1_isAllDecided_16 (by rfl) rfl ⟨rfl, (by first | exact (bI_f hb8).symm | exact (bI_t hb8).symm)⟩
set_option maxHeartbeats 4000000 in
set_option maxRecDepth 100000 in
theorem k_X1_decidedInLine {l : Launch} {G : Gd} {b0 : Nat} {lay : Lay} {M : Mem} {g r c i0 : Nat} {f : Nat → Nat} (hg : isG lay g)(hr : M g 0 = nI r) (hcl : M g 1 = nI c) (hr8 : r ≤ 8) (hc8 : c ≤ 8) (hi0 : i0 < r + c) (hce : CE M (g + 5) (r * c) f) : Ct l G b0 yX1_decidedInLine cX1_decidedInLine 4 (some .int) (rmZ 2 41) lay lay M [.ref (b0 + g), .int (nI i0)] (fun v M' => M' = M ∧ v = nI (sm (fun p => dc1 f (lnCell r c i0 p)) (lnLen r c i0))) := by
  have h64 := rc64 hr8 hc8
  have hl8 := lnLen_le (i := i0) hr8 hc8
  obtain ⟨hg0, ⟨hq0, hq1, hq2, hq3⟩, hg5⟩ := id hg
  refine Ct.of [some (.ref (b0 + g)), some (.int (nI i0)), none, none] (by decide) (Nat.le_of_ble_eq_true rfl) rfl rfl ?_
  refine S_iconst (q := 1) (nI 0) dX1_decidedInLine_0 (by decide) rfl ?_
  refine S_istore_2 (q := 2) dX1_decidedInLine_1 rfl ?_
  refine S_iconst (q := 3) (nI 0) dX1_decidedInLine_2 (by decide) rfl ?_
  refine S_istore_3 (q := 4) dX1_decidedInLine_3 rfl ?_
  suffices H : ∀ d i, lnLen r c i0 - i = d → i ≤ lnLen r c i0 → S l G b0 yX1_decidedInLine cX1_decidedInLine 4 (some .int) (rmZ 2 41) lay (fun v M' => M' = M ∧ v = nI (sm (fun p => dc1 f (lnCell r c i0 p)) (lnLen r c i0))) 0 0 0 0 lay 4 [some (.ref (b0 + g)), some (.int (nI i0)), some (.int (nI (sm (fun p => dc1 f (lnCell r c i0 p)) i))), some (.int (nI (i)))] [] M from H _ 0 rfl (Nat.zero_le _)
  intro d
  induction d with
  | zero =>
    intro i hd hi
    have e : i = lnLen r c i0 := by omega
    subst e
    refine S_iload_3 (q := 5) dX1_decidedInLine_4 rfl ?_
    refine S_aload_0 (q := 6) dX1_decidedInLine_5 rfl ?_
    refine S_iload_1 (q := 7) dX1_decidedInLine_6 rfl ?_
    refine S_callV1i (q := 10) dX1_decidedInLine_7 lk_X1_84 (by first | assumption | rfl) rfl rfl (k_X1_lineLength hg hr hcl hr8 hc8 (show i0 < 16 by omega)) rfl rfl (Nat.le_of_ble_eq_true rfl) ⟨Nat.le_of_ble_eq_true rfl, Nat.le_of_ble_eq_true rfl⟩ ⟨Nat.le_of_ble_eq_true rfl, Nat.le_of_ble_eq_true rfl⟩ rfl (fun v7 M7 hv7 => ?_)
    obtain ⟨rfl, rfl⟩ := hv7
    refine S_icmp_ge (t := 35) (q := 13) dX1_decidedInLine_10 (by decide) rfl (fun hb10 => ?_) (fun hb10 => ?_)
    · refine S_iload_2 (q := 36) dX1_decidedInLine_35 rfl ?_
      exact S_iret rfl dX1_decidedInLine_36 rfl rfl ⟨rfl, rfl⟩
    · exact absurd (Int32.le_refl _) hb10
  | succ d ih =>
    intro i hd hi
    have hlt : i < lnLen r c i0 := by omega
    have hcl2 := lnCell_lt hi0 hlt
    refine S_iload_3 (q := 5) dX1_decidedInLine_4 rfl ?_
    refine S_aload_0 (q := 6) dX1_decidedInLine_5 rfl ?_
    refine S_iload_1 (q := 7) dX1_decidedInLine_6 rfl ?_
    refine S_callV1i (q := 10) dX1_decidedInLine_7 lk_X1_84 (by first | assumption | rfl) rfl rfl (k_X1_lineLength hg hr hcl hr8 hc8 (show i0 < 16 by omega)) rfl rfl (Nat.le_of_ble_eq_true rfl) ⟨Nat.le_of_ble_eq_true rfl, Nat.le_of_ble_eq_true rfl⟩ ⟨Nat.le_of_ble_eq_true rfl, Nat.le_of_ble_eq_true rfl⟩ rfl (fun v7 M7 hv7 => ?_)
    obtain ⟨rfl, rfl⟩ := hv7
    refine S_icmp_ge (t := 35) (q := 13) dX1_decidedInLine_10 (by decide) rfl (fun hb10 => ?_) (fun hb10 => ?_)
    · exact absurd hb10 (nI_ge hlt (by omega))
    · refine S_aload_0 (q := 14) dX1_decidedInLine_13 rfl ?_
      refine S_aload_0 (q := 15) dX1_decidedInLine_14 rfl ?_
      refine S_iload_1 (q := 16) dX1_decidedInLine_15 rfl ?_
      refine S_iload_3 (q := 17) dX1_decidedInLine_16 rfl ?_
      refine S_callV2i (q := 20) dX1_decidedInLine_17 lk_X1_87 (by first | assumption | rfl) rfl rfl (k_X1_lineCell hg hr hcl hr8 hc8 (show i0 < 16 by omega)) rfl rfl (Nat.le_of_ble_eq_true rfl) ⟨Nat.le_of_ble_eq_true rfl, Nat.le_of_ble_eq_true rfl⟩ ⟨Nat.le_of_ble_eq_true rfl, Nat.le_of_ble_eq_true rfl⟩ rfl (fun v17 M17 hv17 => ?_)
      obtain ⟨rfl, rfl⟩ := hv17
      refine S_callV1i (q := 23) dX1_decidedInLine_20 lk_X1_77 (by first | assumption | rfl) rfl rfl (k_X1_isDecided hg (show lnCell r c i0 i < 64 by omega) (hce _ hcl2).1 (hce _ hcl2).2.2) rfl rfl (Nat.le_of_ble_eq_true rfl) ⟨Nat.le_of_ble_eq_true rfl, Nat.le_of_ble_eq_true rfl⟩ ⟨Nat.le_of_ble_eq_true rfl, Nat.le_of_ble_eq_true rfl⟩ rfl (fun v20 M20 hv20 => ?_)
      obtain ⟨rfl, rfl⟩ := hv20
      refine S_if_eq (t := 29) (q := 26) dX1_decidedInLine_23 (by decide) rfl (fun hb23 => ?_) (fun hb23 => ?_)
      · have e : sm (fun p => dc1 f (lnCell r c i0 p)) (i + 1) = sm (fun p => dc1 f (lnCell r c i0 p)) i := by
          show sm (fun p => dc1 f (lnCell r c i0 p)) i + dc1 f (lnCell r c i0 i) = _
          rw [show dc1 f (lnCell r c i0 i) = 0 from if_neg (bI_0.mp hb23)]
          rfl
        refine S_iinc_3 (q := 32) (nI (i + 1)) dX1_decidedInLine_29 (inc1 _) rfl ?_
        refine S_goto (t := 4) dX1_decidedInLine_32 (by decide) ?_
        have hh := ih (i + 1) (by omega) hlt
        rw [e] at hh
        exact hh
      · have e : sm (fun p => dc1 f (lnCell r c i0 p)) (i + 1) = sm (fun p => dc1 f (lnCell r c i0 p)) i + 1 := by
          show sm (fun p => dc1 f (lnCell r c i0 p)) i + dc1 f (lnCell r c i0 i) = _
          rw [show dc1 f (lnCell r c i0 i) = 1 from if_pos (bI_n.mp hb23)]
        refine S_iinc_2 (q := 29) (nI (sm (fun p => dc1 f (lnCell r c i0 p)) i + 1)) dX1_decidedInLine_26 (inc1 _) rfl ?_
        refine S_iinc_3 (q := 32) (nI (i + 1)) dX1_decidedInLine_29 (inc1 _) rfl ?_
        refine S_goto (t := 4) dX1_decidedInLine_32 (by decide) ?_
        have hh := ih (i + 1) (by omega) hlt
        rw [e] at hh
        exact hh
theorem fillv {k : Nat} (hk : k ≤ 3) : (nI 1 <<< ((nI k + nI 1) &&& 31)) - nI 1 = nI (2 ^ (k + 1) - 1) := by
  have h2 : 2 ^ (k + 1) ≤ 2 ^ 4 := Nat.pow_le_pow_right (by decide) (by omega)
  have h3 : 1 ≤ 2 ^ (k + 1) := Nat.one_le_two_pow
  rw [show (nI k + nI 1 : Int32) = nI (k + 1) from nI_1 k, nI_shl (by omega) (by omega), Nat.one_mul, pk_sub h3]
set_option maxHeartbeats 4000000 in
set_option maxRecDepth 100000 in
theorem k_X1_fillCandidates {l : Launch} {G : Gd} {b0 : Nat} {lay : Lay} {M : Mem} {g k : Nat} (hg : isG lay g)(hk : M g 2 = nI k) (hk3 : k ≤ 3) : Ct l G b0 yX1_fillCandidates cX1_fillCandidates 1 none (rmZ 1 23) lay lay M [.ref (b0 + g)] (fun v M' => (∀ a, a ≠ g + 5 → M' a = M a) ∧ ∀ j, j < 64 → M' (g + 5) j = nI (2 ^ (k + 1) - 1)) := by
  obtain ⟨hg0, ⟨hq0, hq1, hq2, hq3⟩, hg5⟩ := id hg
  refine Ct.of [some (.ref (b0 + g))] (by decide) (Nat.le_of_ble_eq_true rfl) rfl rfl ?_
  refine S_aload_0 (q := 1) dX1_fillCandidates_0 rfl ?_
  refine S_getR (q := 4) dX1_fillCandidates_1 fl_X1_28 (by first | assumption | rfl) (by rfl) rfl ?_
  refine S_iconst (q := 5) (nI 1) dX1_fillCandidates_4 (by decide) rfl ?_
  refine S_aload_0 (q := 6) dX1_fillCandidates_5 rfl ?_
  refine S_getI (q := 9) dX1_fillCandidates_6 fl_X1_18 (by first | assumption | rfl) (by rfl) rfl ?_
  refine S_iconst (q := 10) (nI 1) dX1_fillCandidates_9 (by decide) rfl ?_
  refine S_iadd (q := 11) dX1_fillCandidates_10 rfl ?_
  refine S_ishl (q := 12) dX1_fillCandidates_11 rfl ?_
  refine S_iconst (q := 13) (nI 1) dX1_fillCandidates_12 (by decide) rfl ?_
  refine S_isub (q := 14) dX1_fillCandidates_13 rfl ?_
  rw [hk, fillv hk3]
  refine S_callS2v (q := 17) dX1_fillCandidates_14 lk_X1_38 (k_J7_fill_53178 hg5 (by decide)) rfl rfl (Nat.le_of_ble_eq_true rfl) ⟨Nat.le_of_ble_eq_true rfl, Nat.le_of_ble_eq_true rfl⟩ ⟨Nat.le_of_ble_eq_true rfl, Nat.le_of_ble_eq_true rfl⟩ rfl (fun v14 M14 hv14 => ?_)
  exact S_ret (v := 0) rfl dX1_fillCandidates_17 rfl hv14
set_option maxHeartbeats 4000000 in
set_option maxRecDepth 100000 in
theorem k_X1_start {l : Launch} {G : Gd} {b0 : Nat} {lay : Lay} {M : Mem} {g r c k : Nat} (hg : isG lay g)(hk3 : k ≤ 3) : Ct l G b0 yX1_start cX1_start 4 none (rmZ 2 43) lay lay M [.ref (b0 + g), .int (nI r), .int (nI c), .int (nI k)] (fun v M' => (∀ a, a ≠ g → a ≠ g + 2 → a ≠ g + 5 → M' a = M a) ∧ M' g 0 = nI r ∧ M' g 1 = nI c ∧ M' g 2 = nI k ∧ (∀ j, j < 16 → M' (g + 2) j = nI 0) ∧ ∀ j, j < 64 → M' (g + 5) j = nI (2 ^ (k + 1) - 1)) := by
  obtain ⟨hg0, ⟨hq0, hq1, hq2, hq3⟩, hg5⟩ := id hg
  refine Ct.of [some (.ref (b0 + g)), some (.int (nI r)), some (.int (nI c)), some (.int (nI k))] (by decide) (Nat.le_of_ble_eq_true rfl) rfl rfl ?_
  refine S_aload_0 (q := 1) dX1_start_0 rfl ?_
  refine S_iload_1 (q := 2) dX1_start_1 rfl ?_
  refine S_putI (q := 5) dX1_start_2 fp_X1_9 (by first | assumption | rfl) (by rfl) rfl (by rfl) rfl ?_
  refine S_aload_0 (q := 6) dX1_start_5 rfl ?_
  refine S_iload_2 (q := 7) dX1_start_6 rfl ?_
  refine S_putI (q := 10) dX1_start_7 fp_X1_15 (by first | assumption | rfl) (by rfl) rfl (by rfl) rfl ?_
  refine S_aload_0 (q := 11) dX1_start_10 rfl ?_
  refine S_iload_3 (q := 12) dX1_start_11 rfl ?_
  refine S_putI (q := 15) dX1_start_12 fp_X1_18 (by first | assumption | rfl) (by rfl) rfl (by rfl) rfl ?_
  refine S_aload_0 (q := 16) dX1_start_15 rfl ?_
  refine S_getR (q := 19) dX1_start_16 fl_X1_24 (by first | assumption | rfl) (by rfl) rfl ?_
  refine S_callV0v (q := 22) dX1_start_19 lk_X1_32 (by first | assumption | rfl) rfl rfl (k_X0_emptyAll ⟨hq0, hq1, hq2, hq3⟩) rfl rfl (Nat.le_of_ble_eq_true rfl) ⟨Nat.le_of_ble_eq_true rfl, Nat.le_of_ble_eq_true rfl⟩ ⟨Nat.le_of_ble_eq_true rfl, Nat.le_of_ble_eq_true rfl⟩ rfl (fun v19 M19 hv19 => ?_)
  refine S_aload_0 (q := 23) dX1_start_22 rfl ?_
  refine S_callV0v (q := 26) dX1_start_23 lk_X1_35 (by first | assumption | rfl) rfl rfl (k_X1_fillCandidates hg (k := k) (by rw [hv19.1 g (by omega), up_eq, if_pos ⟨rfl, rfl⟩]) hk3) rfl rfl (Nat.le_of_ble_eq_true rfl) ⟨Nat.le_of_ble_eq_true rfl, Nat.le_of_ble_eq_true rfl⟩ ⟨Nat.le_of_ble_eq_true rfl, Nat.le_of_ble_eq_true rfl⟩ rfl (fun v23 M23 hv23 => ?_)
  exact S_ret (v := 0) rfl dX1_start_26 rfl (by
      obtain ⟨h1, h2⟩ := hv19
      obtain ⟨h3, h4⟩ := hv23
      refine ⟨fun a n1 n2 n3 => ?_, ?_, ?_, ?_, fun j hj => ?_, h4⟩
      · rw [h3 a n3, h1 a n2, up_n n1, up_n n1, up_n n1]
      · rw [h3 g (by omega), h1 g (by omega)]; simp [up_eq]
      · rw [h3 g (by omega), h1 g (by omega)]; simp [up_eq]
      · rw [h3 g (by omega), h1 g (by omega)]; simp [up_eq]
      · rw [h3 (g + 2) (by omega)]; exact h2 j hj)
set_option maxHeartbeats 4000000 in
set_option maxRecDepth 100000 in
theorem k_X1_copyFrom {l : Launch} {G : Gd} {b0 : Nat} {lay : Lay} {M : Mem} {g d : Nat} (hg : isG lay g) (hd : isG lay d) (hgd : g + 6 ≤ d ∨ d + 6 ≤ g) : Ct l G b0 yX1_copyFrom cX1_copyFrom 2 none (rmZ 2 81) lay lay M [.ref (b0 + g), .ref (b0 + d)] (fun v M' => (∀ a, (a < g ∨ g + 6 ≤ a) → M' a = M a) ∧ (∀ j, j < 3 → M' g j = M d j) ∧ (∀ j, j < 16 → M' (g + 2) j = M (d + 2) j) ∧ (∀ j, j < 128 → M' (g + 3) j = M (d + 3) j) ∧ (∀ j, j < 128 → M' (g + 4) j = M (d + 4) j) ∧ ∀ j, j < 64 → M' (g + 5) j = M (d + 5) j) := by
  obtain ⟨hg0, ⟨hq0, hq1, hq2, hq3⟩, hg5⟩ := id hg
  obtain ⟨hd0, ⟨hp0, hp1, hp2, hp3⟩, hd5⟩ := id hd
  refine Ct.of [some (.ref (b0 + g)), some (.ref (b0 + d))] (by decide) (Nat.le_of_ble_eq_true rfl) rfl rfl ?_
  refine S_aload_0 (q := 1) dX1_copyFrom_0 rfl ?_
  refine S_aload_1 (q := 2) dX1_copyFrom_1 rfl ?_
  refine S_getI (q := 5) dX1_copyFrom_2 fl_X1_9 (by first | assumption | rfl) (by rfl) rfl ?_
  refine S_putI (q := 8) dX1_copyFrom_5 fp_X1_9 (by first | assumption | rfl) (by rfl) rfl (by rfl) rfl ?_
  refine S_aload_0 (q := 9) dX1_copyFrom_8 rfl ?_
  refine S_aload_1 (q := 10) dX1_copyFrom_9 rfl ?_
  refine S_getI (q := 13) dX1_copyFrom_10 fl_X1_15 (by first | assumption | rfl) (by rfl) rfl ?_
  refine S_putI (q := 16) dX1_copyFrom_13 fp_X1_15 (by first | assumption | rfl) (by rfl) rfl (by rfl) rfl ?_
  refine S_aload_0 (q := 17) dX1_copyFrom_16 rfl ?_
  refine S_aload_1 (q := 18) dX1_copyFrom_17 rfl ?_
  refine S_getI (q := 21) dX1_copyFrom_18 fl_X1_18 (by first | assumption | rfl) (by rfl) rfl ?_
  refine S_putI (q := 24) dX1_copyFrom_21 fp_X1_18 (by first | assumption | rfl) (by rfl) rfl (by rfl) rfl ?_
  refine S_aload_0 (q := 25) dX1_copyFrom_24 rfl ?_
  refine S_getR (q := 28) dX1_copyFrom_25 fl_X1_24 (by first | assumption | rfl) (by rfl) rfl ?_
  refine S_aload_1 (q := 29) dX1_copyFrom_28 rfl ?_
  refine S_getR (q := 32) dX1_copyFrom_29 fl_X1_24 (by first | assumption | rfl) (by rfl) rfl ?_
  refine S_callV1v (q := 35) dX1_copyFrom_32 lk_X1_44 (by first | assumption | rfl) rfl rfl (k_X0_copyFrom ⟨hq0, hq1, hq2, hq3⟩ ⟨hp0, hp1, hp2, hp3⟩ (by omega)) rfl rfl (Nat.le_of_ble_eq_true rfl) ⟨Nat.le_of_ble_eq_true rfl, Nat.le_of_ble_eq_true rfl⟩ ⟨Nat.le_of_ble_eq_true rfl, Nat.le_of_ble_eq_true rfl⟩ rfl (fun v32 M32 hv32 => ?_)
  refine S_aload_1 (q := 36) dX1_copyFrom_35 rfl ?_
  refine S_getR (q := 39) dX1_copyFrom_36 fl_X1_28 (by first | assumption | rfl) (by rfl) rfl ?_
  refine S_iconst (q := 40) (nI 0) dX1_copyFrom_39 (by decide) rfl ?_
  refine S_aload_0 (q := 41) dX1_copyFrom_40 rfl ?_
  refine S_getR (q := 44) dX1_copyFrom_41 fl_X1_28 (by first | assumption | rfl) (by rfl) rfl ?_
  refine S_iconst (q := 45) (nI 0) dX1_copyFrom_44 (by decide) rfl ?_
  refine S_aload_0 (q := 46) dX1_copyFrom_45 rfl ?_
  refine S_getR (q := 49) dX1_copyFrom_46 fl_X1_28 (by first | assumption | rfl) (by rfl) rfl ?_
  refine S_alen (q := 50) dX1_copyFrom_49 (by first | assumption | rfl) rfl ?_
  refine S_copy (q := 53) dX1_copyFrom_50 lc_X1_48 (by first | assumption | rfl) (by first | assumption | rfl) (by decide) (by decide) (by decide) (by decide) (by decide) (Nat.le_of_ble_eq_true rfl) (Nat.le_of_ble_eq_true rfl) rfl ?_
  exact S_ret (v := 0) rfl dX1_copyFrom_53 rfl (by
      obtain ⟨h0, h1, h2, h3⟩ := hv32
      refine ⟨fun a ha => ?_, fun j hj => ?_, fun j hj => ?_, fun j hj => ?_, fun j hj => ?_, fun j hj => ?_⟩
      · rw [upA_n (show a ≠ g + 5 by omega), h0 a (by omega) (by omega) (by omega), up_n (by omega), up_n (by omega), up_n (by omega)]
      · rw [upA_n (show g ≠ g + 5 by omega), h0 g (by omega) (by omega) (by omega)]
        rcases (show j = 0 ∨ j = 1 ∨ j = 2 by omega) with rfl | rfl | rfl
        · simp [up_eq]
        · simp [up_eq, show d ≠ g by omega]
        · simp [up_eq, show d ≠ g by omega]
      · rw [upA_n (show g + 2 ≠ g + 5 by omega)]; rw [h1 j hj]; simp [up_eq, show d + 1 + 1 ≠ g by omega]
      · rw [upA_n (show g + 3 ≠ g + 5 by omega)]; rw [h2 j hj]; simp [up_eq, show d + 1 + 2 ≠ g by omega]
      · rw [upA_n (show g + 4 ≠ g + 5 by omega)]; rw [h3 j hj]; simp [up_eq, show d + 1 + 3 ≠ g by omega]
      · rw [upA_s, cpy0 (by decide) hj, h0 (d + 5) (by omega) (by omega) (by omega)]; simp [up_eq, show d + 5 ≠ g by omega])
