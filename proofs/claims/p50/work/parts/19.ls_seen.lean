/-- the sets as the line solver at s holds them -/
def SEE (M : Mem) (s R : Nat) (rc sn : Nat → Nat) : Prop := (∀ k, k < 4 → M (s + 6) k = nI (sn k)) ∧ (∀ j, j ≤ R → M (s + 7) j = nI (rc j)) ∧ (∀ k, sn k < 2 ^ 9) ∧ ∀ j, rc j < 2 ^ 9
theorem orF_lt {f : Nat → Nat} {k m : Nat} (h : ∀ i, f i < 2 ^ 9) (hm : m < 2 ^ 9) : ∀ i, orF f k m i < 2 ^ 9 := by
  intro i
  unfold orF
  split
  · exact Nat.or_lt_two_pow (h k) hm
  · exact h i
theorem p2_lt {e n : Nat} (h : e < n) : 2 ^ e < 2 ^ n := Nat.pow_lt_pow_right (by decide) h
theorem le0 {a : Nat} (ha : a < 2 ^ 31) : nI a ≤ 0 ↔ a = 0 := by
  rw [show (0 : Int32) = nI 0 from rfl, nI_leI ha (by decide)]
  omega
theorem rfi_lt {n R : Nat} {len col mk : Nat → Nat} (hlc : ∀ j, j < R → 1 ≤ len j) (hn8 : n ≤ 8) {p j : Nat} : rfi n R len col mk j p < 2 ^ 31 := by
  unfold rfi
  split
  · rename_i h
    exact Nat.lt_of_le_of_lt (wy_256 hlc hn8 (spn_fit (hlc j h.1) h.2).1) (by decide)
  · decide
set_option maxHeartbeats 4000000 in
set_option maxRecDepth 100000 in
theorem k_X3_seeRun {l : Launch} {G : Gd} {b0 : Nat} {lay : Lay} {M : Mem} {s n R j b : Nat} {len col mk sn : Nat → Nat} (hs : isL lay s) (hru : RUNS M s n R len col mk R) (hn8 : n ≤ 8) (hj : j < R) (hR8 : R ≤ 8) (hc3 : col j ≤ 3) (hb : b + spn R len col j ≤ n) (hsn : ∀ k, k < 4 → M (s + 6) k = nI (sn k)) (hsl : ∀ k, sn k < 2 ^ 9) : Ct l G b0 yX3_seeRun cX3_seeRun 4 none (rmZ 0 0) lay lay M [.ref (b0 + s), .int (nI j), .int (nI b)] (fun v M' => (∀ a, a ≠ s + 6 → M' a = M a) ∧ (∀ k, k < 4 → M' (s + 6) k = nI (snR R len col j b sn k)) ∧ ∀ k, snR R len col j b sn k < 2 ^ 9) := by
  obtain ⟨hs0, hs1, hs2, hs3, hs4, hs5, hs6, hs7, hs8⟩ := id hs
  have hspn : spn R len col j = len j + (if gp R col j = true then 1 else 0) := rfl
  have hbl : b + len j ≤ 8 := by omega
  have hp1 : 2 ^ b ≤ 2 ^ (b + len j) := Nat.pow_le_pow_right (by decide) (by omega)
  have hp2 : 2 ^ (b + len j) < 2 ^ 9 := p2_lt (by omega)
  have hp3 : 2 ^ (b + len j) - 2 ^ b < 2 ^ 9 := Nat.lt_of_le_of_lt (Nat.sub_le _ _) hp2
  have hr := hru j hj
  refine Ct.of [some (.ref (b0 + s)), some (.int (nI j)), some (.int (nI b)), none] (by decide) (Nat.le_of_ble_eq_true rfl) rfl rfl ?_
  refine S_iload_2 (q := 1) dX3_seeRun_0 rfl ?_
  refine S_aload_0 (q := 2) dX3_seeRun_1 rfl ?_
  refine S_getR (q := 5) dX3_seeRun_2 fl_X3_18 (by first | assumption | rfl) (by rfl) rfl ?_
  refine S_iload_1 (q := 6) dX3_seeRun_5 rfl ?_
  refine S_ialdV (i := j) (val := nI (len j)) (q := 7) dX3_seeRun_6 (by first | assumption | rfl) (by first | (simp only [nI_add, pk_mul, nI_1]; done) | rfl) (by omega) (by decide) hr.1 rfl ?_
  refine S_iadd (q := 8) dX3_seeRun_7 rfl ?_
  rw [nI_add]
  refine S_istore_3 (q := 9) dX3_seeRun_8 rfl ?_
  refine S_aload_0 (q := 10) dX3_seeRun_9 rfl ?_
  refine S_getR (q := 13) dX3_seeRun_10 fl_X3_34 (by first | assumption | rfl) (by rfl) rfl ?_
  refine S_aload_0 (q := 14) dX3_seeRun_13 rfl ?_
  refine S_getR (q := 17) dX3_seeRun_14 fl_X3_22 (by first | assumption | rfl) (by rfl) rfl ?_
  refine S_iload_1 (q := 18) dX3_seeRun_17 rfl ?_
  refine S_ialdV (i := j) (val := nI (col j)) (q := 19) dX3_seeRun_18 (by first | assumption | rfl) (by first | (simp only [nI_add, pk_mul, nI_1]; done) | rfl) (by omega) (by decide) hr.2.1 rfl ?_
  refine S_dup2 (q := 20) dX3_seeRun_19 rfl rfl rfl ?_
  refine S_ialdV (i := col j) (val := nI (sn (col j))) (q := 21) dX3_seeRun_20 (by first | assumption | rfl) (by first | (simp only [nI_add, pk_mul, nI_1]; done) | rfl) (by omega) (by decide) (hsn _ (by omega)) rfl ?_
  refine S_iconst (q := 22) (nI 1) dX3_seeRun_21 (by decide) rfl ?_
  refine S_iload_3 (q := 23) dX3_seeRun_22 rfl ?_
  refine S_ishl (q := 24) dX3_seeRun_23 rfl ?_
  rw [nI_shl (by omega) (by omega), Nat.one_mul]
  refine S_iconst (q := 25) (nI 1) dX3_seeRun_24 (by decide) rfl ?_
  refine S_iload_2 (q := 26) dX3_seeRun_25 rfl ?_
  refine S_ishl (q := 27) dX3_seeRun_26 rfl ?_
  rw [nI_shl (show b < 32 by omega) (by omega), Nat.one_mul]
  refine S_isub (q := 28) dX3_seeRun_27 rfl ?_
  rw [pk_sub hp1]
  refine S_ior (q := 29) dX3_seeRun_28 rfl ?_
  rw [nI_or (Nat.lt_trans (hsl _) (by decide)) (by omega)]
  refine S_iastE (i := col j) (q := 30) dX3_seeRun_29 (by first | assumption | rfl) (by first | (simp only [nI_add, pk_mul, nI_1]; done) | rfl) (by omega) (by decide) rfl ?_
  refine S_aload_0 (q := 31) dX3_seeRun_30 rfl ?_
  refine S_getR (q := 34) dX3_seeRun_31 fl_X3_25 (by first | assumption | rfl) (by rfl) rfl ?_
  refine S_iload_1 (q := 35) dX3_seeRun_34 rfl ?_
  refine S_ialdV (i := j) (val := nI (spn R len col j)) (q := 36) dX3_seeRun_35 (by first | assumption | rfl) (by first | (simp only [nI_add, pk_mul, nI_1]; done) | rfl) (by omega) (by decide) (by rw [up_n (by omega)]; exact hr.2.2.1) rfl ?_
  refine S_aload_0 (q := 37) dX3_seeRun_36 rfl ?_
  refine S_getR (q := 40) dX3_seeRun_37 fl_X3_18 (by first | assumption | rfl) (by rfl) rfl ?_
  refine S_iload_1 (q := 41) dX3_seeRun_40 rfl ?_
  refine S_ialdV (i := j) (val := nI (len j)) (q := 42) dX3_seeRun_41 (by first | assumption | rfl) (by first | (simp only [nI_add, pk_mul, nI_1]; done) | rfl) (by omega) (by decide) (by rw [up_n (by omega)]; exact hr.1) rfl ?_
  refine S_icmp_le (t := 57) (q := 45) dX3_seeRun_42 (by decide) rfl (fun hb42 => ?_) (fun hb42 => ?_)
  · have hg : ¬ gp R col j = true := fun h => by
      rw [nI_leI (by omega) (by omega), hspn, if_pos h] at hb42
      omega
    exact S_ret (v := 0) rfl dX3_seeRun_57 rfl (by
            refine ⟨fun a ha => by rw [up_n ha], fun k hk => ?_, fun k => ?_⟩
            · unfold snR orF
              rw [if_neg hg, up_eq]
              by_cases e : k = col j
              · subst e; simp
              · simp [e]; exact hsn k hk
            · unfold snR
              rw [if_neg hg]
              exact orF_lt hsl (by omega) k)
  · have hg : gp R col j = true := by
      by_cases h : gp R col j = true
      · exact h
      · rw [nI_leI (by omega) (by omega), hspn, if_neg h] at hb42
        omega
    refine S_aload_0 (q := 46) dX3_seeRun_45 rfl ?_
    refine S_getR (q := 49) dX3_seeRun_46 fl_X3_34 (by first | assumption | rfl) (by rfl) rfl ?_
    refine S_iconst (q := 50) (nI 0) dX3_seeRun_49 (by decide) rfl ?_
    refine S_dup2 (q := 51) dX3_seeRun_50 rfl rfl rfl ?_
    refine S_ialdV (i := 0) (val := nI (orF sn (col j) (2 ^ (b + len j) - 2 ^ b) 0)) (q := 52) dX3_seeRun_51 (by first | assumption | rfl) (by first | (simp only [nI_add, pk_mul, nI_1]; done) | rfl) (by omega) (by decide) (by rw [up_eq]; unfold orF; by_cases e : (0 : Nat) = col j; (· rw [← e]; simp); (· simp [e]; exact hsn 0 (by omega))) rfl ?_
    refine S_iconst (q := 53) (nI 1) dX3_seeRun_52 (by decide) rfl ?_
    refine S_iload_3 (q := 54) dX3_seeRun_53 rfl ?_
    refine S_ishl (q := 55) dX3_seeRun_54 rfl ?_
    rw [nI_shl (show b + len j < 32 by omega) (by omega), Nat.one_mul]
    refine S_ior (q := 56) dX3_seeRun_55 rfl ?_
    rw [nI_or (Nat.lt_trans (orF_lt hsl (by omega) 0) (by decide)) (by omega)]
    refine S_iastE (i := 0) (q := 57) dX3_seeRun_56 (by first | assumption | rfl) (by first | (simp only [nI_add, pk_mul, nI_1]; done) | rfl) (by omega) (by decide) rfl ?_
    exact S_ret (v := 0) rfl dX3_seeRun_57 rfl (by
            refine ⟨fun a ha => by rw [up_n ha, up_n ha], fun k hk => ?_, fun k => ?_⟩
            · unfold snR
              rw [if_pos hg, up_eq]
              by_cases e0 : k = 0
              · subst e0; simp [orF]
              · rw [if_neg (fun z => e0 z.2), up_eq]
                unfold orF
                by_cases e : k = col j
                · subst e; simp [e0]
                · simp [e, e0]; exact hsn k hk
            · unfold snR
              rw [if_pos hg]
              exact orF_lt (orF_lt hsl (by omega)) hp2 k)
set_option maxHeartbeats 4000000 in
set_option maxRecDepth 100000 in
theorem q_findSeen {l : Launch} {G : Gd} {b0 : Nat} {lay : Lay} {M : Mem} {Post : PT} {s n R j b : Nat} {len col mk rc sn : Nat → Nat} {M1 : Mem} (hs : isL lay s) (hld : LDD M s n R len col mk) (hn8 : n ≤ 8) (hR8 : R ≤ 8) (hlc : ∀ j, j < R → 1 ≤ len j ∧ len j ≤ 8 ∧ col j ≤ 3) (hj : j ≤ R) (hb : b < n) (hr : (rc j).testBit b = true) (hf : (∀ a, a ≠ s + 6 → a ≠ s + 7 → M1 a = M a)) (he : SEE M1 s R rc sn) (hm : FSm n R len col mk j b rc sn)
    (K : ∀ (M2 : Mem) (rc' sn' : Nat → Nat), (∀ a, a ≠ s + 6 → a ≠ s + 7 → M2 a = M a) → SEE M2 s R rc' sn' → FS n R len col mk j (b + 1) rc' sn' → S l G b0 yX3_findSeen cX3_findSeen 4 none (rmZ 1 23) lay Post 0 0 0 0 lay 141 [some (.ref (b0 + s)), some (.int (nI (j))), some (.int (nI (b))), some (.int (nI 1))] [] M2) : S l G b0 yX3_findSeen cX3_findSeen 4 none (rmZ 1 23) lay Post 0 0 0 0 lay 101 [some (.ref (b0 + s)), some (.int (nI (j))), some (.int (nI (b))), some (.int (nI 1))] [] M1 := by
  obtain ⟨hs0, hs1, hs2, hs3, hs4, hs5, hs6, hs7, hs8⟩ := id hs
  obtain ⟨hd1, hd2, hd3, hd4, hd5⟩ := id hld
  have hpl : pos n mk 0 < 2 ^ 31 := lt31 (pos_lt 0) (by omega)
  have hlc1 : ∀ j, j < R → 1 ≤ len j := fun j h => (hlc j h).1
  have hsl : ∀ j, stt n R len col mk j < 2 ^ 31 := fun j => Nat.lt_of_le_of_lt (stt_le j) (lt31 (pos_lt _) (by omega))
  refine S_iload_3 (q := 102) dX3_findSeen_101 rfl ?_
  refine S_if_eq (t := 141) (q := 105) dX3_findSeen_102 (by decide) rfl (fun hb102 => ?_) (fun hb102 => ?_)
  · exact absurd hb102 (by decide)
  · refine S_aload_0 (q := 106) dX3_findSeen_105 rfl ?_
    refine S_iload_1 (q := 107) dX3_findSeen_106 rfl ?_
    refine S_iload_2 (q := 108) dX3_findSeen_107 rfl ?_
    refine S_callV2i (q := 111) dX3_findSeen_108 lk_X3_104 (by first | assumption | rfl) rfl rfl (k_X3_runWays hs (by rw [hf s (by omega) (by omega)]; exact hd1) hn8 (R := R) (St := stt n R len col mk j) (sp := spn R len col j) (by rw [hf s (by omega) (by omega)]; exact hd2) hR8 (fun h => by rw [hf (s + 4) (by omega) (by omega), hf (s + 3) (by omega) (by omega)]; exact ⟨(hd3 j h).2.2.2, (hd3 j h).2.2.1⟩) (hsl j) (fun h z => (spn_fit (hlc1 j h) z).1) (show b < 8 by omega) (show j ≤ 8 by omega)) rfl rfl (Nat.le_of_ble_eq_true rfl) ⟨Nat.le_of_ble_eq_true rfl, Nat.le_of_ble_eq_true rfl⟩ ⟨Nat.le_of_ble_eq_true rfl, Nat.le_of_ble_eq_true rfl⟩ rfl (fun v108 M108 hv108 => ?_)
    obtain ⟨rfl, rfl⟩ := hv108
    have hrf : (if j < R ∧ (stt n R len col mk j).testBit b = true then M108 (s + 8) ((j + 1) * 9 + (b + spn R len col j)) else nI 0) = nI (rfi n R len col mk j b) := by
      unfold rfi
      split
      · rename_i h
        rw [hf (s + 8) (by omega) (by omega)]
        exact hd5 (j + 1) (by omega) _ (spn_fit (hlc1 j h.1) h.2).1
      · rfl
    rw [hrf]
    refine S_if_le (t := 141) (q := 114) dX3_findSeen_111 (by decide) rfl (fun hb111 => ?_) (fun hb111 => ?_)
    · have hb111 := (le0 (rfi_lt hlc1 hn8)).mp hb111
      exact K M108 rc sn hf he (hm.skipR (Or.inr (by omega)))
    · have hb111 : 0 < rfi n R len col mk j b := Nat.pos_of_ne_zero (fun h => hb111 ((le0 (rfi_lt hlc1 hn8)).mpr h))
      have hjR := (asg_mem_run hb hlc1 hb111).1
      have hsp := spn_fit (hlc1 j hjR) (asg_mem_run hb hlc1 hb111).2.1
      refine S_aload_0 (q := 115) dX3_findSeen_114 rfl ?_
      refine S_iload_1 (q := 116) dX3_findSeen_115 rfl ?_
      refine S_iload_2 (q := 117) dX3_findSeen_116 rfl ?_
      refine S_callV2v (q := 120) dX3_findSeen_117 lk_X3_128 (by first | assumption | rfl) rfl rfl (k_X3_seeRun hs (n := n) (R := R) (len := len) (col := col) (mk := mk) (sn := sn) (fun i hi => by rw [hf (s + 1) (by omega) (by omega), hf (s + 2) (by omega) (by omega), hf (s + 3) (by omega) (by omega), hf (s + 4) (by omega) (by omega)]; exact hd3 i hi) hn8 hjR hR8 (hlc j hjR).2.2 hsp.1 he.1 he.2.2.1) rfl rfl (Nat.le_of_ble_eq_true rfl) ⟨Nat.le_of_ble_eq_true rfl, Nat.le_of_ble_eq_true rfl⟩ ⟨Nat.le_of_ble_eq_true rfl, Nat.le_of_ble_eq_true rfl⟩ rfl (fun v117 M117 hv117 => ?_)
      obtain ⟨hx1, hx2, hx3⟩ := hv117
      refine S_aload_0 (q := 121) dX3_findSeen_120 rfl ?_
      refine S_getR (q := 124) dX3_findSeen_121 fl_X3_37 (by first | assumption | rfl) (by rfl) rfl ?_
      refine S_iload_1 (q := 125) dX3_findSeen_124 rfl ?_
      refine S_iconst (q := 126) (nI 1) dX3_findSeen_125 (by decide) rfl ?_
      refine S_iadd (q := 127) dX3_findSeen_126 rfl ?_
      refine S_dup2 (q := 128) dX3_findSeen_127 rfl rfl rfl ?_
      refine S_ialdV (i := j + 1) (val := nI (rc (j + 1))) (q := 129) dX3_findSeen_128 (by first | assumption | rfl) (by first | (simp only [nI_add, pk_mul, nI_1]; done) | rfl) (by omega) (by decide) (by rw [hx1 (s + 7) (by omega)]; exact he.2.1 (j + 1) (by omega)) rfl ?_
      refine S_iconst (q := 130) (nI 1) dX3_findSeen_129 (by decide) rfl ?_
      refine S_iload_2 (q := 131) dX3_findSeen_130 rfl ?_
      refine S_aload_0 (q := 132) dX3_findSeen_131 rfl ?_
      refine S_getR (q := 135) dX3_findSeen_132 fl_X3_25 (by first | assumption | rfl) (by rfl) rfl ?_
      refine S_iload_1 (q := 136) dX3_findSeen_135 rfl ?_
      refine S_ialdV (i := j) (val := nI (spn R len col j)) (q := 137) dX3_findSeen_136 (by first | assumption | rfl) (by first | (simp only [nI_add, pk_mul, nI_1]; done) | rfl) (by omega) (by decide) (by rw [hx1 (s + 3) (by omega), hf (s + 3) (by omega) (by omega)]; exact (hd3 j hjR).2.2.1) rfl ?_
      refine S_iadd (q := 138) dX3_findSeen_137 rfl ?_
      rw [nI_add]
      refine S_ishl (q := 139) dX3_findSeen_138 rfl ?_
      rw [nI_shl (show b + spn R len col j < 32 by omega) (by rw [Nat.one_mul]; exact Nat.lt_trans (p2_lt (show b + spn R len col j < 9 by omega)) (by decide)), Nat.one_mul]
      refine S_ior (q := 140) dX3_findSeen_139 rfl ?_
      rw [nI_or (Nat.lt_trans (he.2.2.2 _) (by decide)) (Nat.lt_trans (p2_lt (show b + spn R len col j < 9 by omega)) (by decide))]
      refine S_iastE (i := j + 1) (q := 141) dX3_findSeen_140 (by first | assumption | rfl) (by first | (simp only [nI_add, pk_mul, nI_1]; done) | rfl) (by omega) (by decide) rfl ?_
      refine K _ (orF rc (j + 1) (2 ^ (b + spn R len col j))) (snR R len col j b sn) (fun a h1 h2 => by rw [up_n h2, hx1 a h1]; exact hf a h1 h2) ⟨fun k hk => by rw [up_n (by omega)]; exact hx2 k hk, fun i hi => ?_, hx3, orF_lt he.2.2.2 (p2_lt (by omega))⟩ (hm.stepR hlc1 hb hr hb111)
      rw [up_eq]
      unfold orF
      by_cases e : i = j + 1
      · subst e; simp
      · simp [e]
        rw [hx1 (s + 7) (by omega)]
        exact he.2.1 i hi
set_option maxHeartbeats 4000000 in
set_option maxRecDepth 100000 in
theorem q_findSeen1 {l : Launch} {G : Gd} {b0 : Nat} {lay : Lay} {M : Mem} {Post : PT} {s n R j : Nat} {len col mk rc0 sn0 : Nat → Nat} {M0 : Mem} (hs : isL lay s) (hld : LDD M s n R len col mk) (hn8 : n ≤ 8) (hR8 : R ≤ 8) (hlc : ∀ j, j < R → 1 ≤ len j ∧ len j ≤ 8 ∧ col j ≤ 3) (hj : j ≤ R) (hf0 : (∀ a, a ≠ s + 6 → a ≠ s + 7 → M0 a = M a)) (he0 : SEE M0 s R rc0 sn0) (hs0' : FS n R len col mk j 0 rc0 sn0)
    (K : ∀ (M2 : Mem) (rc' sn' : Nat → Nat), (∀ a, a ≠ s + 6 → a ≠ s + 7 → M2 a = M a) → SEE M2 s R rc' sn' → FS n R len col mk (j + 1) 0 rc' sn' → S l G b0 yX3_findSeen cX3_findSeen 4 none (rmZ 1 23) lay Post 0 0 0 0 lay 147 [some (.ref (b0 + s)), some (.int (nI (j))), some (.int (nI (n))), none] [] M2) : S l G b0 yX3_findSeen cX3_findSeen 4 none (rmZ 1 23) lay Post 0 0 0 0 lay 35 [some (.ref (b0 + s)), some (.int (nI (j))), some (.int (nI (0))), none] [] M0 := by
  obtain ⟨hs0, hs1, hs2, hs3, hs4, hs5, hs6, hs7, hs8⟩ := id hs
  obtain ⟨hd1, hd2, hd3, hd4, hd5⟩ := id hld
  have hpl : pos n mk 0 < 2 ^ 31 := lt31 (pos_lt 0) (by omega)
  have hlc1 : ∀ j, j < R → 1 ≤ len j := fun j h => (hlc j h).1
  have hsl : ∀ j, stt n R len col mk j < 2 ^ 31 := fun j => Nat.lt_of_le_of_lt (stt_le j) (lt31 (pos_lt _) (by omega))
  suffices H : ∀ (d i : Nat) (rc : Nat → Nat) (sn : Nat → Nat) (M1 : Mem), n - i = d → i ≤ n → ((∀ a, a ≠ s + 6 → a ≠ s + 7 → M1 a = M a) ∧ SEE M1 s R rc sn ∧ FS n R len col mk j (i) rc sn) → S l G b0 yX3_findSeen cX3_findSeen 4 none (rmZ 1 23) lay Post 0 0 0 0 lay 35 [some (.ref (b0 + s)), some (.int (nI (j))), some (.int (nI (i))), none] [] M1 from H _ 0 (rc0) (sn0) _ rfl (by omega) ⟨hf0, he0, hs0'⟩
  intro d
  induction d with
  | zero =>
    intro i rc sn M1 hd hi hI
    have e : n = i := by omega
    subst e
    refine S_iload_2 (q := 36) dX3_findSeen_35 rfl ?_
    refine S_aload_0 (q := 37) dX3_findSeen_36 rfl ?_
    refine S_getI (q := 40) dX3_findSeen_37 fl_X3_9 (by first | assumption | rfl) (by rfl) rfl ?_
    rw [hI.1 s (by omega) (by omega), hd1]
    refine S_icmp_ge (t := 147) (q := 43) dX3_findSeen_40 (by decide) rfl (fun hb40 => ?_) (fun hb40 => ?_)
    · exact K _ _ _ hI.1 hI.2.1 hI.2.2.next
    · exact absurd (Int32.le_refl _) hb40
  | succ d ih =>
    intro i rc sn M1 hd hi hI
    have hlt : i < n := by omega
    refine S_iload_2 (q := 36) dX3_findSeen_35 rfl ?_
    refine S_aload_0 (q := 37) dX3_findSeen_36 rfl ?_
    refine S_getI (q := 40) dX3_findSeen_37 fl_X3_9 (by first | assumption | rfl) (by rfl) rfl ?_
    rw [hI.1 s (by omega) (by omega), hd1]
    refine S_icmp_ge (t := 147) (q := 43) dX3_findSeen_40 (by decide) rfl (fun hb40 => ?_) (fun hb40 => ?_)
    · exact absurd hb40 (nI_ge hlt (by omega))
    · refine S_aload_0 (q := 44) dX3_findSeen_43 rfl ?_
      refine S_getR (q := 47) dX3_findSeen_44 fl_X3_37 (by first | assumption | rfl) (by rfl) rfl ?_
      refine S_iload_1 (q := 48) dX3_findSeen_47 rfl ?_
      refine S_ialdV (i := j) (val := nI (rc j)) (q := 49) dX3_findSeen_48 (by first | assumption | rfl) (by first | (simp only [nI_add, pk_mul, nI_1]; done) | rfl) (by omega) (by decide) (hI.2.1.2.1 j hj) rfl ?_
      refine S_iload_2 (q := 50) dX3_findSeen_49 rfl ?_
      refine S_ishr (q := 51) dX3_findSeen_50 rfl ?_
      refine S_iconst (q := 52) (nI 1) dX3_findSeen_51 (by decide) rfl ?_
      refine S_iand (q := 53) dX3_findSeen_52 rfl ?_
      rw [tb_if (Nat.lt_trans (hI.2.1.2.2.2 j) (by decide)) (show i < 32 by omega)]
      refine S_if_eq (t := 60) (q := 56) dX3_findSeen_53 (by decide) rfl (fun hb53 => ?_) (fun hb53 => ?_)
      · have hb53 : ¬ (rc j).testBit i = true := fun h => by rw [if_pos h] at hb53; exact absurd hb53 (by decide)
        refine S_iconst (q := 61) (nI 0) dX3_findSeen_60 (by decide) rfl ?_
        refine S_istore_3 (q := 62) dX3_findSeen_61 rfl ?_
        refine S_iload_3 (q := 63) dX3_findSeen_62 rfl ?_
        refine S_if_eq (t := 101) (q := 66) dX3_findSeen_63 (by decide) rfl (fun hb63 => ?_) (fun hb63 => ?_)
        · refine S_iload_3 (q := 102) dX3_findSeen_101 rfl ?_
          refine S_if_eq (t := 141) (q := 105) dX3_findSeen_102 (by decide) rfl (fun hb102 => ?_) (fun hb102 => ?_)
          · refine S_iinc_2 (q := 144) (nI (i + 1)) dX3_findSeen_141 (inc1 _) rfl ?_
            refine S_goto (t := 35) dX3_findSeen_144 (by decide) ?_
            refine S_fgt3 ?_
            exact ih (i + 1) rc sn _ (by omega) hlt ⟨hI.1, hI.2.1, (hI.2.2.skipW (Or.inl hb53)).skipR (Or.inl hb53)⟩
          · exact absurd rfl hb102
        · exact absurd rfl hb63
      · have hb53 : (rc j).testBit i = true := by
          by_cases h : (rc j).testBit i = true
          · exact h
          · rw [if_neg h] at hb53; exact absurd rfl hb53
        refine S_iconst (q := 57) (nI 1) dX3_findSeen_56 (by decide) rfl ?_
        refine S_goto (t := 61) dX3_findSeen_57 (by decide) ?_
        refine S_istore_3 (q := 62) dX3_findSeen_61 rfl ?_
        refine S_iload_3 (q := 63) dX3_findSeen_62 rfl ?_
        refine S_if_eq (t := 101) (q := 66) dX3_findSeen_63 (by decide) rfl (fun hb63 => ?_) (fun hb63 => ?_)
        · exact absurd hb63 (by decide)
        · refine S_aload_0 (q := 67) dX3_findSeen_66 rfl ?_
          refine S_iload_1 (q := 68) dX3_findSeen_67 rfl ?_
          refine S_iload_2 (q := 69) dX3_findSeen_68 rfl ?_
          refine S_callV2i (q := 72) dX3_findSeen_69 lk_X3_101 (by first | assumption | rfl) rfl rfl (k_X3_whiteWays hs (P := pos n mk 0) (by rw [hI.1 (s + 5) (by omega) (by omega)]; exact hd4 0 (by omega)) hpl (show i < 8 by omega) (show j ≤ 8 by omega)) rfl rfl (Nat.le_of_ble_eq_true rfl) ⟨Nat.le_of_ble_eq_true rfl, Nat.le_of_ble_eq_true rfl⟩ ⟨Nat.le_of_ble_eq_true rfl, Nat.le_of_ble_eq_true rfl⟩ rfl (fun v69 M69 hv69 => ?_)
          obtain ⟨rfl, rfl⟩ := hv69
          have hwf : (if (pos n mk 0).testBit i = true then M69 (s + 8) (j * 9 + i + 1) else nI 0) = nI (wfi n R len col mk j i) := by
            unfold wfi
            split
            · rw [Nat.add_assoc, hI.1 (s + 8) (by omega) (by omega)]; exact hd5 j hj (i + 1) (by omega)
            · rfl
          rw [hwf]
          refine S_if_le (t := 101) (q := 75) dX3_findSeen_72 (by decide) rfl (fun hb72 => ?_) (fun hb72 => ?_)
          · have hb72 := (le0 (wfi_lt hlc1 hn8 hlt)).mp hb72
            refine q_findSeen hs hld hn8 hR8 hlc hj hlt hb53 hI.1 hI.2.1 (hI.2.2.skipW (Or.inr (by omega))) (fun M2 rc' sn' k1 k2 k3 => ?_)
            refine S_iinc_2 (q := 144) (nI (i + 1)) dX3_findSeen_141 (inc1 _) rfl ?_
            refine S_goto (t := 35) dX3_findSeen_144 (by decide) ?_
            refine S_fgt3 ?_
            exact ih (i + 1) rc' sn' _ (by omega) hlt ⟨k1, k2, k3⟩
          · have hb72 : 0 < wfi n R len col mk j i := Nat.pos_of_ne_zero (fun h => hb72 ((le0 (wfi_lt hlc1 hn8 hlt)).mpr h))
            refine S_aload_0 (q := 76) dX3_findSeen_75 rfl ?_
            refine S_getR (q := 79) dX3_findSeen_76 fl_X3_34 (by first | assumption | rfl) (by rfl) rfl ?_
            refine S_iconst (q := 80) (nI 0) dX3_findSeen_79 (by decide) rfl ?_
            refine S_dup2 (q := 81) dX3_findSeen_80 rfl rfl rfl ?_
            refine S_ialdV (i := 0) (val := nI (sn 0)) (q := 82) dX3_findSeen_81 (by first | assumption | rfl) (by first | (simp only [nI_add, pk_mul, nI_1]; done) | rfl) (by omega) (by decide) (hI.2.1.1 0 (by decide)) rfl ?_
            refine S_iconst (q := 83) (nI 1) dX3_findSeen_82 (by decide) rfl ?_
            refine S_iload_2 (q := 84) dX3_findSeen_83 rfl ?_
            refine S_ishl (q := 85) dX3_findSeen_84 rfl ?_
            rw [nI_shl (show i < 32 by omega) (by rw [Nat.one_mul]; exact Nat.lt_trans (p2_lt (show i < 9 by omega)) (by decide)), Nat.one_mul]
            refine S_ior (q := 86) dX3_findSeen_85 rfl ?_
            rw [nI_or (Nat.lt_trans (hI.2.1.2.2.1 _) (by decide)) (Nat.lt_trans (p2_lt (show i < 9 by omega)) (by decide))]
            refine S_iastE (i := 0) (q := 87) dX3_findSeen_86 (by first | assumption | rfl) (by first | (simp only [nI_add, pk_mul, nI_1]; done) | rfl) (by omega) (by decide) rfl ?_
            refine S_aload_0 (q := 88) dX3_findSeen_87 rfl ?_
            refine S_getR (q := 91) dX3_findSeen_88 fl_X3_37 (by first | assumption | rfl) (by rfl) rfl ?_
            refine S_iload_1 (q := 92) dX3_findSeen_91 rfl ?_
            refine S_dup2 (q := 93) dX3_findSeen_92 rfl rfl rfl ?_
            refine S_ialdV (i := j) (val := nI (rc j)) (q := 94) dX3_findSeen_93 (by first | assumption | rfl) (by first | (simp only [nI_add, pk_mul, nI_1]; done) | rfl) (by omega) (by decide) (by rw [up_n (by omega)]; exact hI.2.1.2.1 j hj) rfl ?_
            refine S_iconst (q := 95) (nI 1) dX3_findSeen_94 (by decide) rfl ?_
            refine S_iload_2 (q := 96) dX3_findSeen_95 rfl ?_
            refine S_iconst (q := 97) (nI 1) dX3_findSeen_96 (by decide) rfl ?_
            refine S_iadd (q := 98) dX3_findSeen_97 rfl ?_
            rw [show (nI i + nI 1 : Int32) = nI (i + 1) from nI_1 i]
            refine S_ishl (q := 99) dX3_findSeen_98 rfl ?_
            rw [nI_shl (show i + 1 < 32 by omega) (by rw [Nat.one_mul]; exact Nat.lt_trans (p2_lt (show i + 1 < 10 by omega)) (by decide)), Nat.one_mul]
            refine S_ior (q := 100) dX3_findSeen_99 rfl ?_
            rw [nI_or (Nat.lt_trans (hI.2.1.2.2.2 _) (by decide)) (Nat.lt_trans (p2_lt (show i + 1 < 10 by omega)) (by decide))]
            refine S_iastE (i := j) (q := 101) dX3_findSeen_100 (by first | assumption | rfl) (by first | (simp only [nI_add, pk_mul, nI_1]; done) | rfl) (by omega) (by decide) rfl ?_
            refine q_findSeen hs hld hn8 hR8 hlc hj hlt (rc := orF rc j (2 ^ (i + 1))) (sn := orF sn 0 (2 ^ i)) (orF_le _ _ hb53) (fun a h1 h2 => by rw [up_n h2, up_n h1]; exact hI.1 a h1 h2) ⟨fun k hk => ?_, fun k hk => ?_, orF_lt hI.2.1.2.2.1 (p2_lt (by omega)), orF_lt hI.2.1.2.2.2 (p2_lt (by omega))⟩ (hI.2.2.stepW hlt hb53 hb72) (fun M2 rc' sn' k1 k2 k3 => ?_)
            · rw [up_n (by omega), up_eq]
              unfold orF
              by_cases e : k = 0
              · subst e; simp
              · simp [e]; exact hI.2.1.1 k hk
            · rw [up_eq]
              unfold orF
              by_cases e : k = j
              · subst e; simp
              · simp [e]
                rw [up_n (by omega)]
                exact hI.2.1.2.1 k hk
            refine S_iinc_2 (q := 144) (nI (i + 1)) dX3_findSeen_141 (inc1 _) rfl ?_
            refine S_goto (t := 35) dX3_findSeen_144 (by decide) ?_
            refine S_fgt3 ?_
            exact ih (i + 1) rc' sn' _ (by omega) hlt ⟨k1, k2, k3⟩
set_option maxHeartbeats 4000000 in
set_option maxRecDepth 100000 in
theorem k_X3_findSeen {l : Launch} {G : Gd} {b0 : Nat} {lay : Lay} {M : Mem} {s n R : Nat} {len col mk : Nat → Nat} (hs : isL lay s) (hld : LDD M s n R len col mk) (hn8 : n ≤ 8) (hR8 : R ≤ 8) (hlc : ∀ j, j < R → 1 ≤ len j ∧ len j ≤ 8 ∧ col j ≤ 3)  : Ct l G b0 yX3_findSeen cX3_findSeen 4 none (rmZ 1 23) lay lay M [.ref (b0 + s)] (fun v M' => (∀ a, a ≠ s + 6 → a ≠ s + 7 → M' a = M a) ∧ ∃ sn : Nat → Nat, (∀ k, k < 4 → M' (s + 6) k = nI (sn k)) ∧ (∀ k, sn k < 2 ^ 9) ∧ ∀ k q, (sn k).testBit q = true ↔ q < n ∧ SNP n R len col mk k q) := by
  obtain ⟨hs0, hs1, hs2, hs3, hs4, hs5, hs6, hs7, hs8⟩ := id hs
  obtain ⟨hd1, hd2, hd3, hd4, hd5⟩ := id hld
  have hpl : pos n mk 0 < 2 ^ 31 := lt31 (pos_lt 0) (by omega)
  have hlc1 : ∀ j, j < R → 1 ≤ len j := fun j h => (hlc j h).1
  have hsl : ∀ j, stt n R len col mk j < 2 ^ 31 := fun j => Nat.lt_of_le_of_lt (stt_le j) (lt31 (pos_lt _) (by omega))
  refine Ct.of [some (.ref (b0 + s)), none, none, none] (by decide) (Nat.le_of_ble_eq_true rfl) rfl rfl ?_
  refine S_aload_0 (q := 1) dX3_findSeen_0 rfl ?_
  refine S_getR (q := 4) dX3_findSeen_1 fl_X3_34 (by first | assumption | rfl) (by rfl) rfl ?_
  refine S_iconst (q := 5) (nI 0) dX3_findSeen_4 (by decide) rfl ?_
  refine S_callS2v (q := 8) dX3_findSeen_5 lk_X3_75 (k_J7_fill_53178 hs6 (by decide)) rfl rfl (Nat.le_of_ble_eq_true rfl) ⟨Nat.le_of_ble_eq_true rfl, Nat.le_of_ble_eq_true rfl⟩ ⟨Nat.le_of_ble_eq_true rfl, Nat.le_of_ble_eq_true rfl⟩ rfl (fun v5 M5 hv5 => ?_)
  obtain ⟨hx1, hx2⟩ := hv5
  refine S_aload_0 (q := 9) dX3_findSeen_8 rfl ?_
  refine S_getR (q := 12) dX3_findSeen_9 fl_X3_37 (by first | assumption | rfl) (by rfl) rfl ?_
  refine S_iconst (q := 13) (nI 0) dX3_findSeen_12 (by decide) rfl ?_
  refine S_callS2v (q := 16) dX3_findSeen_13 lk_X3_75 (k_J7_fill_53178 hs7 (by decide)) rfl rfl (Nat.le_of_ble_eq_true rfl) ⟨Nat.le_of_ble_eq_true rfl, Nat.le_of_ble_eq_true rfl⟩ ⟨Nat.le_of_ble_eq_true rfl, Nat.le_of_ble_eq_true rfl⟩ rfl (fun v13 M13 hv13 => ?_)
  obtain ⟨hy1, hy2⟩ := hv13
  refine S_aload_0 (q := 17) dX3_findSeen_16 rfl ?_
  refine S_getR (q := 20) dX3_findSeen_17 fl_X3_37 (by first | assumption | rfl) (by rfl) rfl ?_
  refine S_iconst (q := 21) (nI 0) dX3_findSeen_20 (by decide) rfl ?_
  refine S_iconst (q := 22) (nI 1) dX3_findSeen_21 (by decide) rfl ?_
  refine S_iastE (i := 0) (q := 23) dX3_findSeen_22 (by first | assumption | rfl) (by first | (simp only [nI_add, pk_mul, nI_1]; done) | rfl) (by omega) (by decide) rfl ?_
  refine S_iconst (q := 24) (nI 0) dX3_findSeen_23 (by decide) rfl ?_
  refine S_istore_1 (q := 25) dX3_findSeen_24 rfl ?_
  suffices H : ∀ (d i : Nat) (rc : Nat → Nat) (sn : Nat → Nat) (M1 : Mem), (R + 1) - i = d → i ≤ (R + 1) → ((∀ a, a ≠ s + 6 → a ≠ s + 7 → M1 a = M a) ∧ SEE M1 s R rc sn ∧ FS n R len col mk (i) 0 rc sn) → S l G b0 yX3_findSeen cX3_findSeen 4 none (rmZ 1 23) lay (fun v M' => (∀ a, a ≠ s + 6 → a ≠ s + 7 → M' a = M a) ∧ ∃ sn : Nat → Nat, (∀ k, k < 4 → M' (s + 6) k = nI (sn k)) ∧ (∀ k, sn k < 2 ^ 9) ∧ ∀ k q, (sn k).testBit q = true ↔ q < n ∧ SNP n R len col mk k q) 0 0 0 0 lay 25 [some (.ref (b0 + s)), some (.int (nI (i))), none, none] [] M1 from H _ 0 (fun i => if i = 0 then 1 else 0) (fun _ => 0) _ rfl (by omega) (by
  refine ⟨fun a h1 h2 => by rw [up_n h2, hy1 a h2, hx1 a h1], ⟨fun k hk => by rw [up_n (by omega), hy1 (s + 6) (by omega)]; exact hx2 k hk, fun j hj => ?_, fun _ => Nat.two_pow_pos 9, fun j => by dsimp only; split <;> decide⟩, FS.init⟩
  · rw [up_eq]
    by_cases e : j = 0
    · subst e; simp
    · simp [e]; exact hy2 j (by omega))
  intro d
  induction d with
  | zero =>
    intro i rc sn M1 hd hi hI
    have e : (R + 1) = i := by omega
    subst e
    refine S_iload_1 (q := 26) dX3_findSeen_25 rfl ?_
    refine S_aload_0 (q := 27) dX3_findSeen_26 rfl ?_
    refine S_getI (q := 30) dX3_findSeen_27 fl_X3_15 (by first | assumption | rfl) (by rfl) rfl ?_
    rw [hI.1 s (by omega) (by omega), hd2]
    refine S_icmp_gt (t := 153) (q := 33) dX3_findSeen_30 (by decide) rfl (fun hb30 => ?_) (fun hb30 => ?_)
    · exact S_ret (v := 0) rfl dX3_findSeen_153 rfl ⟨hI.1, sn, hI.2.1.1, hI.2.1.2.2.1, hI.2.2.iff hlc1⟩
    · exact absurd (nI_lt (Nat.lt_succ_self R) (by omega)) hb30
  | succ d ih =>
    intro i rc sn M1 hd hi hI
    have hlt : i < (R + 1) := by omega
    refine S_iload_1 (q := 26) dX3_findSeen_25 rfl ?_
    refine S_aload_0 (q := 27) dX3_findSeen_26 rfl ?_
    refine S_getI (q := 30) dX3_findSeen_27 fl_X3_15 (by first | assumption | rfl) (by rfl) rfl ?_
    rw [hI.1 s (by omega) (by omega), hd2]
    refine S_icmp_gt (t := 153) (q := 33) dX3_findSeen_30 (by decide) rfl (fun hb30 => ?_) (fun hb30 => ?_)
    · exact absurd hb30 (nI_nlt (by omega) (by omega))
    · refine S_iconst (q := 34) (nI 0) dX3_findSeen_33 (by decide) rfl ?_
      refine S_istore_2 (q := 35) dX3_findSeen_34 rfl ?_
      refine S_fgt3 ?_
      refine q_findSeen1 hs hld hn8 hR8 hlc (show i ≤ R by omega) hI.1 hI.2.1 hI.2.2 (fun M2 rc' sn' k1 k2 k3 => ?_)
      refine S_iinc_1 (q := 150) (nI (i + 1)) dX3_findSeen_147 (inc1 _) rfl ?_
      refine S_goto (t := 25) dX3_findSeen_150 (by decide) ?_
      refine S_fgt2 ?_
      exact ih (i + 1) rc' sn' _ (by omega) hlt ⟨k1, k2, k3⟩
