/-- a counter that falls from R to -1 -/
def dn (R i : Nat) : Int32 := if i ≤ R then nI (R - i) else -1
theorem dn_i {R i : Nat} (h : i ≤ R) : dn R i = nI (R - i) := if_pos h
theorem dn_e {R : Nat} : dn R (R + 1) < 0 := by
  rw [dn, if_neg (by omega)]
  decide
theorem dn_s {R i : Nat} (h : i ≤ R) : nI (R - i) + Int32.ofInt (-1) = dn R (i + 1) := by
  by_cases h2 : i + 1 ≤ R
  · rw [dn_i h2, show R - i = (R - (i + 1)) + 1 by omega]
    exact dec1 _
  · rw [dn, if_neg h2, show R - i = 0 by omega]
    rfl
set_option maxHeartbeats 4000000 in
set_option maxRecDepth 100000 in
theorem q_countWays {l : Launch} {G : Gd} {b0 : Nat} {lay : Lay} {M : Mem} {Post : PT} {s n R j : Nat} {len col mk : Nat → Nat} (hs : isL lay s) (hn : M s 0 = nI n) (hn1 : 1 ≤ n) (hn8 : n ≤ 8) (hR : M s 1 = nI R) (hR8 : R ≤ 8) (hru : RUNS M s n R len col mk R) (hpo : M (s + 5) 0 = nI (pos n mk 0)) (hlen : ∀ j, j < R → 1 ≤ len j) (hj : j ≤ R) (hdone : (∀ j', j' ≤ R → j < j' → ∀ q, q ≤ n → M (s + 8) (j' * 9 + q) = nI (wy n R len col mk j' q))) (hlast : M (s + 8) (j * 9 + n) = nI (wy n R len col mk j n))
    (K : ∀ M2 : Mem, (∀ a, a ≠ s + 8 → M2 a = M a) → (∀ j', j' ≤ R → j ≤ j' → ∀ q, q ≤ n → M2 (s + 8) (j' * 9 + q) = nI (wy n R len col mk j' q)) → S l G b0 yX3_countWays cX3_countWays 4 none (rmZ 1 23) lay Post 0 0 0 0 lay 76 [some (.ref (b0 + s)), some (.int (nI j)), none, none] [] M2) : S l G b0 yX3_countWays cX3_countWays 4 none (rmZ 1 23) lay Post 0 0 0 0 lay 45 [some (.ref (b0 + s)), some (.int (nI (j))), some (.int (nI (j * 9))), some (.int (dn (n - 1) 0))] [] M := by
  obtain ⟨hs0, hs1, hs2, hs3, hs4, hs5, hs6, hs7, hs8⟩ := id hs
  have hpl : pos n mk 0 < 2 ^ 31 := lt31 (pos_lt 0) (by omega)
  have hsl : stt n R len col mk j < 2 ^ 31 := Nat.lt_of_le_of_lt (stt_le j) (lt31 (pos_lt _) (by omega))
  suffices H : ∀ (d : Nat) (i : Nat) (M1 : Mem), n - i = d → i ≤ n → ((∀ a, a ≠ s + 8 → M1 a = M a) ∧ (∀ j', j' ≤ R → j < j' → ∀ q, q ≤ n → M1 (s + 8) (j' * 9 + q) = nI (wy n R len col mk j' q)) ∧ ∀ q, n ≤ q + (i) → q ≤ n → M1 (s + 8) (j * 9 + q) = nI (wy n R len col mk j q)) → S l G b0 yX3_countWays cX3_countWays 4 none (rmZ 1 23) lay Post 0 0 0 0 lay 45 [some (.ref (b0 + s)), some (.int (nI (j))), some (.int (nI (j * 9))), some (.int (dn (n - 1) (i)))] [] M1 from H _ 0 _ rfl (by omega) ⟨fun _ _ => rfl, hdone, fun q h1 h2 => by rw [show q = n by omega]; exact hlast⟩
  intro d
  induction d with
  | zero =>
    intro i M1 hd hi hI
    have e : n = i := by omega
    subst e
    refine S_iload_3 (q := 46) dX3_countWays_45 rfl ?_
    rw [show dn (n - 1) n = dn (n - 1) (n - 1 + 1) from by rw [show n - 1 + 1 = n by omega]]
    refine S_if_lt (t := 76) (q := 49) dX3_countWays_46 (by decide) rfl (fun hb46 => ?_) (fun hb46 => ?_)
    · refine S_fgt2 (S_fgt3 ?_)
      exact K _ hI.1 (fun j' h1 h2 q h3 => by
        rcases Nat.lt_or_ge j j' with h | h
        · exact hI.2.1 j' h1 h q h3
        · rw [show j' = j by omega]
          exact hI.2.2 q (by omega) h3)
    · exact absurd dn_e hb46
  | succ d ih =>
    intro i M1 hd hi hI
    have hlt : i < n := by omega
    rw [dn_i (show i ≤ n - 1 by omega)]
    have hwy : (if (pos n mk 0).testBit (n - 1 - i) = true then M1 (s + 8) (j * 9 + (n - 1 - i) + 1) else nI 0) + (if j < R ∧ (stt n R len col mk j).testBit (n - 1 - i) = true then M1 (s + 8) ((j + 1) * 9 + (n - 1 - i + spn R len col j)) else nI 0) = nI (wy n R len col mk j (n - 1 - i)) := by
      rw [wy_step (show n - 1 - i < n by omega) (hlen j), ← nI_add]
      congr 1
      · split
        · rw [Nat.add_assoc, hI.2.2 _ (by omega) (by omega)]
        · rfl
      · split
        · rename_i h
          have h2 := spn_fit (hlen j h.1) h.2
          exact hI.2.1 (j + 1) (by omega) (by omega) _ (by omega)
        · rfl
    refine S_iload_3 (q := 46) dX3_countWays_45 rfl ?_
    refine S_if_lt (t := 76) (q := 49) dX3_countWays_46 (by decide) rfl (fun hb46 => ?_) (fun hb46 => ?_)
    · exact absurd hb46 (nI_pos (by omega))
    · refine S_aload_0 (q := 50) dX3_countWays_49 rfl ?_
      refine S_getR (q := 53) dX3_countWays_50 fl_X3_40 (by first | assumption | rfl) (by rfl) rfl ?_
      refine S_iload_2 (q := 54) dX3_countWays_53 rfl ?_
      refine S_iload_3 (q := 55) dX3_countWays_54 rfl ?_
      refine S_iadd (q := 56) dX3_countWays_55 rfl ?_
      refine S_aload_0 (q := 57) dX3_countWays_56 rfl ?_
      refine S_iload_1 (q := 58) dX3_countWays_57 rfl ?_
      refine S_iload_3 (q := 59) dX3_countWays_58 rfl ?_
      refine S_callV2i (q := 62) dX3_countWays_59 lk_X3_101 (by first | assumption | rfl) rfl rfl (k_X3_whiteWays hs (P := pos n mk 0) (by rw [hI.1 (s + 5) (by omega)]; exact hpo) hpl (show n - 1 - i < 8 by omega) (show j ≤ 8 by omega)) rfl rfl (Nat.le_of_ble_eq_true rfl) ⟨Nat.le_of_ble_eq_true rfl, Nat.le_of_ble_eq_true rfl⟩ ⟨Nat.le_of_ble_eq_true rfl, Nat.le_of_ble_eq_true rfl⟩ rfl (fun v59 M59 hv59 => ?_)
      obtain ⟨rfl, rfl⟩ := hv59
      refine S_aload_0 (q := 63) dX3_countWays_62 rfl ?_
      refine S_iload_1 (q := 64) dX3_countWays_63 rfl ?_
      refine S_iload_3 (q := 65) dX3_countWays_64 rfl ?_
      refine S_callV2i (q := 68) dX3_countWays_65 lk_X3_104 (by first | assumption | rfl) rfl rfl (k_X3_runWays hs (by rw [hI.1 s (by omega)]; exact hn) hn8 (R := R) (St := stt n R len col mk j) (sp := spn R len col j) (by rw [hI.1 s (by omega)]; exact hR) hR8 (fun h => by rw [hI.1 (s + 4) (by omega), hI.1 (s + 3) (by omega)]; exact ⟨(hru j h).2.2.2, (hru j h).2.2.1⟩) hsl (fun h z => (spn_fit (hlen j h) z).1) (show n - 1 - i < 8 by omega) (show j ≤ 8 by omega)) rfl rfl (Nat.le_of_ble_eq_true rfl) ⟨Nat.le_of_ble_eq_true rfl, Nat.le_of_ble_eq_true rfl⟩ ⟨Nat.le_of_ble_eq_true rfl, Nat.le_of_ble_eq_true rfl⟩ rfl (fun v65 M65 hv65 => ?_)
      obtain ⟨rfl, rfl⟩ := hv65
      refine S_iadd (q := 69) dX3_countWays_68 rfl ?_
      refine S_iastE (i := j * 9 + (n - 1 - i)) (q := 70) dX3_countWays_69 (by first | assumption | rfl) (by first | (simp only [nI_add, pk_mul, nI_1]; done) | rfl) (by omega) (by decide) rfl ?_
      refine S_iinc_3 (q := 73) (dn (n - 1) (i + 1)) dX3_countWays_70 (dn_s (by omega)) rfl ?_
      refine S_goto (t := 45) dX3_countWays_73 (by decide) ?_
      exact ih (i + 1) _ (by omega) hlt ⟨fun a ha => by rw [up_n ha]; exact hI.1 a ha, fun j' h1 h2 q h3 => by
              rw [up_eq, if_neg (by omega)]
              exact hI.2.1 j' h1 h2 q h3, fun q h1 h2 => by
              rw [up_eq]
              by_cases e : q = n - 1 - i
              · subst e
                rw [if_pos ⟨rfl, rfl⟩, hwy]
              · rw [if_neg (fun z => e (by omega))]
                exact hI.2.2 q (by omega) h2⟩
set_option maxHeartbeats 4000000 in
set_option maxRecDepth 100000 in
theorem k_X3_countWays {l : Launch} {G : Gd} {b0 : Nat} {lay : Lay} {M : Mem} {s n R : Nat} {len col mk : Nat → Nat} (hs : isL lay s) (hn : M s 0 = nI n) (hn1 : 1 ≤ n) (hn8 : n ≤ 8) (hR : M s 1 = nI R) (hR8 : R ≤ 8) (hru : RUNS M s n R len col mk R) (hpo : M (s + 5) 0 = nI (pos n mk 0)) (hlen : ∀ j, j < R → 1 ≤ len j)  : Ct l G b0 yX3_countWays cX3_countWays 4 none (rmZ 1 23) lay lay M [.ref (b0 + s)] (fun v M' => (∀ a, a ≠ s + 8 → M' a = M a) ∧ ∀ j, j ≤ R → ∀ q, q ≤ n → M' (s + 8) (j * 9 + q) = nI (wy n R len col mk j q)) := by
  obtain ⟨hs0, hs1, hs2, hs3, hs4, hs5, hs6, hs7, hs8⟩ := id hs
  refine Ct.of [some (.ref (b0 + s)), none, none, none] (by decide) (Nat.le_of_ble_eq_true rfl) rfl rfl ?_
  refine S_aload_0 (q := 1) dX3_countWays_0 rfl ?_
  refine S_getI (q := 4) dX3_countWays_1 fl_X3_15 (by first | assumption | rfl) (by rfl) rfl ?_
  rw [hR, show nI R = dn R 0 from rfl]
  refine S_istore_1 (q := 5) dX3_countWays_4 rfl ?_
  suffices H : ∀ (d : Nat) (i : Nat) (M1 : Mem), (R + 1) - i = d → i ≤ (R + 1) → ((∀ a, a ≠ s + 8 → M1 a = M a) ∧ (∀ j', j' ≤ R → R < j' + (i) → ∀ q, q ≤ n → M1 (s + 8) (j' * 9 + q) = nI (wy n R len col mk j' q))) → S l G b0 yX3_countWays cX3_countWays 4 none (rmZ 1 23) lay (fun v M' => (∀ a, a ≠ s + 8 → M' a = M a) ∧ ∀ j, j ≤ R → ∀ q, q ≤ n → M' (s + 8) (j * 9 + q) = nI (wy n R len col mk j q)) 0 0 0 0 lay 5 [some (.ref (b0 + s)), some (.int (dn R (i))), none, none] [] M1 from H _ 0 _ rfl (by omega) ⟨fun _ _ => rfl, fun j' h1 h2 => absurd h2 (by omega)⟩
  intro d
  induction d with
  | zero =>
    intro i M1 hd hi hI
    have e : (R + 1) = i := by omega
    subst e
    refine S_iload_1 (q := 6) dX3_countWays_5 rfl ?_
    refine S_if_lt (t := 82) (q := 9) dX3_countWays_6 (by decide) rfl (fun hb6 => ?_) (fun hb6 => ?_)
    · exact S_ret (v := 0) rfl dX3_countWays_82 rfl ⟨hI.1, fun j hj q hq => hI.2 j hj (by omega) q hq⟩
    · exact absurd dn_e hb6
  | succ d ih =>
    intro i M1 hd hi hI
    have hlt : i < (R + 1) := by omega
    rw [dn_i (show i ≤ R by omega)]
    refine S_iload_1 (q := 6) dX3_countWays_5 rfl ?_
    refine S_if_lt (t := 82) (q := 9) dX3_countWays_6 (by decide) rfl (fun hb6 => ?_) (fun hb6 => ?_)
    · exact absurd hb6 (nI_pos (by omega))
    · refine S_iload_1 (q := 10) dX3_countWays_9 rfl ?_
      refine S_bipush (q := 12) (nI 9) dX3_countWays_10 (by decide) rfl ?_
      refine S_imul (q := 13) dX3_countWays_12 rfl ?_
      rw [pk_mul]
      refine S_istore_2 (q := 14) dX3_countWays_13 rfl ?_
      refine S_aload_0 (q := 15) dX3_countWays_14 rfl ?_
      refine S_getR (q := 18) dX3_countWays_15 fl_X3_40 (by first | assumption | rfl) (by rfl) rfl ?_
      refine S_iload_2 (q := 19) dX3_countWays_18 rfl ?_
      refine S_aload_0 (q := 20) dX3_countWays_19 rfl ?_
      refine S_getI (q := 23) dX3_countWays_20 fl_X3_9 (by first | assumption | rfl) (by rfl) rfl ?_
      rw [hI.1 s (by omega), hn]
      refine S_iadd (q := 24) dX3_countWays_23 rfl ?_
      refine S_iload_1 (q := 25) dX3_countWays_24 rfl ?_
      refine S_aload_0 (q := 26) dX3_countWays_25 rfl ?_
      refine S_getI (q := 29) dX3_countWays_26 fl_X3_15 (by first | assumption | rfl) (by rfl) rfl ?_
      rw [hI.1 s (by omega), hR]
      refine S_icmp_ne (t := 36) (q := 32) dX3_countWays_29 (by decide) rfl (fun hb29 => ?_) (fun hb29 => ?_)
      · have hb29 : ¬ R - i = R := fun h => hb29 (by rw [h])
        refine S_iconst (q := 37) (nI 0) dX3_countWays_36 (by decide) rfl ?_
        refine S_iastE (i := (R - i) * 9 + n) (q := 38) dX3_countWays_37 (by first | assumption | rfl) (by rw [nI_add]) (by omega) (by decide) rfl ?_
        refine S_aload_0 (q := 39) dX3_countWays_38 rfl ?_
        refine S_getI (q := 42) dX3_countWays_39 fl_X3_9 (by first | assumption | rfl) (by rfl) rfl ?_
        refine S_iconst (q := 43) (nI 1) dX3_countWays_42 (by decide) rfl ?_
        rw [up_n (show s ≠ s + 8 by omega), hI.1 s (by omega), hn]
        refine S_isub (q := 44) dX3_countWays_43 rfl ?_
        rw [pk_sub hn1, show nI (n - 1) = dn (n - 1) 0 from rfl]
        refine S_istore_3 (q := 45) dX3_countWays_44 rfl ?_
        refine q_countWays hs (n := n) (R := R) (j := R - i) (by rw [up_n (show s ≠ s + 8 by omega), hI.1 s (by omega)]; exact hn) hn1 hn8 (by rw [up_n (show s ≠ s + 8 by omega), hI.1 s (by omega)]; exact hR) hR8 (fun j hj => by rw [up_n (show s + 1 ≠ s + 8 by omega), up_n (show s + 2 ≠ s + 8 by omega), up_n (show s + 3 ≠ s + 8 by omega), up_n (show s + 4 ≠ s + 8 by omega), hI.1 (s + 1) (by omega), hI.1 (s + 2) (by omega), hI.1 (s + 3) (by omega), hI.1 (s + 4) (by omega)]; exact hru j hj) (by rw [up_n (show s + 5 ≠ s + 8 by omega), hI.1 (s + 5) (by omega)]; exact hpo) hlen (by omega) (fun j' h1 h2 q h3 => by rw [up_eq, if_neg (by omega)]; exact hI.2 j' h1 (by omega) q h3) (by rw [up_s, wy_end]; first | rw [if_pos hb29] | rw [if_neg hb29]) (fun M2 h1 h2 => ?_)
        refine S_iinc_1 (q := 79) (dn R (i + 1)) dX3_countWays_76 (dn_s (by omega)) rfl ?_
        refine S_goto (t := 5) dX3_countWays_79 (by decide) ?_
        exact ih (i + 1) _ (by omega) hlt ⟨fun a ha => by rw [h1 a ha, up_n ha]; exact hI.1 a ha, fun j' g1 g2 q g3 => h2 j' g1 (by omega) q g3⟩
      · have hb29 : R - i = R := nI_inj (by omega) (by omega) hb29
        refine S_iconst (q := 33) (nI 1) dX3_countWays_32 (by decide) rfl ?_
        refine S_goto (t := 37) dX3_countWays_33 (by decide) ?_
        refine S_iastE (i := (R - i) * 9 + n) (q := 38) dX3_countWays_37 (by first | assumption | rfl) (by rw [nI_add]) (by omega) (by decide) rfl ?_
        refine S_aload_0 (q := 39) dX3_countWays_38 rfl ?_
        refine S_getI (q := 42) dX3_countWays_39 fl_X3_9 (by first | assumption | rfl) (by rfl) rfl ?_
        refine S_iconst (q := 43) (nI 1) dX3_countWays_42 (by decide) rfl ?_
        rw [up_n (show s ≠ s + 8 by omega), hI.1 s (by omega), hn]
        refine S_isub (q := 44) dX3_countWays_43 rfl ?_
        rw [pk_sub hn1, show nI (n - 1) = dn (n - 1) 0 from rfl]
        refine S_istore_3 (q := 45) dX3_countWays_44 rfl ?_
        refine q_countWays hs (n := n) (R := R) (j := R - i) (by rw [up_n (show s ≠ s + 8 by omega), hI.1 s (by omega)]; exact hn) hn1 hn8 (by rw [up_n (show s ≠ s + 8 by omega), hI.1 s (by omega)]; exact hR) hR8 (fun j hj => by rw [up_n (show s + 1 ≠ s + 8 by omega), up_n (show s + 2 ≠ s + 8 by omega), up_n (show s + 3 ≠ s + 8 by omega), up_n (show s + 4 ≠ s + 8 by omega), hI.1 (s + 1) (by omega), hI.1 (s + 2) (by omega), hI.1 (s + 3) (by omega), hI.1 (s + 4) (by omega)]; exact hru j hj) (by rw [up_n (show s + 5 ≠ s + 8 by omega), hI.1 (s + 5) (by omega)]; exact hpo) hlen (by omega) (fun j' h1 h2 q h3 => by rw [up_eq, if_neg (by omega)]; exact hI.2 j' h1 (by omega) q h3) (by rw [up_s, wy_end]; first | rw [if_pos hb29] | rw [if_neg hb29]) (fun M2 h1 h2 => ?_)
        refine S_iinc_1 (q := 79) (dn R (i + 1)) dX3_countWays_76 (dn_s (by omega)) rfl ?_
        refine S_goto (t := 5) dX3_countWays_79 (by decide) ?_
        exact ih (i + 1) _ (by omega) hlt ⟨fun a ha => by rw [h1 a ha, up_n ha]; exact hI.1 a ha, fun j' g1 g2 q g3 => h2 j' g1 (by omega) q g3⟩
/-- the line solver at s has loaded a line -/
def LDD (M : Mem) (s n R : Nat) (len col mk : Nat → Nat) : Prop := M s 0 = nI n ∧ M s 1 = nI R ∧ RUNS M s n R len col mk R ∧ (∀ k, k < 4 → M (s + 5) k = nI (pos n mk k)) ∧ ∀ j, j ≤ R → ∀ q, q ≤ n → M (s + 8) (j * 9 + q) = nI (wy n R len col mk j q)
theorem lnLen_1 {r c i : Nat} (hr1 : 1 ≤ r) (hc1 : 1 ≤ c) : 1 ≤ lnLen r c i := by unfold lnLen; split <;> omega
set_option maxHeartbeats 4000000 in
set_option maxRecDepth 100000 in
theorem k_X3_load {l : Launch} {G : Gd} {b0 : Nat} {lay : Lay} {M : Mem} {s g r c i0 R : Nat} {f len col : Nat → Nat} (hs : isL lay s) (hg : isG lay g) (hr : M g 0 = nI r) (hcl : M g 1 = nI c) (hr8 : r ≤ 8) (hc8 : c ≤ 8) (hr1 : 1 ≤ r) (hc1 : 1 ≤ c) (hi0 : i0 < r + c) (hsg : s + 9 ≤ g ∨ g + 6 ≤ s) (hce : CE M (g + 5) (r * c) f) (hu : CU M (g + 1) i0 R len col) : Ct l G b0 yX3_load cX3_load 3 none (rmZ 2 48) lay lay M [.ref (b0 + s), .ref (b0 + g), .int (nI i0)] (fun v M' => (∀ a, (a < s ∨ s + 9 ≤ a) → M' a = M a) ∧ LDD M' s (lnLen r c i0) R len col (fun q => f (lnCell r c i0 q)) ∧ ∀ a, a = s + 6 ∨ a = s + 7 → M' a = M a) := by
  have hl8 := lnLen_le (i := i0) hr8 hc8
  have hl1 := lnLen_1 (i := i0) hr1 hc1
  obtain ⟨hs0, hs1, hs2, hs3, hs4, hs5, hs6, hs7, hs8⟩ := id hs
  obtain ⟨hg0, ⟨hq0, hq1, hq2, hq3⟩, hg5⟩ := id hg
  refine Ct.of [some (.ref (b0 + s)), some (.ref (b0 + g)), some (.int (nI i0))] (by decide) (Nat.le_of_ble_eq_true rfl) rfl rfl ?_
  refine S_aload_0 (q := 1) dX3_load_0 rfl ?_
  refine S_aload_1 (q := 2) dX3_load_1 rfl ?_
  refine S_iload_2 (q := 3) dX3_load_2 rfl ?_
  refine S_callV1i (q := 6) dX3_load_3 lk_X3_49 (by first | assumption | rfl) rfl rfl (k_X1_lineLength hg hr hcl hr8 hc8 (show i0 < 16 by omega)) rfl rfl (Nat.le_of_ble_eq_true rfl) ⟨Nat.le_of_ble_eq_true rfl, Nat.le_of_ble_eq_true rfl⟩ ⟨Nat.le_of_ble_eq_true rfl, Nat.le_of_ble_eq_true rfl⟩ rfl (fun v3 M3 hv3 => ?_)
  obtain ⟨rfl, rfl⟩ := hv3
  refine S_putI (q := 9) dX3_load_6 fp_X3_9 (by first | assumption | rfl) (by rfl) rfl (by rfl) rfl ?_
  refine S_aload_0 (q := 10) dX3_load_9 rfl ?_
  refine S_aload_1 (q := 11) dX3_load_10 rfl ?_
  refine S_getR (q := 14) dX3_load_11 fl_X3_55 (by first | assumption | rfl) (by rfl) rfl ?_
  refine S_iload_2 (q := 15) dX3_load_14 rfl ?_
  refine S_callV1i (q := 18) dX3_load_15 lk_X3_59 (by first | assumption | rfl) rfl rfl (k_X0_runsOf ⟨hq0, hq1, hq2, hq3⟩ (show i0 < 16 by omega)) rfl rfl (Nat.le_of_ble_eq_true rfl) ⟨Nat.le_of_ble_eq_true rfl, Nat.le_of_ble_eq_true rfl⟩ ⟨Nat.le_of_ble_eq_true rfl, Nat.le_of_ble_eq_true rfl⟩ rfl (fun v15 M15 hv15 => ?_)
  obtain ⟨rfl, rfl⟩ := hv15
  rw [up_n (show g + 1 + 1 ≠ s by omega), hu.1]
  refine S_putI (q := 21) dX3_load_18 fp_X3_15 (by first | assumption | rfl) (by rfl) rfl (by rfl) rfl ?_
  refine S_aload_0 (q := 22) dX3_load_21 rfl ?_
  refine S_aload_1 (q := 23) dX3_load_22 rfl ?_
  refine S_iload_2 (q := 24) dX3_load_23 rfl ?_
  refine S_callV2v (q := 27) dX3_load_24 lk_X3_64 (by first | assumption | rfl) rfl rfl (k_X3_loadCandidates hs hg (r := r) (c := c) (f := f) (by rw [up_n (by omega), up_n (by omega)]; exact hr) (by rw [up_n (by omega), up_n (by omega)]; exact hcl) hr8 hc8 hi0 (by rw [up_eq, if_neg (by omega), up_eq, if_pos ⟨rfl, rfl⟩]) hsg (fun j hj => by rw [up_n (by omega), up_n (by omega)]; exact hce j hj)) rfl rfl (Nat.le_of_ble_eq_true rfl) ⟨Nat.le_of_ble_eq_true rfl, Nat.le_of_ble_eq_true rfl⟩ ⟨Nat.le_of_ble_eq_true rfl, Nat.le_of_ble_eq_true rfl⟩ rfl (fun v24 M24 hv24 => ?_)
  have h24 := hv24
  refine S_aload_0 (q := 28) dX3_load_27 rfl ?_
  refine S_aload_1 (q := 29) dX3_load_28 rfl ?_
  refine S_getR (q := 32) dX3_load_29 fl_X3_55 (by first | assumption | rfl) (by rfl) rfl ?_
  refine S_iload_2 (q := 33) dX3_load_32 rfl ?_
  refine S_callV2v (q := 36) dX3_load_33 lk_X3_68 (by first | assumption | rfl) rfl rfl (k_X3_loadRuns hs ⟨hq0, hq1, hq2, hq3⟩ (n := lnLen r c i0) (R := R) (mk := (fun q => f (lnCell r c i0 q))) (show i0 < 16 by omega) hl8 (by rw [h24.1 s (by omega), up_eq, if_pos ⟨rfl, rfl⟩]) (by omega) (len := len) (col := col) ⟨by rw [h24.1 _ (by omega), up_n (by omega), up_n (by omega)]; exact hu.1, hu.2.1, fun j hj => by rw [h24.1 (g + 1 + 2) (by omega), h24.1 (g + 1 + 3) (by omega), up_n (by omega), up_n (by omega), up_n (by omega), up_n (by omega)]; exact hu.2.2 j hj⟩ h24.2) rfl rfl (Nat.le_of_ble_eq_true rfl) ⟨Nat.le_of_ble_eq_true rfl, Nat.le_of_ble_eq_true rfl⟩ ⟨Nat.le_of_ble_eq_true rfl, Nat.le_of_ble_eq_true rfl⟩ rfl (fun v33 M33 hv33 => ?_)
  have h33 := hv33
  refine S_aload_0 (q := 37) dX3_load_36 rfl ?_
  refine S_callV0v (q := 40) dX3_load_37 lk_X3_72 (by first | assumption | rfl) rfl rfl (k_X3_countWays hs (n := lnLen r c i0) (R := R) (len := len) (col := col) (mk := (fun q => f (lnCell r c i0 q))) (by rw [h33.1 s (by omega), h24.1 s (by omega), up_eq, if_neg (by omega), up_eq, if_pos ⟨rfl, rfl⟩]) hl1 hl8 (by rw [h33.1 s (by omega), h24.1 s (by omega), up_eq, if_pos ⟨rfl, rfl⟩]) hu.2.1 h33.2 (by rw [h33.1 (s + 5) (by omega)]; exact h24.2 0 (by omega)) (fun j hj => (hu.2.2 j hj).2.1)) rfl rfl (Nat.le_of_ble_eq_true rfl) ⟨Nat.le_of_ble_eq_true rfl, Nat.le_of_ble_eq_true rfl⟩ ⟨Nat.le_of_ble_eq_true rfl, Nat.le_of_ble_eq_true rfl⟩ rfl (fun v37 M37 hv37 => ?_)
  have h36 := hv37
  exact S_ret (v := 0) rfl dX3_load_40 rfl (by
      refine ⟨fun a ha => ?_, ⟨?_, ?_, fun j hj => ?_, fun k hk => ?_, fun j hj q hq => h36.2 j hj q hq⟩, fun a ha => ?_⟩
      · rw [h36.1 a (by omega), h33.1 a (by omega), h24.1 a (by omega), up_n (by omega), up_n (by omega)]
      · rw [h36.1 s (by omega), h33.1 s (by omega), h24.1 s (by omega), up_eq, if_neg (by omega), up_eq, if_pos ⟨rfl, rfl⟩]
      · rw [h36.1 s (by omega), h33.1 s (by omega), h24.1 s (by omega), up_eq, if_pos ⟨rfl, rfl⟩]
      · rw [h36.1 (s + 1) (by omega), h36.1 (s + 2) (by omega), h36.1 (s + 3) (by omega), h36.1 (s + 4) (by omega)]; exact h33.2 j hj
      · rw [h36.1 (s + 5) (by omega), h33.1 (s + 5) (by omega)]; exact h24.2 k hk
      · rw [h36.1 a (by omega), h33.1 a (by omega), h24.1 a (by omega), up_n (by omega), up_n (by omega)])
