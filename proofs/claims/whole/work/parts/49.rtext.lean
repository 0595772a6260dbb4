set_option maxHeartbeats 4000000 in
set_option maxRecDepth 100000 in
theorem k_X10_appendText {l : Launch} {G : Gd} {b0 : Nat} {M : Mem} {A : Ab} {x : Int32}  (hC : RR M A) (hk : A.ok)  : Ct l G b0 yX10_appendText cX10_appendText 2 (some .int) (rmZ 1 23) LAY LAY M [.ref (b0 + 140), .int x] (fun v M' => RSR M (o_app A x) v M') := by
  obtain ⟨⟨g0, g1, g2, gcu, gce⟩, hru, hhi, hbad, hask, htx, hfo, hsn, htb⟩ := id hC
  have hP := hk.P
  have hr1 := hP.r1
  have hr8 := hP.r8
  have hc1 := hP.c1
  have hc8 := hP.c8
  have hk1 := hP.k1
  have hk3 := hP.k3
  have h64 := rc64 hr8 hc8
  have hH8 := hk.H8
  have hN : A.N = A.P.r + A.P.c := rfl
  refine Ct.of [some (.ref (b0 + 140)), some (.int x)] (by decide) (Nat.le_of_ble_eq_true rfl) rfl rfl ?_
  refine S_aload_0 (q := 1) dX10_appendText_0 rfl ?_
  refine S_iload_1 (q := 2) dX10_appendText_1 rfl ?_
  refine S_bipush (q := 4) (nI 32) dX10_appendText_2 (by decide) rfl ?_
  refine S_bipush (q := 6) (nI 126) dX10_appendText_4 (by decide) rfl ?_
  refine S_callV3i (q := 9) dX10_appendText_6 lk_X10_172 (by first | assumption | rfl) rfl rfl (k_X10_within) rfl rfl (Nat.le_of_ble_eq_true rfl) ⟨Nat.le_of_ble_eq_true rfl, Nat.le_of_ble_eq_true rfl⟩ ⟨Nat.le_of_ble_eq_true rfl, Nat.le_of_ble_eq_true rfl⟩ rfl (fun v6 M6 hv6 => ?_)
  obtain ⟨e6, rfl⟩ := hv6
  rw [e6]
  refine S_if_ne (t := 15) (q := 12) dX10_appendText_9 (by decide) rfl (fun hb9 => ?_) (fun hb9 => ?_)
  · obtain ⟨ch, hx1', hx2', rfl, hx⟩ := iw_ok (by decide) (by decide) (bI_n.mp hb9)
    refine S_aload_0 (q := 16) dX10_appendText_15 rfl ?_
    refine S_getI (q := 19) dX10_appendText_16 fl_X10_117 (by first | assumption | rfl) (by rfl) rfl ?_
    refine S_bipush (q := 21) (nI 120) dX10_appendText_19 (by decide) rfl ?_
    rw [htx.1]
    refine S_icmp_ne (t := 27) (q := 24) dX10_appendText_21 (by decide) rfl (fun hb21 => ?_) (fun hb21 => ?_)
    · have ht : ¬ A.tx.2 = 120 := fun e => hb21 (by rw [e])
      refine S_aload_0 (q := 28) dX10_appendText_27 rfl ?_
      refine S_getR (q := 31) dX10_appendText_28 fl_X10_111 (by first | assumption | rfl) (by rfl) rfl ?_
      refine S_aload_0 (q := 32) dX10_appendText_31 rfl ?_
      refine S_getI (q := 35) dX10_appendText_32 fl_X10_117 (by first | assumption | rfl) (by rfl) rfl ?_
      refine S_iload_1 (q := 36) dX10_appendText_35 rfl ?_
      refine S_iastE (i := A.tx.2) (q := 37) dX10_appendText_36 (by first | assumption | rfl) htx.1 (by have := hk.tx.1; omega) (by decide) rfl ?_
      refine S_aload_0 (q := 38) dX10_appendText_37 rfl ?_
      refine S_dup (q := 39) dX10_appendText_38 rfl rfl ?_
      refine S_getI (q := 42) dX10_appendText_39 fl_X10_117 (by first | assumption | rfl) (by rfl) rfl ?_
      rw [up_n (by decide), htx.1]
      refine S_iconst (q := 43) (nI 1) dX10_appendText_42 (by decide) rfl ?_
      refine S_iadd (q := 44) dX10_appendText_43 rfl ?_
      refine S_putI (q := 47) dX10_appendText_44 fp_X10_117 (by first | assumption | rfl) (by rfl) rfl (by rfl) rfl ?_
      refine S_aload_0 (q := 48) dX10_appendText_47 rfl ?_
      refine S_getI (q := 51) dX10_appendText_48 fl_X10_117 (by first | assumption | rfl) (by rfl) rfl ?_
      rw [up_s]
      exact S_iret rfl dX10_appendText_51 rfl rfl (RSR.to (A := mkA A.P A.f A.H A.ru A.bad (psh A.tx ch) A.fo A.tb A.sn) (hC.oth hk (fun k hk2 => by rw [up_eq, if_neg (by omega), up_n (by decide)]) (fun a ha => by rw [up_n (by omega), up_n (by omega)]) (by rw [up_eq, if_neg (by decide), up_n (by decide)]; exact hru) ⟨by rw [up_s]; exact nI_add _ 1, fun j hj => (by
            have hj' : j < A.tx.2 + 1 := hj
            show _ = nI (upf A.tx.1 A.tx.2 ch j)
            rw [up_n (by decide), up_eq]
            by_cases e : j = A.tx.2
            · rw [if_pos ⟨rfl, e⟩, e, upf_s]
            · rw [if_neg (fun y => e y.2), upf_n e]; exact htx.2 j (by omega))⟩ (hfo.fr (by rw [up_eq, if_neg (by omega), up_n (by decide)]) (by rw [up_n (by decide), up_n (by decide)])) (hsn.fr (fun k _ _ => (by rw [up_eq, if_neg (by omega), up_n (by decide)])) (fun a _ _ => by rw [up_n (by omega), up_n (by omega)])) (htb.fr (fun a _ _ => by rw [up_n (by omega), up_n (by omega)]))) (fun a ha => by rw [up_n (by omega), up_n (by omega)]) (by unfold o_app; rw [show iw (nI ch) 32 126 = some ch from hx]; simp only [if_neg ht]; rw [nI_add]; rfl))
    · have ht : A.tx.2 = 120 := nI_inj (by have := hk.tx.1; omega) (by decide) hb21
      refine S_bipush (q := 26) (-3) dX10_appendText_24 (by decide) rfl ?_
      exact S_iret rfl dX10_appendText_26 rfl rfl (RSR.same hC (by unfold o_app; rw [show iw (nI ch) 32 126 = some ch from hx]; simp only [if_pos ht]))
  · have hx := iw_no (bI_0.mp hb9)
    refine S_bipush (q := 14) (-2) dX10_appendText_12 (by decide) rfl ?_
    exact S_iret rfl dX10_appendText_14 rfl rfl (RSR.same hC (by unfold o_app; rw [show iw x 32 126 = none from hx]))
/-- the clues that were read, up to the line that is being read -/
def NWR (M : Mem) (s : PS) : Prop := ∀ i, i ≤ s.1 → M 156 i = nI (s.2.2.1 i) ∧ ∀ j, j < s.2.2.1 i → M 157 (i * 8 + j) = nI (s.2.2.2.1 i j) ∧ M 158 (i * 8 + j) = nI (s.2.2.2.2 i j)
theorem let_w : ∀ ch, ch < 127 → ∀ k, k < 4 → 1 ≤ k → ((nI 97 ≤ nI ch ∧ nI ch ≤ nI (97 + k - 1)) ↔ (97 ≤ ch ∧ ch ≤ 96 + k)) := by decide +kernel
theorem dig_w : ∀ ch, ch < 127 → ((nI 49 ≤ nI ch ∧ nI ch ≤ nI 56) ↔ (49 ≤ ch ∧ ch ≤ 56)) := by decide +kernel
set_option maxHeartbeats 4000000 in
set_option maxRecDepth 100000 in
theorem k_X10_read {l : Launch} {G : Gd} {b0 : Nat} {M : Mem} {A : Ab}  (hC : RR M A) (hk : A.ok)  : Ct l G b0 yX10_read cX10_read 6 (some .int) (rmZ 1 23) LAY LAY M [.ref (b0 + 140), .int (nI A.tx.2)] (fun v M' => (∀ a, (a < 156 ∨ 158 < a) → M' a = M a) ∧ (∀ q, psR A.P A.tx.1 A.tx.2 = .inl q → v = nI q) ∧ ∀ s, psR A.P A.tx.1 A.tx.2 = .inr s → v = -1 ∧ NWR M' s) := by
  obtain ⟨⟨g0, g1, g2, gcu, gce⟩, hru, hhi, hbad, hask, htx, hfo, hsn, htb⟩ := id hC
  have hP := hk.P
  have hr1 := hP.r1
  have hr8 := hP.r8
  have hc1 := hP.c1
  have hc8 := hP.c8
  have hk1 := hP.k1
  have hk3 := hP.k3
  have h64 := rc64 hr8 hc8
  have hH8 := hk.H8
  have hN : A.N = A.P.r + A.P.c := rfl
  have hn120 := hk.tx.1
  have hbd : ∀ (i : Nat) (s : PS), i < A.tx.2 → psT A.P A.tx.1 A.tx.2 (A.tx.2 - i) s = psT A.P A.tx.1 A.tx.2 A.tx.2 ps0 → psS A.P (A.tx.1 i) s = none → psR A.P A.tx.1 A.tx.2 = .inl i := fun i s hi h1 h2 => by
    unfold psR
    rw [← h1, psT_at hi, h2]
  refine Ct.of [some (.ref (b0 + 140)), some (.int (nI A.tx.2)), none, none, none, none] (by decide) (Nat.le_of_ble_eq_true rfl) rfl rfl ?_
  refine S_iconst (q := 1) (nI 0) dX10_read_0 (by decide) rfl ?_
  refine S_istore_2 (q := 2) dX10_read_1 rfl ?_
  refine S_iconst (q := 3) (nI 0) dX10_read_2 (by decide) rfl ?_
  refine S_istore_3 (q := 4) dX10_read_3 rfl ?_
  refine S_aload_0 (q := 5) dX10_read_4 rfl ?_
  refine S_getR (q := 8) dX10_read_5 fl_X10_123 (by first | assumption | rfl) (by rfl) rfl ?_
  refine S_iconst (q := 9) (nI 0) dX10_read_8 (by decide) rfl ?_
  refine S_iconst (q := 10) (nI 0) dX10_read_9 (by decide) rfl ?_
  refine S_iastE (i := 0) (q := 11) dX10_read_10 (by first | assumption | rfl) (by first | (simp only [nI_add, pk_mul, nI_1]; done) | rfl) (by omega) (by decide) rfl ?_
  refine S_iconst (q := 12) (nI 0) dX10_read_11 (by decide) rfl ?_
  refine S_istore_4 (q := 14) dX10_read_12 rfl ?_
  suffices H : ∀ (d i : Nat) (s : PS) (M1 : Mem), A.tx.2 - i = d → i ≤ A.tx.2 → ((∀ a, (a < 156 ∨ 158 < a) → M1 a = M a) ∧ NWR M1 s ∧ PSok A.P s ∧ psT A.P A.tx.1 A.tx.2 (A.tx.2 - (i)) s = psT A.P A.tx.1 A.tx.2 A.tx.2 ps0) → S l G b0 yX10_read cX10_read 6 (some .int) (rmZ 1 23) LAY (fun v M' => (∀ a, (a < 156 ∨ 158 < a) → M' a = M a) ∧ (∀ q, psR A.P A.tx.1 A.tx.2 = .inl q → v = nI q) ∧ ∀ s, psR A.P A.tx.1 A.tx.2 = .inr s → v = -1 ∧ NWR M' s) 0 0 0 0 LAY 14 [some (.ref (b0 + 140)), some (.int (nI A.tx.2)), some (.int (nI s.1)), some (.int (nI s.2.1)), some (.int (nI (i))), none] [] M1 from H _ 0 (ps0) _ rfl (by omega) ⟨fun a ha => up_n (by omega), fun i hi => (by
    have hi0 : i = 0 := Nat.le_zero.mp hi
    subst hi0
    exact ⟨up_s, fun j (hj : j < 0) => absurd hj (Nat.not_lt_zero j)⟩), PSok.zero hP, rfl⟩
  intro d
  induction d with
  | zero =>
    intro i s M1 hd hi hI
    have e : A.tx.2 = i := by omega
    subst e
    have hl1 := hI.2.2.1.1
    refine S_iload_4 (q := 16) dX10_read_14 rfl ?_
    refine S_iload_1 (q := 17) dX10_read_16 rfl ?_
    refine S_icmp_ge (t := 183) (q := 20) dX10_read_17 (by decide) rfl (fun hb17 => ?_) (fun hb17 => ?_)
    · have hT : psT A.P A.tx.1 A.tx.2 A.tx.2 ps0 = .inr s := by rw [← hI.2.2.2, Nat.sub_self]; rfl
      refine S_iload_3 (q := 184) dX10_read_183 rfl ?_
      refine S_if_gt (t := 197) (q := 187) dX10_read_184 (by decide) rfl (fun hb184 => ?_) (fun hb184 => ?_)
      · have h0 : ¬ s.2.1 = 0 := fun e => by rw [e] at hb184; exact absurd hb184 (by decide)
        have hbad : psR A.P A.tx.1 A.tx.2 = .inl A.tx.2 := by unfold psR; rw [hT]; simp only; rw [if_neg (fun y => h0 y.1)]
        refine S_iload_1 (q := 198) dX10_read_197 rfl ?_
        refine S_goto (t := 202) dX10_read_198 (by decide) ?_
        exact S_iret rfl dX10_read_202 rfl rfl (⟨hI.1, fun q hq => (by rw [hbad] at hq; cases hq; rfl), fun s1 hq => (by rw [hbad] at hq; cases hq)⟩)
      · have h0 : s.2.1 = 0 := by
          have hp8 := hI.2.2.1.2.1
          exact Decidable.byContradiction (fun y => hb184 ((nI_ltI (a := 0) (by decide) (by omega)).mpr (by omega)))
        refine S_iload_2 (q := 188) dX10_read_187 rfl ?_
        refine S_aload_0 (q := 189) dX10_read_188 rfl ?_
        refine S_callV0i (q := 192) dX10_read_189 lk_X10_168 (by first | assumption | rfl) rfl rfl (k_X10_lines (by rw [hI.1 140 (by decide)]; exact g0) (by rw [hI.1 140 (by decide)]; exact g1)) rfl rfl (Nat.le_of_ble_eq_true rfl) ⟨Nat.le_of_ble_eq_true rfl, Nat.le_of_ble_eq_true rfl⟩ ⟨Nat.le_of_ble_eq_true rfl, Nat.le_of_ble_eq_true rfl⟩ rfl (fun v189 M189 hv189 => ?_)
        obtain ⟨e189, rfl⟩ := hv189
        rw [e189]
        refine S_iconst (q := 193) (nI 1) dX10_read_192 (by decide) rfl ?_
        refine S_isub (q := 194) dX10_read_193 rfl ?_
        refine S_icmp_ge (t := 201) (q := 197) dX10_read_194 (by decide) rfl (fun hb194 => ?_) (fun hb194 => ?_)
        · have h1 : s.1 + 1 = A.P.r + A.P.c := by
            rw [pk_sub (by omega)] at hb194
            have := hI.2.2.1.1
            have := (nI_leI (by omega) (by omega)).mp hb194
            omega
          have hgood : psR A.P A.tx.1 A.tx.2 = .inr s := by unfold psR; rw [hT]; simp only; rw [if_pos ⟨h0, h1⟩]
          refine S_iconst (q := 202) (-1) dX10_read_201 (by decide) rfl ?_
          exact S_iret rfl dX10_read_202 rfl rfl (⟨hI.1, fun q hq => (by rw [hgood] at hq; cases hq), fun s1 hq => (by rw [hgood] at hq; cases hq; exact ⟨rfl, hI.2.1⟩)⟩)
        · have h1 : ¬ s.1 + 1 = A.P.r + A.P.c := fun e => hb194 (by rw [pk_sub (by omega)]; exact (nI_leI (by omega) (by omega)).mpr (by omega))
          have hbad : psR A.P A.tx.1 A.tx.2 = .inl A.tx.2 := by unfold psR; rw [hT]; simp only; rw [if_neg (fun y => h1 y.2)]
          refine S_iload_1 (q := 198) dX10_read_197 rfl ?_
          refine S_goto (t := 202) dX10_read_198 (by decide) ?_
          exact S_iret rfl dX10_read_202 rfl rfl (⟨hI.1, fun q hq => (by rw [hbad] at hq; cases hq; rfl), fun s1 hq => (by rw [hbad] at hq; cases hq)⟩)
    · exact absurd (Int32.le_refl _) hb17
  | succ d ih =>
    intro i s M1 hd hi hI
    have hlt : i < A.tx.2 := by omega
    have hok := hI.2.2.1
    have hl1 := hok.1
    have hs16 : s.1 < 16 := by omega
    have hp8 := hok.2.1
    have hnl := hI.2.1 s.1 (Nat.le_refl _)
    have hR8 : s.2.2.1 s.1 ≤ 8 := (hok.2.2.2.1.cl s.1).1
    have hch : 32 ≤ A.tx.1 i ∧ A.tx.1 i < 127 := by have := hk.tx.2 i hlt; omega
    refine S_iload_4 (q := 16) dX10_read_14 rfl ?_
    refine S_iload_1 (q := 17) dX10_read_16 rfl ?_
    refine S_icmp_ge (t := 183) (q := 20) dX10_read_17 (by decide) rfl (fun hb17 => ?_) (fun hb17 => ?_)
    · exact absurd hb17 (nI_ge hlt (by omega))
    · refine S_aload_0 (q := 21) dX10_read_20 rfl ?_
      refine S_getR (q := 24) dX10_read_21 fl_X10_111 (by first | assumption | rfl) (by rfl) rfl ?_
      refine S_iload_4 (q := 26) dX10_read_24 rfl ?_
      refine S_ialdV (i := i) (val := nI (A.tx.1 i)) (q := 27) dX10_read_26 (by first | assumption | rfl) (by first | (simp only [nI_add, pk_mul, nI_1]; done) | rfl) (by omega) (by decide) (by rw [hI.1 154 (by decide)]; exact htx.2 i hlt) rfl ?_
      refine S_istore_5 (q := 29) dX10_read_27 rfl ?_
      refine S_iload_3 (q := 30) dX10_read_29 rfl ?_
      refine S_if_le (t := 111) (q := 33) dX10_read_30 (by decide) rfl (fun hb30 => ?_) (fun hb30 => ?_)
      · have h0 : ¬ 0 < s.2.1 := fun y => absurd ((nI_leI (b := 0) (by omega) (by decide)).mp hb30) (by omega)
        refine S_iload_5 (q := 113) dX10_read_111 rfl ?_
        refine S_bipush (q := 115) (nI 47) dX10_read_113 (by decide) rfl ?_
        refine S_icmp_ne (t := 144) (q := 118) dX10_read_115 (by decide) rfl (fun hb115 => ?_) (fun hb115 => ?_)
        · have h47 : ¬ A.tx.1 i = 47 := fun e => hb115 (by rw [e])
          refine S_aload_0 (q := 145) dX10_read_144 rfl ?_
          refine S_iload_5 (q := 147) dX10_read_145 rfl ?_
          refine S_bipush (q := 149) (nI 49) dX10_read_147 (by decide) rfl ?_
          refine S_bipush (q := 151) (nI 56) dX10_read_149 (by decide) rfl ?_
          refine S_callV3i (q := 154) dX10_read_151 lk_X10_172 (by first | assumption | rfl) rfl rfl (k_X10_within) rfl rfl (Nat.le_of_ble_eq_true rfl) ⟨Nat.le_of_ble_eq_true rfl, Nat.le_of_ble_eq_true rfl⟩ ⟨Nat.le_of_ble_eq_true rfl, Nat.le_of_ble_eq_true rfl⟩ rfl (fun v151 M151 hv151 => ?_)
          obtain ⟨e151, rfl⟩ := hv151
          rw [e151]
          refine S_if_eq (t := 168) (q := 157) dX10_read_154 (by decide) rfl (fun hb154 => ?_) (fun hb154 => ?_)
          · have hS : psS A.P (A.tx.1 i) s = none := by unfold psS; rw [if_neg h0, if_neg h47, if_neg (fun y => bI_0.mp hb154 ((dig_w _ hch.2).mpr ⟨y.1, y.2.1⟩))]
            have hbad := hbd i s hlt hI.2.2.2 hS
            refine S_iload_4 (q := 170) dX10_read_168 rfl ?_
            exact S_iret rfl dX10_read_170 rfl rfl (⟨hI.1, fun q hq => (by rw [hbad] at hq; cases hq; rfl), fun s1 hq => (by rw [hbad] at hq; cases hq)⟩)
          · have hdd := (dig_w _ hch.2).mp (bI_n.mp hb154)
            refine S_aload_0 (q := 158) dX10_read_157 rfl ?_
            refine S_getR (q := 161) dX10_read_158 fl_X10_123 (by first | assumption | rfl) (by rfl) rfl ?_
            refine S_iload_2 (q := 162) dX10_read_161 rfl ?_
            refine S_ialdV (i := s.1) (val := nI (s.2.2.1 s.1)) (q := 163) dX10_read_162 (by first | assumption | rfl) (by first | (simp only [nI_add, pk_mul, nI_1]; done) | rfl) (by omega) (by decide) hnl.1 rfl ?_
            refine S_bipush (q := 165) (nI 8) dX10_read_163 (by decide) rfl ?_
            refine S_icmp_ne (t := 171) (q := 168) dX10_read_165 (by decide) rfl (fun hb165 => ?_) (fun hb165 => ?_)
            · have hR : s.2.2.1 s.1 < 8 := by
                have h2 : s.2.2.1 s.1 ≠ 8 := fun e => hb165 (by rw [e])
                omega
              have hS : psS A.P (A.tx.1 i) s = some (s.1, A.tx.1 i - 48, s.2.2) := by unfold psS; rw [if_neg h0, if_neg h47, if_pos ⟨hdd.1, hdd.2, hR⟩]
              refine S_iload_5 (q := 173) dX10_read_171 rfl ?_
              refine S_bipush (q := 175) (nI 48) dX10_read_173 (by decide) rfl ?_
              refine S_isub (q := 176) dX10_read_175 rfl ?_
              rw [(dig_c _ hch.2).2 hdd.1]
              refine S_istore_3 (q := 177) dX10_read_176 rfl ?_
              refine S_iinc_4 (q := 180) (nI (i + 1)) dX10_read_177 (inc1 _) rfl ?_
              refine S_goto (t := 14) dX10_read_180 (by decide) ?_
              refine S_fgt5 ?_
              exact ih (i + 1) (s.1, A.tx.1 i - 48, s.2.2) M1 (by omega) hlt ⟨hI.1, hI.2.1, psS_ok hP hok hS, by rw [← hI.2.2.2, psT_at hlt, hS]⟩
            · have hR : ¬ s.2.2.1 s.1 < 8 := by have := nI_inj (by omega) (by decide) hb165; omega
              have hS : psS A.P (A.tx.1 i) s = none := by unfold psS; rw [if_neg h0, if_neg h47, if_neg (fun y => hR y.2.2)]
              have hbad := hbd i s hlt hI.2.2.2 hS
              refine S_iload_4 (q := 170) dX10_read_168 rfl ?_
              exact S_iret rfl dX10_read_170 rfl rfl (⟨hI.1, fun q hq => (by rw [hbad] at hq; cases hq; rfl), fun s1 hq => (by rw [hbad] at hq; cases hq)⟩)
        · have h47 : A.tx.1 i = 47 := nI_inj (by omega) (by decide) hb115
          refine S_iload_2 (q := 119) dX10_read_118 rfl ?_
          refine S_aload_0 (q := 120) dX10_read_119 rfl ?_
          refine S_callV0i (q := 123) dX10_read_120 lk_X10_168 (by first | assumption | rfl) rfl rfl (k_X10_lines (by rw [hI.1 140 (by decide)]; exact g0) (by rw [hI.1 140 (by decide)]; exact g1)) rfl rfl (Nat.le_of_ble_eq_true rfl) ⟨Nat.le_of_ble_eq_true rfl, Nat.le_of_ble_eq_true rfl⟩ ⟨Nat.le_of_ble_eq_true rfl, Nat.le_of_ble_eq_true rfl⟩ rfl (fun v120 M120 hv120 => ?_)
          obtain ⟨e120, rfl⟩ := hv120
          rw [e120]
          refine S_iconst (q := 124) (nI 1) dX10_read_123 (by decide) rfl ?_
          refine S_isub (q := 125) dX10_read_124 rfl ?_
          rw [pk_sub (by omega)]
          refine S_icmp_ne (t := 131) (q := 128) dX10_read_125 (by decide) rfl (fun hb125 => ?_) (fun hb125 => ?_)
          · have hl2 : s.1 + 1 < A.P.r + A.P.c := by
              have h1 := hok.1
              have h2 : s.1 ≠ A.P.r + A.P.c - 1 := fun e => hb125 (by rw [e])
              omega
            have hS : psS A.P (A.tx.1 i) s = some (s.1 + 1, 0, s.2.2) := by unfold psS; rw [if_neg h0, if_pos h47, if_pos hl2]
            refine S_iinc_2 (q := 134) (nI (s.1 + 1)) dX10_read_131 (inc1 _) rfl ?_
            refine S_aload_0 (q := 135) dX10_read_134 rfl ?_
            refine S_getR (q := 138) dX10_read_135 fl_X10_123 (by first | assumption | rfl) (by rfl) rfl ?_
            refine S_iload_2 (q := 139) dX10_read_138 rfl ?_
            refine S_iconst (q := 140) (nI 0) dX10_read_139 (by decide) rfl ?_
            refine S_iastE (i := s.1 + 1) (q := 141) dX10_read_140 (by first | assumption | rfl) (by first | (simp only [nI_add, pk_mul, nI_1]; done) | rfl) (by omega) (by decide) rfl ?_
            refine S_goto (t := 177) dX10_read_141 (by decide) ?_
            refine S_iinc_4 (q := 180) (nI (i + 1)) dX10_read_177 (inc1 _) rfl ?_
            refine S_goto (t := 14) dX10_read_180 (by decide) ?_
            refine S_fgt5 ?_
            rw [show s.2.1 = 0 by omega]
            exact ih (i + 1) (s.1 + 1, 0, s.2.2) _ (by omega) hlt ⟨fun a ha => by rw [up_n (by omega)]; exact hI.1 a ha, fun a ha => (by
              have ha' : a ≤ s.1 + 1 := ha
              by_cases e : a = s.1 + 1
              · have hz : s.2.2.1 (s.1 + 1) = 0 := hok.2.2.2.2 (s.1 + 1) (Nat.lt_succ_self _)
                rw [e]
                show up M1 156 (s.1 + 1) (nI 0) 156 (s.1 + 1) = nI (s.2.2.1 (s.1 + 1)) ∧ ∀ j, j < s.2.2.1 (s.1 + 1) → _
                rw [up_s, hz]
                exact ⟨rfl, fun j hj => absurd hj (Nat.not_lt_zero j)⟩
              · have h1 := hI.2.1 a (by omega)
                exact ⟨by rw [up_eq, if_neg (by omega)]; exact h1.1, fun j hj => ⟨by rw [up_n (by decide)]; exact (h1.2 j hj).1, by rw [up_n (by decide)]; exact (h1.2 j hj).2⟩⟩), psS_ok hP hok hS, by rw [← hI.2.2.2, psT_at hlt, hS]⟩
          · have hl2 : ¬ s.1 + 1 < A.P.r + A.P.c := by have := nI_inj (by omega) (by omega) hb125; omega
            have hS : psS A.P (A.tx.1 i) s = none := by unfold psS; rw [if_neg h0, if_pos h47, if_neg hl2]
            have hbad := hbd i s hlt hI.2.2.2 hS
            refine S_iload_4 (q := 130) dX10_read_128 rfl ?_
            exact S_iret rfl dX10_read_130 rfl rfl (⟨hI.1, fun q hq => (by rw [hbad] at hq; cases hq; rfl), fun s1 hq => (by rw [hbad] at hq; cases hq)⟩)
      · have h0 : 0 < s.2.1 := Nat.lt_of_not_le (fun y => hb30 ((nI_leI (b := 0) (by omega) (by decide)).mpr y))
        have hR7 := hok.2.2.1 h0
        refine S_aload_0 (q := 34) dX10_read_33 rfl ?_
        refine S_iload_5 (q := 36) dX10_read_34 rfl ?_
        refine S_bipush (q := 38) (nI 97) dX10_read_36 (by decide) rfl ?_
        refine S_bipush (q := 40) (nI 97) dX10_read_38 (by decide) rfl ?_
        refine S_aload_0 (q := 41) dX10_read_40 rfl ?_
        refine S_getI (q := 44) dX10_read_41 fl_X10_16 (by first | assumption | rfl) (by rfl) rfl ?_
        rw [hI.1 140 (by decide), g2]
        refine S_iadd (q := 45) dX10_read_44 rfl ?_
        refine S_iconst (q := 46) (nI 1) dX10_read_45 (by decide) rfl ?_
        refine S_isub (q := 47) dX10_read_46 rfl ?_
        rw [nI_add, pk_sub (show 1 ≤ 97 + A.P.k by omega)]
        refine S_callV3i (q := 50) dX10_read_47 lk_X10_172 (by first | assumption | rfl) rfl rfl (k_X10_within) rfl rfl (Nat.le_of_ble_eq_true rfl) ⟨Nat.le_of_ble_eq_true rfl, Nat.le_of_ble_eq_true rfl⟩ ⟨Nat.le_of_ble_eq_true rfl, Nat.le_of_ble_eq_true rfl⟩ rfl (fun v47 M47 hv47 => ?_)
        obtain ⟨e47, rfl⟩ := hv47
        rw [e47]
        refine S_if_ne (t := 56) (q := 53) dX10_read_50 (by decide) rfl (fun hb50 => ?_) (fun hb50 => ?_)
        · have hcc := (let_w _ hch.2 _ (show A.P.k < 4 by omega) hk1).mp (bI_n.mp hb50)
          have hS : psS A.P (A.tx.1 i) s = some (psA A.P s (A.tx.1 i)) := by unfold psS; rw [if_pos h0, if_pos hcc]; rfl
          refine S_aload_0 (q := 57) dX10_read_56 rfl ?_
          refine S_getR (q := 60) dX10_read_57 fl_X10_126 (by first | assumption | rfl) (by rfl) rfl ?_
          refine S_bipush (q := 62) (nI 8) dX10_read_60 (by decide) rfl ?_
          refine S_iload_2 (q := 63) dX10_read_62 rfl ?_
          refine S_imul (q := 64) dX10_read_63 rfl ?_
          refine S_aload_0 (q := 65) dX10_read_64 rfl ?_
          refine S_getR (q := 68) dX10_read_65 fl_X10_123 (by first | assumption | rfl) (by rfl) rfl ?_
          refine S_iload_2 (q := 69) dX10_read_68 rfl ?_
          refine S_ialdV (i := s.1) (val := nI (s.2.2.1 s.1)) (q := 70) dX10_read_69 (by first | assumption | rfl) (by first | (simp only [nI_add, pk_mul, nI_1]; done) | rfl) (by omega) (by decide) hnl.1 rfl ?_
          refine S_iadd (q := 71) dX10_read_70 rfl ?_
          refine S_iload_3 (q := 72) dX10_read_71 rfl ?_
          refine S_iastE (i := s.1 * 8 + s.2.2.1 s.1) (q := 73) dX10_read_72 (by first | assumption | rfl) (by rw [pk_mul, nI_add]; exact congrArg nI (by omega)) (by omega) (by decide) rfl ?_
          refine S_aload_0 (q := 74) dX10_read_73 rfl ?_
          refine S_getR (q := 77) dX10_read_74 fl_X10_129 (by first | assumption | rfl) (by rfl) rfl ?_
          refine S_bipush (q := 79) (nI 8) dX10_read_77 (by decide) rfl ?_
          refine S_iload_2 (q := 80) dX10_read_79 rfl ?_
          refine S_imul (q := 81) dX10_read_80 rfl ?_
          refine S_aload_0 (q := 82) dX10_read_81 rfl ?_
          refine S_getR (q := 85) dX10_read_82 fl_X10_123 (by first | assumption | rfl) (by rfl) rfl ?_
          refine S_iload_2 (q := 86) dX10_read_85 rfl ?_
          refine S_ialdV (i := s.1) (val := nI (s.2.2.1 s.1)) (q := 87) dX10_read_86 (by first | assumption | rfl) (by first | (simp only [nI_add, pk_mul, nI_1]; done) | rfl) (by omega) (by decide) (by rw [up_n (by decide)]; exact hnl.1) rfl ?_
          refine S_iadd (q := 88) dX10_read_87 rfl ?_
          refine S_iload_5 (q := 90) dX10_read_88 rfl ?_
          refine S_bipush (q := 92) (nI 97) dX10_read_90 (by decide) rfl ?_
          refine S_isub (q := 93) dX10_read_92 rfl ?_
          refine S_iconst (q := 94) (nI 1) dX10_read_93 (by decide) rfl ?_
          refine S_iadd (q := 95) dX10_read_94 rfl ?_
          rw [(let_c _ hch.2 _ (show A.P.k < 4 by omega)).2 hcc.1]
          refine S_iastE (i := s.1 * 8 + s.2.2.1 s.1) (q := 96) dX10_read_95 (by first | assumption | rfl) (by rw [pk_mul, nI_add]; exact congrArg nI (by omega)) (by omega) (by decide) rfl ?_
          refine S_aload_0 (q := 97) dX10_read_96 rfl ?_
          refine S_getR (q := 100) dX10_read_97 fl_X10_123 (by first | assumption | rfl) (by rfl) rfl ?_
          refine S_iload_2 (q := 101) dX10_read_100 rfl ?_
          refine S_dup2 (q := 102) dX10_read_101 rfl rfl rfl ?_
          refine S_ialdV (i := s.1) (val := nI (s.2.2.1 s.1)) (q := 103) dX10_read_102 (by first | assumption | rfl) (by first | (simp only [nI_add, pk_mul, nI_1]; done) | rfl) (by omega) (by decide) (by rw [up_n (by decide), up_n (by decide)]; exact hnl.1) rfl ?_
          refine S_iconst (q := 104) (nI 1) dX10_read_103 (by decide) rfl ?_
          refine S_iadd (q := 105) dX10_read_104 rfl ?_
          rw [nI_add]
          refine S_iastE (i := s.1) (q := 106) dX10_read_105 (by first | assumption | rfl) (by first | (simp only [nI_add, pk_mul, nI_1]; done) | rfl) (by omega) (by decide) rfl ?_
          refine S_iconst (q := 107) (nI 0) dX10_read_106 (by decide) rfl ?_
          refine S_istore_3 (q := 108) dX10_read_107 rfl ?_
          refine S_goto (t := 177) dX10_read_108 (by decide) ?_
          refine S_iinc_4 (q := 180) (nI (i + 1)) dX10_read_177 (inc1 _) rfl ?_
          refine S_goto (t := 14) dX10_read_180 (by decide) ?_
          refine S_fgt5 ?_
          exact ih (i + 1) (psA A.P s (A.tx.1 i)) _ (by omega) hlt ⟨fun a ha => by rw [up_n (by omega), up_n (by omega), up_n (by omega)]; exact hI.1 a ha, fun a ha => (by
            have ha' : a ≤ s.1 := ha
            show _ = nI (upf s.2.2.1 s.1 (s.2.2.1 s.1 + 1) a) ∧ ∀ j, j < upf s.2.2.1 s.1 (s.2.2.1 s.1 + 1) a → _ = nI (if a = s.1 ∧ j = s.2.2.1 s.1 then s.2.1 else s.2.2.2.1 a j) ∧ _ = nI (if a = s.1 ∧ j = s.2.2.1 s.1 then A.tx.1 i - 96 else s.2.2.2.2 a j)
            have h1 := hI.2.1 a ha'
            by_cases e : a = s.1
            · rw [e, up_s, upf_s]
              refine ⟨rfl, fun j hj => ?_⟩
              by_cases ej : j = s.2.2.1 s.1
              · rw [if_pos ⟨rfl, ej⟩, if_pos ⟨rfl, ej⟩, ej]
                exact ⟨by rw [up_n (by decide), up_n (by decide), up_s], by rw [up_n (by decide), up_s]⟩
              · rw [if_neg (fun y => ej y.2), if_neg (fun y => ej y.2)]
                rw [e] at h1
                have h2 := h1.2 j (by omega)
                exact ⟨by rw [up_n (by decide), up_n (by decide), up_eq, if_neg (by omega)]; exact h2.1, by rw [up_n (by decide), up_eq, if_neg (by omega), up_n (by decide)]; exact h2.2⟩
            · rw [upf_n e, up_eq, if_neg (by omega), up_n (by decide), up_n (by decide)]
              refine ⟨h1.1, fun j hj => ?_⟩
              rw [if_neg (fun y => e y.1), if_neg (fun y => e y.1)]
              have h2 := h1.2 j hj
              have hja : j < 8 := Nat.lt_of_lt_of_le hj (hok.2.2.2.1.cl a).1
              exact ⟨by rw [up_n (by decide), up_n (by decide), up_eq, if_neg (by omega)]; exact h2.1, by rw [up_n (by decide), up_eq, if_neg (by omega), up_n (by decide)]; exact h2.2⟩), psS_ok hP hok hS, by rw [← hI.2.2.2, psT_at hlt, hS]⟩
        · have hS : psS A.P (A.tx.1 i) s = none := by unfold psS; rw [if_pos h0, if_neg (fun y => bI_0.mp hb50 ((let_w _ hch.2 _ (show A.P.k < 4 by omega) hk1).mpr y))]
          have hbad := hbd i s hlt hI.2.2.2 hS
          refine S_iload_4 (q := 55) dX10_read_53 rfl ?_
          exact S_iret rfl dX10_read_55 rfl rfl (⟨hI.1, fun q hq => (by rw [hbad] at hq; cases hq; rfl), fun s1 hq => (by rw [hbad] at hq; cases hq)⟩)
set_option maxHeartbeats 4000000 in
set_option maxRecDepth 100000 in
theorem q_parseLine {l : Launch} {G : Gd} {b0 : Nat} {M : Mem} {Post : PT} {i0 A0 n : Nat} {w1 : Int32} {len col : Nat → Nat} (hi16 : i0 < 16) (hR8 : n ≤ 8) (h0 : M 142 i0 = nI 0) (hn : M 156 i0 = nI n) (hB : ∀ j, j < n → M 157 (i0 * 8 + j) = nI (len j) ∧ M 158 (i0 * 8 + j) = nI (col j)) (k : ∀ M2, ((∀ a, (a < 142 ∨ 144 < a) → M2 a = M a) ∧ (∀ a, a ≠ i0 → M2 142 a = M 142 a) ∧ (∀ j, (j < i0 * 8 ∨ i0 * 8 + 8 ≤ j) → M2 143 j = M 143 j ∧ M2 144 j = M 144 j) ∧ M2 142 i0 = nI (n) ∧ ∀ j, j < n → M2 143 (i0 * 8 + j) = nI (len j) ∧ M2 144 (i0 * 8 + j) = nI (col j)) → S l G b0 yX10_parseClues cX10_parseClues 5 (some .int) (rmZ 2 48) LAY Post 0 0 0 0 LAY 95 [some (.ref (b0 + 140)), some (.int w1), some (.int (nI A0)), some (.int (nI i0)), some (.int (nI (n)))] [] M2) : S l G b0 yX10_parseClues cX10_parseClues 5 (some .int) (rmZ 2 48) LAY Post 0 0 0 0 LAY 49 [some (.ref (b0 + 140)), some (.int w1), some (.int (nI A0)), some (.int (nI i0)), some (.int (nI (0)))] [] M := by
  suffices H : ∀ (d : Nat) (i : Nat) (M1 : Mem), n - i = d → i ≤ n → ((∀ a, (a < 142 ∨ 144 < a) → M1 a = M a) ∧ (∀ a, a ≠ i0 → M1 142 a = M 142 a) ∧ (∀ j, (j < i0 * 8 ∨ i0 * 8 + 8 ≤ j) → M1 143 j = M 143 j ∧ M1 144 j = M 144 j) ∧ M1 142 i0 = nI (i) ∧ ∀ j, j < i → M1 143 (i0 * 8 + j) = nI (len j) ∧ M1 144 (i0 * 8 + j) = nI (col j)) → S l G b0 yX10_parseClues cX10_parseClues 5 (some .int) (rmZ 2 48) LAY Post 0 0 0 0 LAY 49 [some (.ref (b0 + 140)), some (.int w1), some (.int (nI A0)), some (.int (nI i0)), some (.int (nI (i)))] [] M1 from H _ 0 _ rfl (by omega) ⟨fun _ _ => rfl, fun _ _ => rfl, fun _ _ => ⟨rfl, rfl⟩, h0, fun j hj => absurd hj (Nat.not_lt_zero j)⟩
  intro d
  induction d with
  | zero =>
    intro i M1 hd hi hI
    have e : n = i := by omega
    subst e
    refine S_iload_4 (q := 51) dX10_parseClues_49 rfl ?_
    refine S_aload_0 (q := 52) dX10_parseClues_51 rfl ?_
    refine S_getR (q := 55) dX10_parseClues_52 fl_X10_123 (by first | assumption | rfl) (by rfl) rfl ?_
    refine S_iload_3 (q := 56) dX10_parseClues_55 rfl ?_
    refine S_ialdV (i := i0) (val := nI n) (q := 57) dX10_parseClues_56 (by first | assumption | rfl) (by first | (simp only [nI_add, pk_mul, nI_1]; done) | rfl) (by omega) (by decide) (by rw [hI.1 156 (by omega)]; exact hn) rfl ?_
    refine S_icmp_ge (t := 95) (q := 60) dX10_parseClues_57 (by decide) rfl (fun hb57 => ?_) (fun hb57 => ?_)
    · exact k M1 hI
    · exact absurd (Int32.le_refl _) hb57
  | succ d ih =>
    intro i M1 hd hi hI
    have hlt : i < n := by omega
    refine S_iload_4 (q := 51) dX10_parseClues_49 rfl ?_
    refine S_aload_0 (q := 52) dX10_parseClues_51 rfl ?_
    refine S_getR (q := 55) dX10_parseClues_52 fl_X10_123 (by first | assumption | rfl) (by rfl) rfl ?_
    refine S_iload_3 (q := 56) dX10_parseClues_55 rfl ?_
    refine S_ialdV (i := i0) (val := nI n) (q := 57) dX10_parseClues_56 (by first | assumption | rfl) (by first | (simp only [nI_add, pk_mul, nI_1]; done) | rfl) (by omega) (by decide) (by rw [hI.1 156 (by omega)]; exact hn) rfl ?_
    refine S_icmp_ge (t := 95) (q := 60) dX10_parseClues_57 (by decide) rfl (fun hb57 => ?_) (fun hb57 => ?_)
    · exact absurd hb57 (nI_ge hlt (by omega))
    · refine S_aload_0 (q := 61) dX10_parseClues_60 rfl ?_
      refine S_iload_3 (q := 62) dX10_parseClues_61 rfl ?_
      refine S_aload_0 (q := 63) dX10_parseClues_62 rfl ?_
      refine S_getR (q := 66) dX10_parseClues_63 fl_X10_126 (by first | assumption | rfl) (by rfl) rfl ?_
      refine S_bipush (q := 68) (nI 8) dX10_parseClues_66 (by decide) rfl ?_
      refine S_iload_3 (q := 69) dX10_parseClues_68 rfl ?_
      refine S_imul (q := 70) dX10_parseClues_69 rfl ?_
      refine S_iload_4 (q := 72) dX10_parseClues_70 rfl ?_
      refine S_iadd (q := 73) dX10_parseClues_72 rfl ?_
      refine S_ialdV (i := i0 * 8 + i) (val := nI (len i)) (q := 74) dX10_parseClues_73 (by first | assumption | rfl) (by rw [pk_mul, nI_add]; exact congrArg nI (by omega)) (by omega) (by decide) (by rw [hI.1 157 (by omega)]; exact (hB i hlt).1) rfl ?_
      refine S_aload_0 (q := 75) dX10_parseClues_74 rfl ?_
      refine S_getR (q := 78) dX10_parseClues_75 fl_X10_129 (by first | assumption | rfl) (by rfl) rfl ?_
      refine S_bipush (q := 80) (nI 8) dX10_parseClues_78 (by decide) rfl ?_
      refine S_iload_3 (q := 81) dX10_parseClues_80 rfl ?_
      refine S_imul (q := 82) dX10_parseClues_81 rfl ?_
      refine S_iload_4 (q := 84) dX10_parseClues_82 rfl ?_
      refine S_iadd (q := 85) dX10_parseClues_84 rfl ?_
      refine S_ialdV (i := i0 * 8 + i) (val := nI (col i)) (q := 86) dX10_parseClues_85 (by first | assumption | rfl) (by rw [pk_mul, nI_add]; exact congrArg nI (by omega)) (by omega) (by decide) (by rw [hI.1 158 (by omega)]; exact (hB i hlt).2) rfl ?_
      refine S_callV3v (q := 89) dX10_parseClues_86 lk_X10_187 (by first | assumption | rfl) rfl rfl (k_pushN hI.2.2.2.1 hi16 (by omega)) rfl rfl (Nat.le_of_ble_eq_true rfl) ⟨Nat.le_of_ble_eq_true rfl, Nat.le_of_ble_eq_true rfl⟩ ⟨Nat.le_of_ble_eq_true rfl, Nat.le_of_ble_eq_true rfl⟩ rfl (fun v86 M86 hv86 => ?_)
      subst hv86
      refine S_iinc_4 (q := 92) (nI (i + 1)) dX10_parseClues_89 (inc1 _) rfl ?_
      refine S_goto (t := 49) dX10_parseClues_92 (by decide) ?_
      exact ih (i + 1) _ (by omega) hlt ⟨fun a ha => by rw [up_n (by omega), up_n (by omega), up_n (by omega)]; exact hI.1 a ha, fun a ha => by rw [up_eq, if_neg (by omega), up_n (by decide), up_n (by decide)]; exact hI.2.1 a ha, fun j hj => ⟨by rw [up_n (by decide), up_n (by decide), up_eq, if_neg (by omega)]; exact (hI.2.2.1 j hj).1, by rw [up_n (by decide), up_eq, if_neg (by omega), up_n (by decide)]; exact (hI.2.2.1 j hj).2⟩, up_s, fun j hj => by
        by_cases e : j = i
        · rw [e]; exact ⟨by rw [up_n (by decide), up_n (by decide), up_s], by rw [up_n (by decide), up_s]⟩
        · have := hI.2.2.2.2 j (by omega)
          exact ⟨by rw [up_n (by decide), up_n (by decide), up_eq, if_neg (by omega)]; exact this.1, by rw [up_n (by decide), up_eq, if_neg (by omega), up_n (by decide)]; exact this.2⟩⟩
/-- the clues that were read stand up to a line -/
def PK (M : Mem) (s : PS) (i : Nat) : Prop := ∀ a, a < i → M 142 a = nI (s.2.2.1 a) ∧ ∀ j, j < s.2.2.1 a → M 143 (a * 8 + j) = nI (s.2.2.2.1 a j) ∧ M 144 (a * 8 + j) = nI (s.2.2.2.2 a j)
set_option maxHeartbeats 4000000 in
set_option maxRecDepth 100000 in
theorem q_parseLines {l : Launch} {G : Gd} {b0 : Nat} {M : Mem} {Post : PT} {P : Pz} {s : PS} {w1 : Int32} (g0 : M 140 0 = nI P.r) (g1 : M 140 1 = nI P.c) (hP : P.ok) (hok : PSok P s) (hl : s.1 + 1 = P.r + P.c) (hw : NWR M s) (hQ : ∀ M', ((∀ a, (a < 142 ∨ 144 < a) → M' a = M a) ∧ PK M' s (P.r + P.c) ∧ ∀ a, P.r + P.c ≤ a → M' 142 a = M 142 a) → Post (nI (sm s.2.2.1 (P.r + P.c))) M') : S l G b0 yX10_parseClues cX10_parseClues 5 (some .int) (rmZ 2 48) LAY Post 0 0 0 0 LAY 31 [some (.ref (b0 + 140)), some (.int w1), some (.int (nI (sm s.2.2.1 (0)))), some (.int (nI (0))), none] [] M := by
  have hr1 := hP.r1
  have hr8 := hP.r8
  have hc8 := hP.c8
  suffices H : ∀ (d : Nat) (i : Nat) (M1 : Mem), (P.r + P.c) - i = d → i ≤ (P.r + P.c) → ((∀ a, (a < 142 ∨ 144 < a) → M1 a = M a) ∧ PK M1 s (i) ∧ ∀ a, i ≤ a → M1 142 a = M 142 a) → S l G b0 yX10_parseClues cX10_parseClues 5 (some .int) (rmZ 2 48) LAY Post 0 0 0 0 LAY 31 [some (.ref (b0 + 140)), some (.int w1), some (.int (nI (sm s.2.2.1 (i)))), some (.int (nI (i))), none] [] M1 from H _ 0 _ rfl (by omega) ⟨fun _ _ => rfl, fun a ha => absurd ha (Nat.not_lt_zero a), fun _ _ => rfl⟩
  intro d
  induction d with
  | zero =>
    intro i M1 hd hi hI
    have e : (P.r + P.c) = i := by omega
    subst e
    refine S_iload_3 (q := 32) dX10_parseClues_31 rfl ?_
    refine S_aload_0 (q := 33) dX10_parseClues_32 rfl ?_
    refine S_callV0i (q := 36) dX10_parseClues_33 lk_X10_168 (by first | assumption | rfl) rfl rfl (k_X10_lines (by rw [hI.1 140 (by decide)]; exact g0) (by rw [hI.1 140 (by decide)]; exact g1)) rfl rfl (Nat.le_of_ble_eq_true rfl) ⟨Nat.le_of_ble_eq_true rfl, Nat.le_of_ble_eq_true rfl⟩ ⟨Nat.le_of_ble_eq_true rfl, Nat.le_of_ble_eq_true rfl⟩ rfl (fun v33 M33 hv33 => ?_)
    obtain ⟨e33, rfl⟩ := hv33
    rw [e33]
    refine S_icmp_ge (t := 110) (q := 39) dX10_parseClues_36 (by decide) rfl (fun hb36 => ?_) (fun hb36 => ?_)
    · refine S_iload_2 (q := 111) dX10_parseClues_110 rfl ?_
      exact S_iret rfl dX10_parseClues_111 rfl rfl (hQ _ hI)
    · exact absurd (Int32.le_refl _) hb36
  | succ d ih =>
    intro i M1 hd hi hI
    have hlt : i < (P.r + P.c) := by omega
    have hi16 : i < 16 := by omega
    have hR8 : s.2.2.1 i ≤ 8 := (hok.2.2.2.1.cl i).1
    have hwi := hw i (by omega)
    refine S_iload_3 (q := 32) dX10_parseClues_31 rfl ?_
    refine S_aload_0 (q := 33) dX10_parseClues_32 rfl ?_
    refine S_callV0i (q := 36) dX10_parseClues_33 lk_X10_168 (by first | assumption | rfl) rfl rfl (k_X10_lines (by rw [hI.1 140 (by decide)]; exact g0) (by rw [hI.1 140 (by decide)]; exact g1)) rfl rfl (Nat.le_of_ble_eq_true rfl) ⟨Nat.le_of_ble_eq_true rfl, Nat.le_of_ble_eq_true rfl⟩ ⟨Nat.le_of_ble_eq_true rfl, Nat.le_of_ble_eq_true rfl⟩ rfl (fun v33 M33 hv33 => ?_)
    obtain ⟨e33, rfl⟩ := hv33
    rw [e33]
    refine S_icmp_ge (t := 110) (q := 39) dX10_parseClues_36 (by decide) rfl (fun hb36 => ?_) (fun hb36 => ?_)
    · exact absurd hb36 (nI_ge hlt (by omega))
    · refine S_aload_0 (q := 40) dX10_parseClues_39 rfl ?_
      refine S_getR (q := 43) dX10_parseClues_40 fl_X10_26 (by first | assumption | rfl) (by rfl) rfl ?_
      refine S_iload_3 (q := 44) dX10_parseClues_43 rfl ?_
      refine S_iconst (q := 45) (nI 0) dX10_parseClues_44 (by decide) rfl ?_
      refine S_iastE (i := i) (q := 46) dX10_parseClues_45 (by first | assumption | rfl) (by first | (simp only [nI_add, pk_mul, nI_1]; done) | rfl) (by omega) (by decide) rfl ?_
      refine S_iconst (q := 47) (nI 0) dX10_parseClues_46 (by decide) rfl ?_
      refine S_istore_4 (q := 49) dX10_parseClues_47 rfl ?_
      refine q_parseLine (len := s.2.2.2.1 i) (col := s.2.2.2.2 i) (n := s.2.2.1 i) hi16 hR8 up_s (by rw [up_n (by decide), hI.1 156 (by decide)]; exact hwi.1) (fun j hj => by rw [up_n (by decide), up_n (by decide), hI.1 157 (by decide), hI.1 158 (by decide)]; exact hwi.2 j hj) (fun M2 hM => ?_)
      refine S_iload_2 (q := 96) dX10_parseClues_95 rfl ?_
      refine S_aload_0 (q := 97) dX10_parseClues_96 rfl ?_
      refine S_getR (q := 100) dX10_parseClues_97 fl_X10_26 (by first | assumption | rfl) (by rfl) rfl ?_
      refine S_iload_3 (q := 101) dX10_parseClues_100 rfl ?_
      refine S_ialdV (i := i) (val := nI (s.2.2.1 i)) (q := 102) dX10_parseClues_101 (by first | assumption | rfl) rfl (by omega) (by decide) hM.2.2.2.1 rfl ?_
      refine S_iadd (q := 103) dX10_parseClues_102 rfl ?_
      rw [nI_add]
      refine S_istore_2 (q := 104) dX10_parseClues_103 rfl ?_
      refine S_iinc_3 (q := 107) (nI (i + 1)) dX10_parseClues_104 (inc1 _) rfl ?_
      refine S_goto (t := 31) dX10_parseClues_107 (by decide) ?_
      refine S_fgt4 ?_
      exact ih (i + 1) M2 (by omega) hlt ⟨fun a ha => by rw [hM.1 a ha, up_n (by omega)]; exact hI.1 a ha, fun a ha => (by
        by_cases e : a = i
        · rw [e]; exact ⟨hM.2.2.2.1, hM.2.2.2.2⟩
        · have h1 := hI.2.1 a (by omega)
          refine ⟨by rw [hM.2.1 a e, up_eq, if_neg (by omega)]; exact h1.1, fun j hj => ?_⟩
          have h2 := h1.2 j hj
          have hja : j < 8 := Nat.lt_of_lt_of_le hj (hok.2.2.2.1.cl a).1
          have h3 := hM.2.2.1 (a * 8 + j) (by omega)
          exact ⟨by rw [h3.1, up_n (by decide)]; exact h2.1, by rw [h3.2, up_n (by decide)]; exact h2.2⟩), fun a ha => by rw [hM.2.1 a (by omega), up_eq, if_neg (by omega)]; exact hI.2.2 a (by omega)⟩
theorem psR_ln {P : Pz} {T : Nat → Nat} {n : Nat} {s : PS} (e : psR P T n = .inr s) : s.1 + 1 = P.r + P.c := by
  unfold psR at e
  cases e2 : psT P T n n ps0 with
  | inl q => rw [e2] at e; cases e
  | inr s2 =>
    rw [e2] at e
    simp only at e
    split at e
    · rename_i h; cases e; exact h.2
    · cases e
set_option maxHeartbeats 4000000 in
set_option maxRecDepth 100000 in
theorem k_X10_parseClues {l : Launch} {G : Gd} {b0 : Nat} {M : Mem} {A : Ab}  (hC : RR M A) (hk : A.ok)  : Ct l G b0 yX10_parseClues cX10_parseClues 5 (some .int) (rmZ 2 48) LAY LAY M [.ref (b0 + 140)] (fun v M' => RSR M (o_parse A) v M') := by
  obtain ⟨⟨g0, g1, g2, gcu, gce⟩, hru, hhi, hbad, hask, htx, hfo, hsn, htb⟩ := id hC
  have hP := hk.P
  have hr1 := hP.r1
  have hr8 := hP.r8
  have hc1 := hP.c1
  have hc8 := hP.c8
  have hk1 := hP.k1
  have hk3 := hP.k3
  have h64 := rc64 hr8 hc8
  have hH8 := hk.H8
  have hN : A.N = A.P.r + A.P.c := rfl
  refine Ct.of [some (.ref (b0 + 140)), none, none, none, none] (by decide) (Nat.le_of_ble_eq_true rfl) rfl rfl ?_
  refine S_aload_0 (q := 1) dX10_parseClues_0 rfl ?_
  refine S_aload_0 (q := 2) dX10_parseClues_1 rfl ?_
  refine S_getI (q := 5) dX10_parseClues_2 fl_X10_117 (by first | assumption | rfl) (by rfl) rfl ?_
  rw [htx.1]
  refine S_callV1i (q := 8) dX10_parseClues_5 lk_X10_269 (by first | assumption | rfl) rfl rfl (k_X10_read hC hk) rfl rfl (Nat.le_of_ble_eq_true rfl) ⟨Nat.le_of_ble_eq_true rfl, Nat.le_of_ble_eq_true rfl⟩ ⟨Nat.le_of_ble_eq_true rfl, Nat.le_of_ble_eq_true rfl⟩ rfl (fun v5 M5 hv5 => ?_)
  obtain ⟨hs1, hs2, hs3⟩ := hv5
  refine S_istore_1 (q := 9) dX10_parseClues_8 rfl ?_
  refine S_aload_0 (q := 10) dX10_parseClues_9 rfl ?_
  refine S_iconst (q := 11) (nI 0) dX10_parseClues_10 (by decide) rfl ?_
  refine S_putI (q := 14) dX10_parseClues_11 fp_X10_117 (by first | assumption | rfl) (by rfl) rfl (by rfl) rfl ?_
  have hC5 : RR M5 A := hC.fr hk (fun k _ => by rw [hs1 140 (by decide)]) (fun a ha => hs1 a (by omega)) (fun x _ => by rw [hs1 141 (by decide)])
  obtain ⟨a1, a2, a3, a4, a5, a6, a7, a8, a9⟩ := id hC5
  have hC1 : RR (up M5 140 35 (nI 0)) (A.sT (A.tx.1, 0)) := hC5.oth hk (fun k hk2 => by rw [up_eq, if_neg (by omega)]) (fun a ha => up_n (by omega)) (by rw [up_eq, if_neg (by decide)]; exact a2) ⟨up_s, fun j (hj : j < 0) => absurd hj (Nat.not_lt_zero j)⟩ (a7.fr (by rw [up_eq, if_neg (by decide)]) (up_n (by decide))) (a8.fr (fun k _ _ => by rw [up_eq, if_neg (by omega)]) (fun a _ _ => up_n (by omega))) (a9.fr (fun a _ _ => up_n (by omega)))
  have hk1 : (A.sT (A.tx.1, 0)).ok := ok_sT hk (Nat.zero_le _) (fun j (hj : j < 0) => absurd hj (Nat.not_lt_zero j))
  refine S_iload_1 (q := 15) dX10_parseClues_14 rfl ?_
  refine S_if_lt (t := 23) (q := 18) dX10_parseClues_15 (by decide) rfl (fun hb15 => ?_) (fun hb15 => ?_)
  · obtain ⟨s, hq⟩ : ∃ s, psR A.P A.tx.1 A.tx.2 = .inr s := by
      cases e : psR A.P A.tx.1 A.tx.2 with
      | inr s => exact ⟨s, rfl⟩
      | inl q => have h1 := hs2 q e; rw [h1] at hb15; exact absurd (nI_pos' (show q < 2 ^ 31 by have := psR_le e; have := hk.tx.1; omega)) (Int32.not_le.mpr hb15)
    obtain ⟨e1, hnw⟩ := hs3 s hq
    have hok := psR_ok hP hq
    have hl : s.1 + 1 = A.P.r + A.P.c := psR_ln hq
    refine S_aload_0 (q := 24) dX10_parseClues_23 rfl ?_
    refine S_callV0v (q := 27) dX10_parseClues_24 lk_X10_184 (by first | assumption | rfl) rfl rfl (k_X10_keep hC1 hk1) rfl rfl (Nat.le_of_ble_eq_true rfl) ⟨Nat.le_of_ble_eq_true rfl, Nat.le_of_ble_eq_true rfl⟩ ⟨Nat.le_of_ble_eq_true rfl, Nat.le_of_ble_eq_true rfl⟩ rfl (fun v24 M24 hv24 => ?_)
    have hp : KPT (up M5 140 35 (nI 0)) M24 (A.sT (A.tx.1, 0)) := hv24
    have hG : RGr M24 A.P A.f := hC1.1.fr hP (fun k hk => hp.2.1 k (by omega)) (fun a a1 a2 => hp.1 a (by omega) (by omega)) (fun x _ => by rw [hp.1 141 (by decide) (by decide)])
    refine S_iconst (q := 28) (nI 0) dX10_parseClues_27 (by decide) rfl ?_
    refine S_istore_2 (q := 29) dX10_parseClues_28 rfl ?_
    refine S_iconst (q := 30) (nI 0) dX10_parseClues_29 (by decide) rfl ?_
    refine S_istore_3 (q := 31) dX10_parseClues_30 rfl ?_
    refine q_parseLines (P := A.P) (s := s) hG.1 hG.2.1 hP hok hl (fun i hi => by rw [hp.1 156 (by decide) (by decide), hp.1 157 (by decide) (by decide), hp.1 158 (by decide) (by decide), up_n (by decide), up_n (by decide), up_n (by decide)]; exact hnw i hi) (fun M' hM => ?_)
    have hcl : CLU M' 141 (A.P.wc s.2.2.1 s.2.2.2.1 s.2.2.2.2) := fun i hi => (by
      have hc := hok.2.2.2.1.cl i
      by_cases e : i < A.P.r + A.P.c
      · obtain ⟨h1, h2⟩ := hM.2.1 i e
        exact ⟨h1, hc.1, fun j hj => ⟨(h2 j hj).1, (hc.2 j hj).1, (hc.2 j hj).2.1, (h2 j hj).2, (hc.2 j hj).2.2.1, (hc.2 j hj).2.2.2⟩⟩
      · have hz : s.2.2.1 i = 0 := hok.2.2.2.2 i (by omega)
        have hz2 : (A.P.wc s.2.2.1 s.2.2.2.1 s.2.2.2.2).R i = 0 := hz
        exact ⟨by rw [hz2, hM.2.2 i (by omega), (hG.2.2.2.1 i hi).1, hk.z i (by omega)], hc.1, fun j hj => by rw [hz2] at hj; exact absurd hj (Nat.not_lt_zero j)⟩)
    exact RSR.to (A := (A.sT (A.tx.1, 0)).sG (A.P.wc s.2.2.1 s.2.2.2.1 s.2.2.2.2) A.f (A.sT (A.tx.1, 0)).ps) (hC1.ed hk1 hp (P := A.P.wc s.2.2.1 s.2.2.2.1 s.2.2.2.2) (f := A.f) rfl rfl rfl (fun k _ => by rw [hM.1 140 (by decide)]) (fun a ha => hM.1 a (by omega)) (hG.clu (fun k _ => by rw [hM.1 140 (by decide)]) (hM.1 141 (by decide)) hcl)) (fun a ha => by rw [hM.1 a (by omega), hp.1 a (by omega) (by omega), up_n (by omega), hs1 a (by omega)]) (by
      unfold o_parse
      rw [hq]
      simp only
      have h16 := sm_z (g := s.2.2.1) (n := A.P.r + A.P.c) (16 - (A.P.r + A.P.c)) (fun j h1 _ => hok.2.2.2.2 j (by omega))
      rw [show A.P.r + A.P.c + (16 - (A.P.r + A.P.c)) = 16 by omega] at h16
      rw [h16]
      rfl)
  · obtain ⟨q, hq⟩ : ∃ q, psR A.P A.tx.1 A.tx.2 = .inl q := by
      cases e : psR A.P A.tx.1 A.tx.2 with
      | inl q => exact ⟨q, rfl⟩
      | inr s => have h1 := (hs3 s e).1; rw [h1] at hb15; exact absurd (show (-1 : Int32) < 0 by decide) hb15
    refine S_bipush (q := 20) (-100) dX10_parseClues_18 (by decide) rfl ?_
    refine S_iload_1 (q := 21) dX10_parseClues_20 rfl ?_
    refine S_isub (q := 22) dX10_parseClues_21 rfl ?_
    exact S_iret rfl dX10_parseClues_22 rfl rfl (RSR.to (A := A.sT (A.tx.1, 0)) hC1 (fun a ha => by rw [up_n (by omega), hs1 a (by omega)]) (by unfold o_parse; rw [hq]; simp only; rw [hs2 q hq]))
set_option maxHeartbeats 4000000 in
set_option maxRecDepth 100000 in
theorem k_X10_say {l : Launch} {G : Gd} {b0 : Nat} {M : Mem} {ch : Nat} {s : (Nat → Nat) × Nat}  (hs : M 140 36 = nI s.2) (hn : s.2 < 300)  : Ct l G b0 yX10_say cX10_say 2 none (rmZ 0 0) LAY LAY M [.ref (b0 + 140), .int (nI ch)] (fun v M' => M' = up (up M 155 s.2 (nI ch)) 140 36 (nI (s.2 + 1))) := by
  refine Ct.of [some (.ref (b0 + 140)), some (.int (nI ch))] (by decide) (Nat.le_of_ble_eq_true rfl) rfl rfl ?_
  refine S_aload_0 (q := 1) dX10_say_0 rfl ?_
  refine S_getR (q := 4) dX10_say_1 fl_X10_114 (by first | assumption | rfl) (by rfl) rfl ?_
  refine S_aload_0 (q := 5) dX10_say_4 rfl ?_
  refine S_getI (q := 8) dX10_say_5 fl_X10_120 (by first | assumption | rfl) (by rfl) rfl ?_
  refine S_iload_1 (q := 9) dX10_say_8 rfl ?_
  refine S_iastE (i := s.2) (q := 10) dX10_say_9 (by first | assumption | rfl) hs (by omega) (by decide) rfl ?_
  refine S_aload_0 (q := 11) dX10_say_10 rfl ?_
  refine S_dup (q := 12) dX10_say_11 rfl rfl ?_
  refine S_getI (q := 15) dX10_say_12 fl_X10_120 (by first | assumption | rfl) (by rfl) rfl ?_
  rw [up_n (by decide), hs]
  refine S_iconst (q := 16) (nI 1) dX10_say_15 (by decide) rfl ?_
  refine S_iadd (q := 17) dX10_say_16 rfl ?_
  rw [nI_add]
  refine S_putI (q := 20) dX10_say_17 fp_X10_120 (by first | assumption | rfl) (by rfl) rfl (by rfl) rfl ?_
  exact S_ret (v := 0) rfl dX10_say_20 rfl (rfl)
theorem Rfo.psh {M : Mem} {ch : Nat} {s : (Nat → Nat) × Nat} (h : Rfo M s) : Rfo (up (up M 155 s.2 (nI ch)) 140 36 (nI (s.2 + 1))) (psh s ch) := by
  refine ⟨up_s, fun j hj => ?_⟩
  have hj' : j < s.2 + 1 := hj
  show _ = nI (upf s.1 s.2 ch j)
  rw [up_n (by decide)]
  by_cases e : j = s.2
  · rw [e, up_s, upf_s]
  · rw [up_eq, if_neg (by omega), upf_n e]; exact h.2 j (by omega)
def FFR (M M1 : Mem) : Prop := (∀ a, a ≠ 140 → a ≠ 155 → M1 a = M a) ∧ ∀ k, k ≠ 36 → M1 140 k = M 140 k
theorem FFR.up {M M1 : Mem} {j : Nat} {v z : Int32} (h : FFR M M1) : FFR M (up (up M1 155 j v) 140 36 z) := ⟨fun a h1 h2 => by rw [up_n h1, up_n h2]; exact h.1 a h1 h2, fun k hk => by rw [up_eq, if_neg (by omega), up_n (by decide)]; exact h.2 k hk⟩
set_option maxHeartbeats 4000000 in
set_option maxRecDepth 100000 in
theorem q_rfmtLine {l : Launch} {G : Gd} {b0 : Nat} {M : Mem} {Post : PT} {A : Ab} {i0 : Nat} {s0 : (Nat → Nat) × Nat} {M0 : Mem} (hC : RR M A) (hk : A.ok) (hi16 : i0 < 16) (hl : s0.2 + 2 * A.P.R i0 ≤ 271) (hf0 : FFR M M0) (hT0 : Rfo M0 s0) (k : ∀ M2, FFR M M2 → Rfo M2 (fmJ A.P i0 s0 (A.P.R i0)) → S l G b0 yX10_formatClues cX10_formatClues 3 (some .int) (rmZ 1 21) LAY Post 0 0 0 0 LAY 81 [some (.ref (b0 + 140)), some (.int (nI i0)), some (.int (nI (A.P.R i0)))] [] M2) : S l G b0 yX10_formatClues cX10_formatClues 3 (some .int) (rmZ 1 21) LAY Post 0 0 0 0 LAY 27 [some (.ref (b0 + 140)), some (.int (nI i0)), some (.int (nI 0))] [] M0 := by
  obtain ⟨⟨g0, g1, g2, gcu, gce⟩, hru, hhi, hbad, hask, htx, hfo, hsn, htb⟩ := id hC
  have hP := hk.P
  have hr1 := hP.r1
  have hr8 := hP.r8
  have hc1 := hP.c1
  have hc8 := hP.c8
  have hk1 := hP.k1
  have hk3 := hP.k3
  have h64 := rc64 hr8 hc8
  have hH8 := hk.H8
  have hN : A.N = A.P.r + A.P.c := rfl
  have hR8 := (gcu i0 hi16).2.1
  suffices H : ∀ (d : Nat) (i : Nat) (M1 : Mem), (A.P.R i0) - i = d → i ≤ (A.P.R i0) → (FFR M M1 ∧ Rfo M1 (fmJ A.P i0 s0 (i))) → S l G b0 yX10_formatClues cX10_formatClues 3 (some .int) (rmZ 1 21) LAY Post 0 0 0 0 LAY 27 [some (.ref (b0 + 140)), some (.int (nI i0)), some (.int (nI (i)))] [] M1 from H _ 0 _ rfl (by omega) ⟨hf0, hT0⟩
  intro d
  induction d with
  | zero =>
    intro i M1 hd hi hI
    have e : (A.P.R i0) = i := by omega
    subst e
    refine S_iload_2 (q := 28) dX10_formatClues_27 rfl ?_
    refine S_aload_0 (q := 29) dX10_formatClues_28 rfl ?_
    refine S_getR (q := 32) dX10_formatClues_29 fl_X10_26 (by first | assumption | rfl) (by rfl) rfl ?_
    refine S_iload_1 (q := 33) dX10_formatClues_32 rfl ?_
    refine S_ialdV (i := i0) (val := nI (A.P.R i0)) (q := 34) dX10_formatClues_33 (by first | assumption | rfl) (by first | (simp only [nI_add, pk_mul, nI_1]; done) | rfl) (by omega) (by decide) (by rw [hI.1.1 142 (by decide) (by decide)]; exact (gcu i0 hi16).1) rfl ?_
    refine S_icmp_ge (t := 81) (q := 37) dX10_formatClues_34 (by decide) rfl (fun hb34 => ?_) (fun hb34 => ?_)
    · exact k M1 hI.1 hI.2
    · exact absurd (Int32.le_refl _) hb34
  | succ d ih =>
    intro i M1 hd hi hI
    have hlt : i < (A.P.R i0) := by omega
    have hfn := fmJ_n (P := A.P) (i := i0) (s := s0) i
    have hcu := (gcu i0 hi16).2.2 i hlt
    refine S_iload_2 (q := 28) dX10_formatClues_27 rfl ?_
    refine S_aload_0 (q := 29) dX10_formatClues_28 rfl ?_
    refine S_getR (q := 32) dX10_formatClues_29 fl_X10_26 (by first | assumption | rfl) (by rfl) rfl ?_
    refine S_iload_1 (q := 33) dX10_formatClues_32 rfl ?_
    refine S_ialdV (i := i0) (val := nI (A.P.R i0)) (q := 34) dX10_formatClues_33 (by first | assumption | rfl) (by first | (simp only [nI_add, pk_mul, nI_1]; done) | rfl) (by omega) (by decide) (by rw [hI.1.1 142 (by decide) (by decide)]; exact (gcu i0 hi16).1) rfl ?_
    refine S_icmp_ge (t := 81) (q := 37) dX10_formatClues_34 (by decide) rfl (fun hb34 => ?_) (fun hb34 => ?_)
    · exact absurd hb34 (nI_ge hlt (by omega))
    · refine S_aload_0 (q := 38) dX10_formatClues_37 rfl ?_
      refine S_bipush (q := 40) (nI 48) dX10_formatClues_38 (by decide) rfl ?_
      refine S_aload_0 (q := 41) dX10_formatClues_40 rfl ?_
      refine S_getR (q := 44) dX10_formatClues_41 fl_X10_29 (by first | assumption | rfl) (by rfl) rfl ?_
      refine S_bipush (q := 46) (nI 8) dX10_formatClues_44 (by decide) rfl ?_
      refine S_iload_1 (q := 47) dX10_formatClues_46 rfl ?_
      refine S_imul (q := 48) dX10_formatClues_47 rfl ?_
      refine S_iload_2 (q := 49) dX10_formatClues_48 rfl ?_
      refine S_iadd (q := 50) dX10_formatClues_49 rfl ?_
      refine S_ialdV (i := i0 * 8 + i) (val := nI (A.P.len i0 i)) (q := 51) dX10_formatClues_50 (by first | assumption | rfl) (by rw [pk_mul, nI_add]; exact congrArg nI (by omega)) (by omega) (by decide) (by rw [hI.1.1 143 (by decide) (by decide)]; exact hcu.1) rfl ?_
      refine S_iadd (q := 52) dX10_formatClues_51 rfl ?_
      rw [nI_add]
      refine S_callV1v (q := 55) dX10_formatClues_52 lk_X10_272 (by first | assumption | rfl) rfl rfl (k_X10_say (s := fmJ A.P i0 s0 i) hI.2.1 (by omega)) rfl rfl (Nat.le_of_ble_eq_true rfl) ⟨Nat.le_of_ble_eq_true rfl, Nat.le_of_ble_eq_true rfl⟩ ⟨Nat.le_of_ble_eq_true rfl, Nat.le_of_ble_eq_true rfl⟩ rfl (fun v52 M52 hv52 => ?_)
      have hT1 : Rfo M52 (psh (fmJ A.P i0 s0 i) (48 + A.P.len i0 i)) := by rw [hv52]; exact hI.2.psh
      have hf1 : FFR M M52 := by rw [hv52]; exact hI.1.up
      refine S_aload_0 (q := 56) dX10_formatClues_55 rfl ?_
      refine S_bipush (q := 58) (nI 97) dX10_formatClues_56 (by decide) rfl ?_
      refine S_aload_0 (q := 59) dX10_formatClues_58 rfl ?_
      refine S_getR (q := 62) dX10_formatClues_59 fl_X10_32 (by first | assumption | rfl) (by rfl) rfl ?_
      refine S_bipush (q := 64) (nI 8) dX10_formatClues_62 (by decide) rfl ?_
      refine S_iload_1 (q := 65) dX10_formatClues_64 rfl ?_
      refine S_imul (q := 66) dX10_formatClues_65 rfl ?_
      refine S_iload_2 (q := 67) dX10_formatClues_66 rfl ?_
      refine S_iadd (q := 68) dX10_formatClues_67 rfl ?_
      refine S_ialdV (i := i0 * 8 + i) (val := nI (A.P.col i0 i)) (q := 69) dX10_formatClues_68 (by first | assumption | rfl) (by rw [pk_mul, nI_add]; exact congrArg nI (by omega)) (by omega) (by decide) (by rw [hf1.1 144 (by decide) (by decide)]; exact hcu.2.2.2.1) rfl ?_
      refine S_iadd (q := 70) dX10_formatClues_69 rfl ?_
      refine S_iconst (q := 71) (nI 1) dX10_formatClues_70 (by decide) rfl ?_
      refine S_isub (q := 72) dX10_formatClues_71 rfl ?_
      rw [nI_add, pk_sub (show 1 ≤ 97 + A.P.col i0 i by omega), show 97 + A.P.col i0 i - 1 = 96 + A.P.col i0 i by omega]
      refine S_callV1v (q := 75) dX10_formatClues_72 lk_X10_272 (by first | assumption | rfl) rfl rfl (k_X10_say (s := psh (fmJ A.P i0 s0 i) (48 + A.P.len i0 i)) hT1.1 (show (fmJ A.P i0 s0 i).2 + 1 < 300 by omega)) rfl rfl (Nat.le_of_ble_eq_true rfl) ⟨Nat.le_of_ble_eq_true rfl, Nat.le_of_ble_eq_true rfl⟩ ⟨Nat.le_of_ble_eq_true rfl, Nat.le_of_ble_eq_true rfl⟩ rfl (fun v72 M72 hv72 => ?_)
      have hT2 : Rfo M72 (fmJ A.P i0 s0 (i + 1)) := by rw [hv72]; exact hT1.psh
      have hf2 : FFR M M72 := by rw [hv72]; exact hf1.up
      refine S_iinc_2 (q := 78) (nI (i + 1)) dX10_formatClues_75 (inc1 _) rfl ?_
      refine S_goto (t := 27) dX10_formatClues_78 (by decide) ?_
      exact ih (i + 1) M72 (by omega) hlt ⟨hf2, hT2⟩
set_option maxHeartbeats 4000000 in
set_option maxRecDepth 100000 in
theorem k_X10_formatClues {l : Launch} {G : Gd} {b0 : Nat} {M : Mem} {A : Ab}  (hC : RR M A) (hk : A.ok)  : Ct l G b0 yX10_formatClues cX10_formatClues 3 (some .int) (rmZ 1 21) LAY LAY M [.ref (b0 + 140)] (fun v M' => RSR M (o_form A) v M') := by
  obtain ⟨⟨g0, g1, g2, gcu, gce⟩, hru, hhi, hbad, hask, htx, hfo, hsn, htb⟩ := id hC
  have hP := hk.P
  have hr1 := hP.r1
  have hr8 := hP.r8
  have hc1 := hP.c1
  have hc8 := hP.c8
  have hk1 := hP.k1
  have hk3 := hP.k3
  have h64 := rc64 hr8 hc8
  have hH8 := hk.H8
  have hN : A.N = A.P.r + A.P.c := rfl
  refine Ct.of [some (.ref (b0 + 140)), none, none] (by decide) (Nat.le_of_ble_eq_true rfl) rfl rfl ?_
  refine S_aload_0 (q := 1) dX10_formatClues_0 rfl ?_
  refine S_iconst (q := 2) (nI 0) dX10_formatClues_1 (by decide) rfl ?_
  refine S_putI (q := 5) dX10_formatClues_2 fp_X10_120 (by first | assumption | rfl) (by rfl) rfl (by rfl) rfl ?_
  refine S_iconst (q := 6) (nI 0) dX10_formatClues_5 (by decide) rfl ?_
  refine S_istore_1 (q := 7) dX10_formatClues_6 rfl ?_
  suffices H : ∀ (d : Nat) (i : Nat) (M1 : Mem), (A.P.r + A.P.c) - i = d → i ≤ (A.P.r + A.P.c) → (FFR M M1 ∧ Rfo M1 (fmL A.P A.fo.1 (i))) → S l G b0 yX10_formatClues cX10_formatClues 3 (some .int) (rmZ 1 21) LAY (fun v M' => RSR M (o_form A) v M') 0 0 0 0 LAY 7 [some (.ref (b0 + 140)), some (.int (nI (i))), none] [] M1 from H _ 0 _ rfl (by omega) ⟨⟨fun a h1 _ => up_n h1, fun k hk => by rw [up_eq, if_neg (by omega)]⟩, up_s, fun j (hj : j < 0) => absurd hj (Nat.not_lt_zero j)⟩
  intro d
  induction d with
  | zero =>
    intro i M1 hd hi hI
    have e : (A.P.r + A.P.c) = i := by omega
    subst e
    refine S_iload_1 (q := 8) dX10_formatClues_7 rfl ?_
    refine S_aload_0 (q := 9) dX10_formatClues_8 rfl ?_
    refine S_callV0i (q := 12) dX10_formatClues_9 lk_X10_168 (by first | assumption | rfl) rfl rfl (k_X10_lines (by rw [hI.1.2 0 (by decide)]; exact g0) (by rw [hI.1.2 1 (by decide)]; exact g1)) rfl rfl (Nat.le_of_ble_eq_true rfl) ⟨Nat.le_of_ble_eq_true rfl, Nat.le_of_ble_eq_true rfl⟩ ⟨Nat.le_of_ble_eq_true rfl, Nat.le_of_ble_eq_true rfl⟩ rfl (fun v9 M9 hv9 => ?_)
    obtain ⟨e9, rfl⟩ := hv9
    rw [e9]
    refine S_icmp_ge (t := 87) (q := 15) dX10_formatClues_12 (by decide) rfl (fun hb12 => ?_) (fun hb12 => ?_)
    · refine S_aload_0 (q := 88) dX10_formatClues_87 rfl ?_
      refine S_getI (q := 91) dX10_formatClues_88 fl_X10_120 (by first | assumption | rfl) (by rfl) rfl ?_
      rw [hI.2.1]
      exact S_iret rfl dX10_formatClues_91 rfl rfl (RSR.to (A := mkA A.P A.f A.H A.ru A.bad A.tx (fmL A.P A.fo.1 (A.P.r + A.P.c)) A.tb A.sn) (hC.oth hk (fun k hk2 => hI.1.2 k (by omega)) (fun a ha => hI.1.1 a (by omega) (by omega)) (by rw [hI.1.2 3 (by decide)]; exact hru) (htx.fr (hI.1.2 35 (by decide)) (hI.1.1 154 (by decide) (by decide))) hI.2 (hsn.fr (fun k _ _ => hI.1.2 k (by omega)) (fun a _ _ => hI.1.1 a (by omega) (by omega))) (htb.fr (fun a _ _ => hI.1.1 a (by omega) (by omega)))) (fun a ha => hI.1.1 a (by omega) (by omega)) rfl)
    · exact absurd (Int32.le_refl _) hb12
  | succ d ih =>
    intro i M1 hd hi hI
    have hlt : i < (A.P.r + A.P.c) := by omega
    have hi16 : i < 16 := by omega
    have hfn := fmL_n (P := A.P) (T := A.fo.1) hP i
    refine S_iload_1 (q := 8) dX10_formatClues_7 rfl ?_
    refine S_aload_0 (q := 9) dX10_formatClues_8 rfl ?_
    refine S_callV0i (q := 12) dX10_formatClues_9 lk_X10_168 (by first | assumption | rfl) rfl rfl (k_X10_lines (by rw [hI.1.2 0 (by decide)]; exact g0) (by rw [hI.1.2 1 (by decide)]; exact g1)) rfl rfl (Nat.le_of_ble_eq_true rfl) ⟨Nat.le_of_ble_eq_true rfl, Nat.le_of_ble_eq_true rfl⟩ ⟨Nat.le_of_ble_eq_true rfl, Nat.le_of_ble_eq_true rfl⟩ rfl (fun v9 M9 hv9 => ?_)
    obtain ⟨e9, rfl⟩ := hv9
    rw [e9]
    refine S_icmp_ge (t := 87) (q := 15) dX10_formatClues_12 (by decide) rfl (fun hb12 => ?_) (fun hb12 => ?_)
    · exact absurd hb12 (nI_ge hlt (by omega))
    · refine S_iload_1 (q := 16) dX10_formatClues_15 rfl ?_
      refine S_if_le (t := 25) (q := 19) dX10_formatClues_16 (by decide) rfl (fun hb16 => ?_) (fun hb16 => ?_)
      · have h0 : ¬ 0 < i := fun y => absurd ((nI_leI (b := 0) (by omega) (by decide)).mp hb16) (by omega)
        refine S_iconst (q := 26) (nI 0) dX10_formatClues_25 (by decide) rfl ?_
        refine S_istore_2 (q := 27) dX10_formatClues_26 rfl ?_
        refine q_rfmtLine hC hk hi16 (s0 := fmL A.P A.fo.1 i) (by have := (gcu i hi16).2.1; omega) hI.1 hI.2 (fun M2 h1 h2 => ?_)
        refine S_iinc_1 (q := 84) (nI (i + 1)) dX10_formatClues_81 (inc1 _) rfl ?_
        refine S_goto (t := 7) dX10_formatClues_84 (by decide) ?_
        refine S_fgt2 ?_
        exact ih (i + 1) M2 (by omega) hlt ⟨h1, by rw [show fmL A.P A.fo.1 (i + 1) = fmJ A.P i (if 0 < i then psh (fmL A.P A.fo.1 i) 47 else fmL A.P A.fo.1 i) (A.P.R i) from rfl, if_neg h0]; exact h2⟩
      · have h0 : 0 < i := Nat.lt_of_not_le (fun y => hb16 ((nI_leI (b := 0) (by omega) (by decide)).mpr y))
        have hb2 := hfn.2 h0
        refine S_aload_0 (q := 20) dX10_formatClues_19 rfl ?_
        refine S_bipush (q := 22) (nI 47) dX10_formatClues_20 (by decide) rfl ?_
        refine S_callV1v (q := 25) dX10_formatClues_22 lk_X10_272 (by first | assumption | rfl) rfl rfl (k_X10_say (s := fmL A.P A.fo.1 i) hI.2.1 (by omega)) rfl rfl (Nat.le_of_ble_eq_true rfl) ⟨Nat.le_of_ble_eq_true rfl, Nat.le_of_ble_eq_true rfl⟩ ⟨Nat.le_of_ble_eq_true rfl, Nat.le_of_ble_eq_true rfl⟩ rfl (fun v22 M22 hv22 => ?_)
        have hT1 : Rfo M22 (psh (fmL A.P A.fo.1 i) 47) := by rw [hv22]; exact hI.2.psh
        have hf1 : FFR M M22 := by rw [hv22]; exact hI.1.up
        refine S_iconst (q := 26) (nI 0) dX10_formatClues_25 (by decide) rfl ?_
        refine S_istore_2 (q := 27) dX10_formatClues_26 rfl ?_
        have hps : (psh (fmL A.P A.fo.1 i) 47).2 = (fmL A.P A.fo.1 i).2 + 1 := rfl
        refine q_rfmtLine hC hk hi16 (s0 := psh (fmL A.P A.fo.1 i) 47) (by have := (gcu i hi16).2.1; omega) hf1 hT1 (fun M2 h1 h2 => ?_)
        refine S_iinc_1 (q := 84) (nI (i + 1)) dX10_formatClues_81 (inc1 _) rfl ?_
        refine S_goto (t := 7) dX10_formatClues_84 (by decide) ?_
        refine S_fgt2 ?_
        exact ih (i + 1) M2 (by omega) hlt ⟨h1, by rw [show fmL A.P A.fo.1 (i + 1) = fmJ A.P i (if 0 < i then psh (fmL A.P A.fo.1 i) 47 else fmL A.P A.fo.1 i) (A.P.R i) from rfl, if_pos h0]; exact h2⟩
set_option maxHeartbeats 4000000 in
set_option maxRecDepth 100000 in
theorem k_X10_formattedCharacter {l : Launch} {G : Gd} {b0 : Nat} {M : Mem} {A : Ab} {x : Int32}  (hC : RR M A) (hk : A.ok)  : Ct l G b0 yX10_formattedCharacter cX10_formattedCharacter 2 (some .int) (rmZ 1 23) LAY LAY M [.ref (b0 + 140), .int x] (fun v M' => RSR M (o_fch A x) v M') := by
  obtain ⟨⟨g0, g1, g2, gcu, gce⟩, hru, hhi, hbad, hask, htx, hfo, hsn, htb⟩ := id hC
  have hP := hk.P
  have hr1 := hP.r1
  have hr8 := hP.r8
  have hc1 := hP.c1
  have hc8 := hP.c8
  have hk1 := hP.k1
  have hk3 := hP.k3
  have h64 := rc64 hr8 hc8
  have hH8 := hk.H8
  have hN : A.N = A.P.r + A.P.c := rfl
  refine Ct.of [some (.ref (b0 + 140)), some (.int x)] (by decide) (Nat.le_of_ble_eq_true rfl) rfl rfl ?_
  refine S_aload_0 (q := 1) dX10_formattedCharacter_0 rfl ?_
  refine S_iload_1 (q := 2) dX10_formattedCharacter_1 rfl ?_
  refine S_iconst (q := 3) (nI 0) dX10_formattedCharacter_2 (by decide) rfl ?_
  refine S_aload_0 (q := 4) dX10_formattedCharacter_3 rfl ?_
  refine S_getI (q := 7) dX10_formattedCharacter_4 fl_X10_120 (by first | assumption | rfl) (by rfl) rfl ?_
  rw [hfo.1]
  refine S_iconst (q := 8) (nI 1) dX10_formattedCharacter_7 (by decide) rfl ?_
  refine S_isub (q := 9) dX10_formattedCharacter_8 rfl ?_
  refine S_callV3i (q := 12) dX10_formattedCharacter_9 lk_X10_172 (by first | assumption | rfl) rfl rfl (k_X10_within) rfl rfl (Nat.le_of_ble_eq_true rfl) ⟨Nat.le_of_ble_eq_true rfl, Nat.le_of_ble_eq_true rfl⟩ ⟨Nat.le_of_ble_eq_true rfl, Nat.le_of_ble_eq_true rfl⟩ rfl (fun v9 M9 hv9 => ?_)
  obtain ⟨e9, rfl⟩ := hv9
  rw [e9]
  refine S_if_eq (t := 24) (q := 15) dX10_formattedCharacter_12 (by decide) rfl (fun hb12 => ?_) (fun hb12 => ?_)
  · have hx := ix_no (n := A.fo.2) (fun y => bI_0.mp hb12 ((ix_iw (by have := hk.fo; omega)).mpr y))
    refine S_iconst (q := 25) (-1) dX10_formattedCharacter_24 (by decide) rfl ?_
    exact S_iret rfl dX10_formattedCharacter_25 rfl rfl (RSR.same hC (by unfold o_fch; rw [hx]))
  · obtain ⟨j, hj, rfl, hx⟩ := ix_ok (n := A.fo.2) (by have := hk.fo; omega) ((ix_iw (by have := hk.fo; omega)).mp (bI_n.mp hb12))
    refine S_aload_0 (q := 16) dX10_formattedCharacter_15 rfl ?_
    refine S_getR (q := 19) dX10_formattedCharacter_16 fl_X10_114 (by first | assumption | rfl) (by rfl) rfl ?_
    refine S_iload_1 (q := 20) dX10_formattedCharacter_19 rfl ?_
    refine S_ialdV (i := j) (val := nI (A.fo.1 j)) (q := 21) dX10_formattedCharacter_20 (by first | assumption | rfl) (by first | (simp only [nI_add, pk_mul, nI_1]; done) | rfl) (by have := hk.fo; omega) (by decide) (hfo.2 j hj) rfl ?_
    refine S_goto (t := 25) dX10_formattedCharacter_21 (by decide) ?_
    exact S_iret rfl dX10_formattedCharacter_25 rfl rfl (RSR.same hC (by unfold o_fch; rw [hx]))
