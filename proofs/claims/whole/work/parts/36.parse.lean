theorem psT_at {P : Pz} {T : Nat → Nat} {n i : Nat} {s : PS} (hi : i < n) : psT P T n (n - i) s = match psS P (T i) s with | none => .inl i | some s => psT P T n (n - (i + 1)) s := by
  rw [show n - i = n - (i + 1) + 1 by omega]
  show (match psS P (T (n - (n - (i + 1) + 1))) s with | none => _ | some s => _) = _
  rw [show n - (n - (i + 1) + 1) = i by omega]
/-- the reader's state is good -/
def PSok (P : Pz) (s : PS) : Prop := s.1 < P.r + P.c ∧ s.2.1 ≤ 8 ∧ (0 < s.2.1 → s.2.2.1 s.1 < 8) ∧ (P.wc s.2.2.1 s.2.2.2.1 s.2.2.2.2).ok ∧ ∀ i, s.1 < i → s.2.2.1 i = 0
def psA (P : Pz) (s : PS) (ch : Nat) : PS := (s.1, 0, upf s.2.2.1 s.1 (s.2.2.1 s.1 + 1), (fun a b => if a = s.1 ∧ b = s.2.2.1 s.1 then s.2.1 else s.2.2.2.1 a b), (fun a b => if a = s.1 ∧ b = s.2.2.1 s.1 then ch - 96 else s.2.2.2.2 a b))
theorem Pz.ok.app {P : Pz} {i x z : Nat} (h : P.ok) (hn : P.R i < 8) (hx1 : 1 ≤ x) (hx8 : x ≤ 8) (hz1 : 1 ≤ z) (hz3 : z ≤ 3) : (P.wc (upf P.R i (P.R i + 1)) (fun a b => if a = i ∧ b = P.R i then x else P.len a b) (fun a b => if a = i ∧ b = P.R i then z else P.col a b)).ok := by
  refine ⟨h.r1, h.r8, h.c1, h.c8, h.k1, h.k3, fun a => ?_⟩
  obtain ⟨h1, h2⟩ := h.cl a
  show upf P.R i (P.R i + 1) a ≤ 8 ∧ ∀ j, j < upf P.R i (P.R i + 1) a → 1 ≤ (if a = i ∧ j = P.R i then x else P.len a j) ∧ (if a = i ∧ j = P.R i then x else P.len a j) ≤ 8 ∧ 1 ≤ (if a = i ∧ j = P.R i then z else P.col a j) ∧ (if a = i ∧ j = P.R i then z else P.col a j) ≤ 3
  by_cases e : a = i
  · subst e
    rw [upf_s]
    refine ⟨by omega, fun j hj => ?_⟩
    by_cases ej : j = P.R a
    · rw [if_pos ⟨rfl, ej⟩, if_pos ⟨rfl, ej⟩]; exact ⟨hx1, hx8, hz1, hz3⟩
    · rw [if_neg (fun y => ej y.2), if_neg (fun y => ej y.2)]; exact h2 j (by omega)
  · rw [upf_n e]
    refine ⟨h1, fun j hj => ?_⟩
    rw [if_neg (fun y => e y.1), if_neg (fun y => e y.1)]; exact h2 j hj
theorem Pz.ok.emp {P : Pz} (h : P.ok) {len col : Nat → Nat → Nat} : (P.wc (fun _ => 0) len col).ok := ⟨h.r1, h.r8, h.c1, h.c8, h.k1, h.k3, fun _ => ⟨Nat.zero_le _, fun j hj => absurd (show j < 0 from hj) (Nat.not_lt_zero j)⟩⟩
theorem PSok.zero {P : Pz} (h : P.ok) : PSok P ps0 := ⟨by have := h.r1; show 0 < _; omega, Nat.zero_le _, fun y => absurd y (Nat.not_lt_zero 0), h.emp, fun _ _ => rfl⟩
theorem psS_ok {P : Pz} {s s1 : PS} {ch : Nat} (hP : P.ok) (h : PSok P s) (e : psS P ch s = some s1) : PSok P s1 := by
  obtain ⟨h1, h2, h3, h4, h5⟩ := h
  unfold psS at e
  by_cases c0 : 0 < s.2.1
  · rw [if_pos c0] at e
    by_cases c1 : 97 ≤ ch ∧ ch ≤ 96 + P.k
    · rw [if_pos c1] at e
      cases e
      have := hP.k3
      refine ⟨h1, Nat.zero_le _, fun y => absurd y (Nat.not_lt_zero 0), Pz.ok.app (i := s.1) (x := s.2.1) (z := ch - 96) h4 (h3 c0) (by omega) h2 (by omega) (by omega), fun i hi => ?_⟩
      show upf s.2.2.1 s.1 (s.2.2.1 s.1 + 1) i = 0
      have hi' : s.1 < i := hi
      rw [upf_n (by omega)]; exact h5 i hi'
    · rw [if_neg c1] at e; cases e
  · rw [if_neg c0] at e
    by_cases c1 : ch = 47
    · rw [if_pos c1] at e
      by_cases c2 : s.1 + 1 < P.r + P.c
      · rw [if_pos c2] at e
        cases e
        exact ⟨c2, Nat.zero_le _, fun y => absurd y (Nat.not_lt_zero 0), h4, fun i hi => h5 i (by have : s.1 + 1 < i := hi; omega)⟩
      · rw [if_neg c2] at e; cases e
    · rw [if_neg c1] at e
      by_cases c2 : 49 ≤ ch ∧ ch ≤ 56 ∧ s.2.2.1 s.1 < 8
      · rw [if_pos c2] at e
        cases e
        exact ⟨h1, by show ch - 48 ≤ 8; omega, fun _ => c2.2.2, h4, h5⟩
      · rw [if_neg c2] at e; cases e
theorem psT_ok {P : Pz} {T : Nat → Nat} {n : Nat} (hP : P.ok) : ∀ (d : Nat) (s s1 : PS), PSok P s → psT P T n d s = .inr s1 → PSok P s1 := by
  intro d
  induction d with
  | zero => intro s s1 h e; cases e; exact h
  | succ d ih =>
    intro s s1 h e
    rw [psT] at e
    cases e2 : psS P (T (n - (d + 1))) s with
    | none => rw [e2] at e; cases e
    | some s2 => rw [e2] at e; exact ih s2 s1 (psS_ok hP h e2) e
theorem psR_ok {P : Pz} {T : Nat → Nat} {n : Nat} {s : PS} (hP : P.ok) (e : psR P T n = .inr s) : PSok P s := by
  unfold psR at e
  cases e2 : psT P T n n ps0 with
  | inl q => rw [e2] at e; cases e
  | inr s2 =>
    rw [e2] at e
    simp only at e
    split at e
    · cases e; exact psT_ok hP n _ _ (PSok.zero hP) e2
    · cases e
theorem psR_le {P : Pz} {T : Nat → Nat} {n q : Nat} (e : psR P T n = .inl q) : q ≤ n := by
  unfold psR at e
  have h : ∀ (d : Nat) (s : PS) (q : Nat), psT P T n d s = .inl q → q ≤ n := by
    intro d
    induction d with
    | zero => intro s q e; cases e
    | succ d ih =>
      intro s q e
      rw [psT] at e
      cases e2 : psS P (T (n - (d + 1))) s with
      | none => rw [e2] at e; cases e; omega
      | some s2 => rw [e2] at e; exact ih s2 q e
  cases e2 : psT P T n n ps0 with
  | inl q2 => rw [e2] at e; cases e; exact h _ _ _ e2
  | inr s2 =>
    rw [e2] at e
    simp only at e
    split at e
    · cases e
    · cases e; exact Nat.le_refl _
/-- the color of a letter -/
theorem let_c : ∀ ch, ch < 127 → ∀ k, k < 4 → ((nI 1 ≤ nI ch - nI 97 + nI 1 ∧ nI ch - nI 97 + nI 1 ≤ nI k) ↔ (97 ≤ ch ∧ ch ≤ 96 + k)) ∧ (97 ≤ ch → nI ch - nI 97 + nI 1 = nI (ch - 96)) := by decide +kernel
theorem dig_c : ∀ ch, ch < 127 → ((nI 1 ≤ nI ch - nI 48 ∧ nI ch - nI 48 ≤ nI 8) ↔ (49 ≤ ch ∧ ch ≤ 56)) ∧ (49 ≤ ch → nI ch - nI 48 = nI (ch - 48)) := by decide +kernel
set_option maxHeartbeats 4000000 in
set_option maxRecDepth 100000 in
theorem k_X9_parseText {l : Launch} {G : Gd} {b0 : Nat} {M : Mem} {A : Ab}  (hC : CR M A) (hk : A.ok)  : Ct l G b0 yX9_parseText cX9_parseText 6 (some .int) (rmZ 2 45) LAY LAY M [.ref (b0 + 0)] (fun v M' => (∀ a, (a < 129 ∨ 133 ≤ a) → M' a = M a) ∧ (∀ q, psR A.P A.tx.1 A.tx.2 = .inl q → v = -100 - nI q) ∧ ∀ s, psR A.P A.tx.1 A.tx.2 = .inr s → v = nI (sm s.2.2.1 16) ∧ CLU M' 129 (A.P.wc s.2.2.1 s.2.2.2.1 s.2.2.2.2)) := by
  obtain ⟨⟨g0, g1, g2, gcu, gce⟩, hru, hbl, hbd, hsn, hss, ⟨nx, hnx, hx1, hx2, hx3⟩, ⟨htl, htx⟩, ⟨hfl, hfo⟩, htb⟩ := id hC
  have hP := hk.P
  have hr1 := hP.r1
  have hr8 := hP.r8
  have hc1 := hP.c1
  have hc8 := hP.c8
  have hk1 := hP.k1
  have hk3 := hP.k3
  have h64 := rc64 hr8 hc8
  have hH8 := hk.H8
  have hN : A.N = A.P.r + A.P.c := rfl
  have hn120 := hk.tx.1
  have hbd : ∀ (i : Nat) (s : PS), i < A.tx.2 → psT A.P A.tx.1 A.tx.2 (A.tx.2 - i) s = psT A.P A.tx.1 A.tx.2 A.tx.2 ps0 → psS A.P (A.tx.1 i) s = none → psR A.P A.tx.1 A.tx.2 = .inl i := fun i s hi h1 h2 => by
    unfold psR
    rw [← h1, psT_at hi, h2]
  refine Ct.of [some (.ref (b0 + 0)), none, none, none, none, none] (by decide) (Nat.le_of_ble_eq_true rfl) rfl rfl ?_
  refine S_aload_0 (q := 1) dX9_parseText_0 rfl ?_
  refine S_getR (q := 4) dX9_parseText_1 fl_X9_86 (by first | assumption | rfl) (by rfl) rfl ?_
  refine S_callV0v (q := 7) dX9_parseText_4 lk_X9_335 (by first | assumption | rfl) rfl rfl (k_X0_emptyAll cO_129) rfl rfl (Nat.le_of_ble_eq_true rfl) ⟨Nat.le_of_ble_eq_true rfl, Nat.le_of_ble_eq_true rfl⟩ ⟨Nat.le_of_ble_eq_true rfl, Nat.le_of_ble_eq_true rfl⟩ rfl (fun v4 M4 hv4 => ?_)
  refine S_iconst (q := 8) (nI 0) dX9_parseText_7 (by decide) rfl ?_
  refine S_istore_1 (q := 9) dX9_parseText_8 rfl ?_
  refine S_iconst (q := 10) (nI 0) dX9_parseText_9 (by decide) rfl ?_
  refine S_istore_2 (q := 11) dX9_parseText_10 rfl ?_
  refine S_iconst (q := 12) (nI 0) dX9_parseText_11 (by decide) rfl ?_
  refine S_istore_3 (q := 13) dX9_parseText_12 rfl ?_
  suffices H : ∀ (d i : Nat) (s : PS) (M1 : Mem), A.tx.2 - i = d → i ≤ A.tx.2 → ((∀ a, (a < 129 ∨ 133 ≤ a) → M1 a = M a) ∧ CLU M1 129 (A.P.wc s.2.2.1 s.2.2.2.1 s.2.2.2.2) ∧ PSok A.P s ∧ psT A.P A.tx.1 A.tx.2 (A.tx.2 - (i)) s = psT A.P A.tx.1 A.tx.2 A.tx.2 ps0) → S l G b0 yX9_parseText cX9_parseText 6 (some .int) (rmZ 2 45) LAY (fun v M' => (∀ a, (a < 129 ∨ 133 ≤ a) → M' a = M a) ∧ (∀ q, psR A.P A.tx.1 A.tx.2 = .inl q → v = -100 - nI q) ∧ ∀ s, psR A.P A.tx.1 A.tx.2 = .inr s → v = nI (sm s.2.2.1 16) ∧ CLU M' 129 (A.P.wc s.2.2.1 s.2.2.2.1 s.2.2.2.2)) 0 0 0 0 LAY 13 [some (.ref (b0 + 0)), some (.int (nI s.1)), some (.int (nI s.2.1)), some (.int (nI (i))), none, none] [] M1 from H _ 0 (ps0) _ rfl (by omega) ⟨fun a ha => hv4.1 a (by omega), fun i hi => ⟨hv4.2 i hi, Nat.zero_le _, fun j (hj : j < 0) => absurd hj (Nat.not_lt_zero j)⟩, PSok.zero hP, rfl⟩
  intro d
  induction d with
  | zero =>
    intro i s M1 hd hi hI
    have e : A.tx.2 = i := by omega
    subst e
    have hR8 := (hI.2.1 s.1 (by have := hI.2.2.1.1; omega)).2.1
    refine S_iload_3 (q := 14) dX9_parseText_13 rfl ?_
    refine S_aload_0 (q := 15) dX9_parseText_14 rfl ?_
    refine S_getR (q := 18) dX9_parseText_15 fl_X9_76 (by first | assumption | rfl) (by rfl) rfl ?_
    refine S_getI (q := 21) dX9_parseText_18 fl_X9_284 (by first | assumption | rfl) (by rfl) rfl ?_
    rw [hI.1 125 (by omega), htl]
    refine S_icmp_ge (t := 149) (q := 24) dX9_parseText_21 (by decide) rfl (fun hb21 => ?_) (fun hb21 => ?_)
    · have hT : psT A.P A.tx.1 A.tx.2 A.tx.2 ps0 = .inr s := by rw [← hI.2.2.2, Nat.sub_self]; rfl
      refine S_iload_2 (q := 150) dX9_parseText_149 rfl ?_
      refine S_if_ne (t := 170) (q := 153) dX9_parseText_150 (by decide) rfl (fun hb150 => ?_) (fun hb150 => ?_)
      · have h0 : ¬ s.2.1 = 0 := fun e => hb150 (by rw [e]; rfl)
        have hbad : psR A.P A.tx.1 A.tx.2 = .inl A.tx.2 := by unfold psR; rw [hT]; simp only; rw [if_neg (fun y => h0 y.1)]
        refine S_iconst (q := 171) (nI 0) dX9_parseText_170 (by decide) rfl ?_
        refine S_istore_3 (q := 172) dX9_parseText_171 rfl ?_
        refine S_iload_3 (q := 173) dX9_parseText_172 rfl ?_
        refine S_if_eq (t := 186) (q := 176) dX9_parseText_173 (by decide) rfl (fun hb173 => ?_) (fun hb173 => ?_)
        · refine S_bipush (q := 188) (-100) dX9_parseText_186 (by decide) rfl ?_
          refine S_aload_0 (q := 189) dX9_parseText_188 rfl ?_
          refine S_getR (q := 192) dX9_parseText_189 fl_X9_76 (by first | assumption | rfl) (by rfl) rfl ?_
          refine S_getI (q := 195) dX9_parseText_192 fl_X9_284 (by first | assumption | rfl) (by rfl) rfl ?_
          rw [hI.1 125 (by omega), htl]
          refine S_isub (q := 196) dX9_parseText_195 rfl ?_
          exact S_iret rfl dX9_parseText_196 rfl rfl (⟨hI.1, fun q hq => (by rw [hbad] at hq; cases hq; rfl), fun s1 hq => (by rw [hbad] at hq; cases hq)⟩)
        · exact absurd rfl hb173
      · have h0 : s.2.1 = 0 := nI_inj (by have := hI.2.2.1.2.1; omega) (by decide) hb150
        refine S_iload_1 (q := 154) dX9_parseText_153 rfl ?_
        refine S_aload_0 (q := 155) dX9_parseText_154 rfl ?_
        refine S_getR (q := 158) dX9_parseText_155 fl_X9_12 (by first | assumption | rfl) (by rfl) rfl ?_
        refine S_callV0i (q := 161) dX9_parseText_158 lk_X9_111 (by first | assumption | rfl) rfl rfl (k_X1_lineTotal gO_1 (by rw [hI.1 1 (by omega)]; exact g0) (by rw [hI.1 1 (by omega)]; exact g1)) rfl rfl (Nat.le_of_ble_eq_true rfl) ⟨Nat.le_of_ble_eq_true rfl, Nat.le_of_ble_eq_true rfl⟩ ⟨Nat.le_of_ble_eq_true rfl, Nat.le_of_ble_eq_true rfl⟩ rfl (fun v158 M158 hv158 => ?_)
        obtain ⟨e158, rfl⟩ := hv158
        rw [e158]
        refine S_iconst (q := 162) (nI 1) dX9_parseText_161 (by decide) rfl ?_
        refine S_isub (q := 163) dX9_parseText_162 rfl ?_
        refine S_icmp_ne (t := 170) (q := 166) dX9_parseText_163 (by decide) rfl (fun hb163 => ?_) (fun hb163 => ?_)
        · have h1 : ¬ s.1 + 1 = A.P.r + A.P.c := fun e => hb163 (by rw [pk_sub (by omega)]; exact congrArg nI (by omega))
          have hbad : psR A.P A.tx.1 A.tx.2 = .inl A.tx.2 := by unfold psR; rw [hT]; simp only; rw [if_neg (fun y => h1 y.2)]
          refine S_iconst (q := 171) (nI 0) dX9_parseText_170 (by decide) rfl ?_
          refine S_istore_3 (q := 172) dX9_parseText_171 rfl ?_
          refine S_iload_3 (q := 173) dX9_parseText_172 rfl ?_
          refine S_if_eq (t := 186) (q := 176) dX9_parseText_173 (by decide) rfl (fun hb173 => ?_) (fun hb173 => ?_)
          · refine S_bipush (q := 188) (-100) dX9_parseText_186 (by decide) rfl ?_
            refine S_aload_0 (q := 189) dX9_parseText_188 rfl ?_
            refine S_getR (q := 192) dX9_parseText_189 fl_X9_76 (by first | assumption | rfl) (by rfl) rfl ?_
            refine S_getI (q := 195) dX9_parseText_192 fl_X9_284 (by first | assumption | rfl) (by rfl) rfl ?_
            rw [hI.1 125 (by omega), htl]
            refine S_isub (q := 196) dX9_parseText_195 rfl ?_
            exact S_iret rfl dX9_parseText_196 rfl rfl (⟨hI.1, fun q hq => (by rw [hbad] at hq; cases hq; rfl), fun s1 hq => (by rw [hbad] at hq; cases hq)⟩)
          · exact absurd rfl hb173
        · have h1 : s.1 + 1 = A.P.r + A.P.c := by
            rw [pk_sub (by omega)] at hb163
            have := nI_inj (by have := hI.2.2.1.1; omega) (by omega) hb163
            omega
          have hgood : psR A.P A.tx.1 A.tx.2 = .inr s := by unfold psR; rw [hT]; simp only; rw [if_pos ⟨h0, h1⟩]
          refine S_iconst (q := 167) (nI 1) dX9_parseText_166 (by decide) rfl ?_
          refine S_goto (t := 171) dX9_parseText_167 (by decide) ?_
          refine S_istore_3 (q := 172) dX9_parseText_171 rfl ?_
          refine S_iload_3 (q := 173) dX9_parseText_172 rfl ?_
          refine S_if_eq (t := 186) (q := 176) dX9_parseText_173 (by decide) rfl (fun hb173 => ?_) (fun hb173 => ?_)
          · exact absurd hb173 (by decide)
          · refine S_aload_0 (q := 177) dX9_parseText_176 rfl ?_
            refine S_getR (q := 180) dX9_parseText_177 fl_X9_86 (by first | assumption | rfl) (by rfl) rfl ?_
            refine S_callV0i (q := 183) dX9_parseText_180 lk_X9_272 (by first | assumption | rfl) rfl rfl (k_X0_runTotal cO_129 (R := s.2.2.1) (fun i hi => (hI.2.1 i hi).1)) rfl rfl (Nat.le_of_ble_eq_true rfl) ⟨Nat.le_of_ble_eq_true rfl, Nat.le_of_ble_eq_true rfl⟩ ⟨Nat.le_of_ble_eq_true rfl, Nat.le_of_ble_eq_true rfl⟩ rfl (fun v180 M180 hv180 => ?_)
            obtain ⟨e180, rfl⟩ := hv180
            rw [e180]
            refine S_goto (t := 196) dX9_parseText_183 (by decide) ?_
            exact S_iret rfl dX9_parseText_196 rfl rfl (⟨hI.1, fun q hq => (by rw [hgood] at hq; cases hq), fun s1 hq => (by rw [hgood] at hq; cases hq; exact ⟨rfl, hI.2.1⟩)⟩)
    · exact absurd (Int32.le_refl _) hb21
  | succ d ih =>
    intro i s M1 hd hi hI
    have hlt : i < A.tx.2 := by omega
    have hok := hI.2.2.1
    have hs16 : s.1 < 16 := by have := hok.1; omega
    have hp8 := hok.2.1
    have hR8 : s.2.2.1 s.1 ≤ 8 := (hI.2.1 s.1 hs16).2.1
    have hch : 32 ≤ A.tx.1 i ∧ A.tx.1 i < 127 := by have := hk.tx.2 i hlt; omega
    refine S_iload_3 (q := 14) dX9_parseText_13 rfl ?_
    refine S_aload_0 (q := 15) dX9_parseText_14 rfl ?_
    refine S_getR (q := 18) dX9_parseText_15 fl_X9_76 (by first | assumption | rfl) (by rfl) rfl ?_
    refine S_getI (q := 21) dX9_parseText_18 fl_X9_284 (by first | assumption | rfl) (by rfl) rfl ?_
    rw [hI.1 125 (by omega), htl]
    refine S_icmp_ge (t := 149) (q := 24) dX9_parseText_21 (by decide) rfl (fun hb21 => ?_) (fun hb21 => ?_)
    · exact absurd hb21 (nI_ge hlt (by omega))
    · refine S_aload_0 (q := 25) dX9_parseText_24 rfl ?_
      refine S_getR (q := 28) dX9_parseText_25 fl_X9_76 (by first | assumption | rfl) (by rfl) rfl ?_
      refine S_getR (q := 31) dX9_parseText_28 fl_X9_296 (by first | assumption | rfl) (by rfl) rfl ?_
      refine S_iload_3 (q := 32) dX9_parseText_31 rfl ?_
      refine S_ialdV (i := i) (val := nI (A.tx.1 i)) (q := 33) dX9_parseText_32 (by first | assumption | rfl) (by first | (simp only [nI_add, pk_mul, nI_1]; done) | rfl) (by omega) (by decide) (by rw [hI.1 126 (by omega)]; exact htx i hlt) rfl ?_
      refine S_istore_4 (q := 35) dX9_parseText_33 rfl ?_
      refine S_iload_2 (q := 36) dX9_parseText_35 rfl ?_
      refine S_if_le (t := 85) (q := 39) dX9_parseText_36 (by decide) rfl (fun hb36 => ?_) (fun hb36 => ?_)
      · have h0 : ¬ 0 < s.2.1 := fun y => absurd ((nI_leI (b := 0) (by omega) (by decide)).mp hb36) (by omega)
        refine S_iload_4 (q := 87) dX9_parseText_85 rfl ?_
        refine S_bipush (q := 89) (nI 47) dX9_parseText_87 (by decide) rfl ?_
        refine S_icmp_ne (t := 111) (q := 92) dX9_parseText_89 (by decide) rfl (fun hb89 => ?_) (fun hb89 => ?_)
        · have h47 : ¬ A.tx.1 i = 47 := fun e => hb89 (by rw [e])
          refine S_iload_4 (q := 113) dX9_parseText_111 rfl ?_
          refine S_bipush (q := 115) (nI 48) dX9_parseText_113 (by decide) rfl ?_
          refine S_isub (q := 116) dX9_parseText_115 rfl ?_
          refine S_istore_2 (q := 117) dX9_parseText_116 rfl ?_
          refine S_iload_2 (q := 118) dX9_parseText_117 rfl ?_
          refine S_iconst (q := 119) (nI 1) dX9_parseText_118 (by decide) rfl ?_
          refine S_bipush (q := 121) (nI 8) dX9_parseText_119 (by decide) rfl ?_
          refine S_callS3i (q := 124) dX9_parseText_121 lk_X9_101 (k_X9_isWithin) rfl rfl (Nat.le_of_ble_eq_true rfl) ⟨Nat.le_of_ble_eq_true rfl, Nat.le_of_ble_eq_true rfl⟩ ⟨Nat.le_of_ble_eq_true rfl, Nat.le_of_ble_eq_true rfl⟩ rfl (fun v121 M121 hv121 => ?_)
          obtain ⟨e121, rfl⟩ := hv121
          rw [e121]
          skip
          refine S_if_eq (t := 138) (q := 127) dX9_parseText_124 (by decide) rfl (fun hb124 => ?_) (fun hb124 => ?_)
          · have hS : psS A.P (A.tx.1 i) s = none := by unfold psS; rw [if_neg h0, if_neg h47, if_neg (fun y => bI_0.mp hb124 ((dig_c _ hch.2).1.mpr ⟨y.1, y.2.1⟩))]
            have hbad := hbd i s hlt hI.2.2.2 hS
            refine S_bipush (q := 140) (-100) dX9_parseText_138 (by decide) rfl ?_
            refine S_iload_3 (q := 141) dX9_parseText_140 rfl ?_
            refine S_isub (q := 142) dX9_parseText_141 rfl ?_
            exact S_iret rfl dX9_parseText_142 rfl rfl (⟨hI.1, fun q hq => (by rw [hbad] at hq; cases hq; rfl), fun s1 hq => (by rw [hbad] at hq; cases hq)⟩)
          · have hdd := (dig_c _ hch.2).1.mp (bI_n.mp hb124)
            refine S_aload_0 (q := 128) dX9_parseText_127 rfl ?_
            refine S_getR (q := 131) dX9_parseText_128 fl_X9_86 (by first | assumption | rfl) (by rfl) rfl ?_
            refine S_iload_1 (q := 132) dX9_parseText_131 rfl ?_
            refine S_callV1i (q := 135) dX9_parseText_132 lk_X9_131 (by first | assumption | rfl) rfl rfl (k_X0_isFull cO_129 hs16) rfl rfl (Nat.le_of_ble_eq_true rfl) ⟨Nat.le_of_ble_eq_true rfl, Nat.le_of_ble_eq_true rfl⟩ ⟨Nat.le_of_ble_eq_true rfl, Nat.le_of_ble_eq_true rfl⟩ rfl (fun v132 M132 hv132 => ?_)
            obtain ⟨e132, rfl⟩ := hv132
            rw [e132]
            rw [show M1 (129 + 1) s.1 = nI (s.2.2.1 s.1) from (hI.2.1 s.1 hs16).1]
            refine S_if_eq (t := 143) (q := 138) dX9_parseText_135 (by decide) rfl (fun hb135 => ?_) (fun hb135 => ?_)
            · have hR : s.2.2.1 s.1 < 8 := Nat.lt_of_not_le (fun y => bI_0.mp hb135 ((nI_leI (by decide) (by omega)).mpr y))
              have hS : psS A.P (A.tx.1 i) s = some (s.1, A.tx.1 i - 48, s.2.2) := by unfold psS; rw [if_neg h0, if_neg h47, if_pos ⟨hdd.1, hdd.2, hR⟩]
              rw [(dig_c _ hch.2).2 hdd.1]
              refine S_iinc_3 (q := 146) (nI (i + 1)) dX9_parseText_143 (inc1 _) rfl ?_
              refine S_goto (t := 13) dX9_parseText_146 (by decide) ?_
              refine S_fgt4 ?_
              exact ih (i + 1) (s.1, A.tx.1 i - 48, s.2.2) M1 (by omega) hlt ⟨hI.1, hI.2.1, psS_ok hP hok hS, by rw [← hI.2.2.2, psT_at hlt, hS]⟩
            · have hR : ¬ s.2.2.1 s.1 < 8 := fun y => absurd ((nI_leI (by decide) (by omega)).mp (bI_n.mp hb135)) (by omega)
              have hS : psS A.P (A.tx.1 i) s = none := by unfold psS; rw [if_neg h0, if_neg h47, if_neg (fun y => hR y.2.2)]
              have hbad := hbd i s hlt hI.2.2.2 hS
              refine S_bipush (q := 140) (-100) dX9_parseText_138 (by decide) rfl ?_
              refine S_iload_3 (q := 141) dX9_parseText_140 rfl ?_
              refine S_isub (q := 142) dX9_parseText_141 rfl ?_
              exact S_iret rfl dX9_parseText_142 rfl rfl (⟨hI.1, fun q hq => (by rw [hbad] at hq; cases hq; rfl), fun s1 hq => (by rw [hbad] at hq; cases hq)⟩)
        · have h47 : A.tx.1 i = 47 := nI_inj (by omega) (by decide) hb89
          refine S_iinc_1 (q := 95) (nI (s.1 + 1)) dX9_parseText_92 (inc1 _) rfl ?_
          refine S_aload_0 (q := 96) dX9_parseText_95 rfl ?_
          refine S_getR (q := 99) dX9_parseText_96 fl_X9_12 (by first | assumption | rfl) (by rfl) rfl ?_
          refine S_iload_1 (q := 100) dX9_parseText_99 rfl ?_
          refine S_callV1i (q := 103) dX9_parseText_100 lk_X9_124 (by first | assumption | rfl) rfl rfl (k_X1_hasLine gO_1 (by rw [hI.1 1 (by omega)]; exact g0) (by rw [hI.1 1 (by omega)]; exact g1) hr8 hc8 hr1) rfl rfl (Nat.le_of_ble_eq_true rfl) ⟨Nat.le_of_ble_eq_true rfl, Nat.le_of_ble_eq_true rfl⟩ ⟨Nat.le_of_ble_eq_true rfl, Nat.le_of_ble_eq_true rfl⟩ rfl (fun v100 M100 hv100 => ?_)
          obtain ⟨e100, rfl⟩ := hv100
          rw [e100]
          refine S_if_ne (t := 143) (q := 106) dX9_parseText_103 (by decide) rfl (fun hb103 => ?_) (fun hb103 => ?_)
          · have hl2 : s.1 + 1 < A.P.r + A.P.c := (nI_ltI (by omega) (by omega)).mp (bI_n.mp hb103).2
            have hS : psS A.P (A.tx.1 i) s = some (s.1 + 1, 0, s.2.2) := by unfold psS; rw [if_neg h0, if_pos h47, if_pos hl2]
            refine S_iinc_3 (q := 146) (nI (i + 1)) dX9_parseText_143 (inc1 _) rfl ?_
            refine S_goto (t := 13) dX9_parseText_146 (by decide) ?_
            refine S_fgt4 ?_
            rw [show s.2.1 = 0 by omega]
            exact ih (i + 1) (s.1 + 1, 0, s.2.2) M1 (by omega) hlt ⟨hI.1, hI.2.1, psS_ok hP hok hS, by rw [← hI.2.2.2, psT_at hlt, hS]⟩
          · have hl2 : ¬ s.1 + 1 < A.P.r + A.P.c := fun y => bI_0.mp hb103 (inI' (by omega) y)
            have hS : psS A.P (A.tx.1 i) s = none := by unfold psS; rw [if_neg h0, if_pos h47, if_neg hl2]
            have hbad := hbd i s hlt hI.2.2.2 hS
            refine S_bipush (q := 108) (-100) dX9_parseText_106 (by decide) rfl ?_
            refine S_iload_3 (q := 109) dX9_parseText_108 rfl ?_
            refine S_isub (q := 110) dX9_parseText_109 rfl ?_
            exact S_iret rfl dX9_parseText_110 rfl rfl (⟨hI.1, fun q hq => (by rw [hbad] at hq; cases hq; rfl), fun s1 hq => (by rw [hbad] at hq; cases hq)⟩)
      · have h0 : 0 < s.2.1 := Nat.lt_of_not_le (fun y => hb36 ((nI_leI (b := 0) (by omega) (by decide)).mpr y))
        refine S_iload_4 (q := 41) dX9_parseText_39 rfl ?_
        refine S_bipush (q := 43) (nI 97) dX9_parseText_41 (by decide) rfl ?_
        refine S_isub (q := 44) dX9_parseText_43 rfl ?_
        refine S_iconst (q := 45) (nI 1) dX9_parseText_44 (by decide) rfl ?_
        refine S_iadd (q := 46) dX9_parseText_45 rfl ?_
        refine S_istore_5 (q := 48) dX9_parseText_46 rfl ?_
        refine S_iload_5 (q := 50) dX9_parseText_48 rfl ?_
        refine S_iconst (q := 51) (nI 1) dX9_parseText_50 (by decide) rfl ?_
        refine S_aload_0 (q := 52) dX9_parseText_51 rfl ?_
        refine S_getR (q := 55) dX9_parseText_52 fl_X9_12 (by first | assumption | rfl) (by rfl) rfl ?_
        refine S_getI (q := 58) dX9_parseText_55 fl_X9_121 (by first | assumption | rfl) (by rfl) rfl ?_
        rw [hI.1 1 (by omega), g2]
        refine S_callS3i (q := 61) dX9_parseText_58 lk_X9_101 (k_X9_isWithin) rfl rfl (Nat.le_of_ble_eq_true rfl) ⟨Nat.le_of_ble_eq_true rfl, Nat.le_of_ble_eq_true rfl⟩ ⟨Nat.le_of_ble_eq_true rfl, Nat.le_of_ble_eq_true rfl⟩ rfl (fun v58 M58 hv58 => ?_)
        obtain ⟨e58, rfl⟩ := hv58
        rw [e58]
        refine S_if_ne (t := 69) (q := 64) dX9_parseText_61 (by decide) rfl (fun hb61 => ?_) (fun hb61 => ?_)
        · have hcc := ((let_c _ hch.2 _ (show A.P.k < 4 by omega)).1).mp (bI_n.mp hb61)
          have hS : psS A.P (A.tx.1 i) s = some (psA A.P s (A.tx.1 i)) := by unfold psS; rw [if_pos h0, if_pos hcc]; rfl
          refine S_aload_0 (q := 70) dX9_parseText_69 rfl ?_
          refine S_getR (q := 73) dX9_parseText_70 fl_X9_86 (by first | assumption | rfl) (by rfl) rfl ?_
          refine S_iload_1 (q := 74) dX9_parseText_73 rfl ?_
          refine S_iload_2 (q := 75) dX9_parseText_74 rfl ?_
          refine S_iload_5 (q := 77) dX9_parseText_75 rfl ?_
          rw [(let_c _ hch.2 _ (show A.P.k < 4 by omega)).2 hcc.1]
          refine S_callV3v (q := 80) dX9_parseText_77 lk_X9_138 (by first | assumption | rfl) rfl rfl (k_X0_append cO_129 hs16 (n := s.2.2.1 s.1) ((hI.2.1 s.1 hs16).1) (hok.2.2.1 h0)) rfl rfl (Nat.le_of_ble_eq_true rfl) ⟨Nat.le_of_ble_eq_true rfl, Nat.le_of_ble_eq_true rfl⟩ ⟨Nat.le_of_ble_eq_true rfl, Nat.le_of_ble_eq_true rfl⟩ rfl (fun v77 M77 hv77 => ?_)
          subst hv77
          refine S_iconst (q := 81) (nI 0) dX9_parseText_80 (by decide) rfl ?_
          refine S_istore_2 (q := 82) dX9_parseText_81 rfl ?_
          refine S_goto (t := 143) dX9_parseText_82 (by decide) ?_
          refine S_iinc_3 (q := 146) (nI (i + 1)) dX9_parseText_143 (inc1 _) rfl ?_
          refine S_goto (t := 13) dX9_parseText_146 (by decide) ?_
          refine S_fgt4 ?_
          refine S_fgt5 ?_
          exact ih (i + 1) (psA A.P s (A.tx.1 i)) _ (by omega) hlt ⟨fun a ha => by rw [up_n (by omega), up_n (by omega), up_n (by omega)]; exact hI.1 a ha, CLU.app (P := (A.P.wc s.2.2.1 s.2.2.2.1 s.2.2.2.2)) (x := s.2.1) hI.2.1 hs16 (hok.2.2.1 h0) (by omega) hok.2.1 (by omega) (by omega), psS_ok hP hok hS, by rw [← hI.2.2.2, psT_at hlt, hS]⟩
        · have hS : psS A.P (A.tx.1 i) s = none := by unfold psS; rw [if_pos h0, if_neg (fun y => bI_0.mp hb61 (((let_c _ hch.2 _ (show A.P.k < 4 by omega)).1).mpr y))]
          have hbad := hbd i s hlt hI.2.2.2 hS
          refine S_bipush (q := 66) (-100) dX9_parseText_64 (by decide) rfl ?_
          refine S_iload_3 (q := 67) dX9_parseText_66 rfl ?_
          refine S_isub (q := 68) dX9_parseText_67 rfl ?_
          exact S_iret rfl dX9_parseText_68 rfl rfl (⟨hI.1, fun q hq => (by rw [hbad] at hq; cases hq; rfl), fun s1 hq => (by rw [hbad] at hq; cases hq)⟩)
theorem R16_le {P : Pz} (h : P.ok) : sm P.R 16 ≤ 128 := Nat.le_trans (sm_le (b := 8) (fun j _ => (h.cl j).1)) (by decide)
theorem psR_16 {P : Pz} {T : Nat → Nat} {n : Nat} {s : PS} (hP : P.ok) (e : psR P T n = .inr s) : sm s.2.2.1 16 ≤ 128 := Nat.le_trans (sm_le (b := 8) (fun j _ => ((psR_ok hP e).2.2.2.1.cl j).1)) (by decide)
theorem not_neg {a : Nat} (h : a < 2 ^ 31) : ¬ nI a < 0 := fun y => absurd (nI_pos' h) (Int32.not_le.mpr y)
theorem neg100 : ∀ q, q < 121 → (-100 : Int32) - nI q < 0 := by decide +kernel
set_option maxHeartbeats 4000000 in
set_option maxRecDepth 100000 in
theorem k_X9_parseClues {l : Launch} {G : Gd} {b0 : Nat} {M : Mem} {A : Ab}  (hC : CR M A) (hk : A.ok)  : Ct l G b0 yX9_parseClues cX9_parseClues 2 (some .int) (rmZ 4 123) LAY LAY M [.ref (b0 + 0)] (fun v M' => RES M (o_parse A) v M') := by
  obtain ⟨⟨g0, g1, g2, gcu, gce⟩, hru, hbl, hbd, hsn, hss, ⟨nx, hnx, hx1, hx2, hx3⟩, ⟨htl, htx⟩, ⟨hfl, hfo⟩, htb⟩ := id hC
  have hP := hk.P
  have hr1 := hP.r1
  have hr8 := hP.r8
  have hc1 := hP.c1
  have hc8 := hP.c8
  have hk1 := hP.k1
  have hk3 := hP.k3
  have h64 := rc64 hr8 hc8
  have hH8 := hk.H8
  have hN : A.N = A.P.r + A.P.c := rfl
  refine Ct.of [some (.ref (b0 + 0)), none] (by decide) (Nat.le_of_ble_eq_true rfl) rfl rfl ?_
  refine S_aload_0 (q := 1) dX9_parseClues_0 rfl ?_
  refine S_callV0i (q := 4) dX9_parseClues_1 lk_X9_287 (by first | assumption | rfl) rfl rfl (k_X9_parseText hC hk) rfl rfl (Nat.le_of_ble_eq_true rfl) ⟨Nat.le_of_ble_eq_true rfl, Nat.le_of_ble_eq_true rfl⟩ ⟨Nat.le_of_ble_eq_true rfl, Nat.le_of_ble_eq_true rfl⟩ rfl (fun v1 M1 hv1 => ?_)
  obtain ⟨hs1, hs2, hs3⟩ := hv1
  refine S_istore_1 (q := 5) dX9_parseClues_4 rfl ?_
  refine S_aload_0 (q := 6) dX9_parseClues_5 rfl ?_
  refine S_getR (q := 9) dX9_parseClues_6 fl_X9_76 (by first | assumption | rfl) (by rfl) rfl ?_
  refine S_callV0v (q := 12) dX9_parseClues_9 lk_X9_290 (by first | assumption | rfl) rfl rfl (k_X8_clear xO_125) rfl rfl (Nat.le_of_ble_eq_true rfl) ⟨Nat.le_of_ble_eq_true rfl, Nat.le_of_ble_eq_true rfl⟩ ⟨Nat.le_of_ble_eq_true rfl, Nat.le_of_ble_eq_true rfl⟩ rfl (fun v9 M9 hv9 => ?_)
  subst hv9
  have hC1 : CR (up M1 125 1 (nI 0)) (A.sT (A.tx.1, 0)) := (hC.fr (M1 := M1) (fun a ha => hs1 a (by omega))).text (fun a h1 h2 => up_n h1) ⟨up_s, fun j (hj : j < 0) => absurd hj (Nat.not_lt_zero j)⟩
  refine S_iload_1 (q := 13) dX9_parseClues_12 rfl ?_
  refine S_if_lt (t := 41) (q := 16) dX9_parseClues_13 (by decide) rfl (fun hb13 => ?_) (fun hb13 => ?_)
  · obtain ⟨q, hq⟩ : ∃ q, psR A.P A.tx.1 A.tx.2 = .inl q := by
      cases e : psR A.P A.tx.1 A.tx.2 with
      | inl q => exact ⟨q, rfl⟩
      | inr s => have h1 := (hs3 s e).1; rw [h1] at hb13; exact absurd hb13 (not_neg (Nat.lt_of_le_of_lt (psR_16 hP e) (by decide)))
    refine S_iload_1 (q := 42) dX9_parseClues_41 rfl ?_
    exact S_iret rfl dX9_parseClues_42 rfl rfl (RES.to (A := A.sT (A.tx.1, 0)) hC1 (fun a ha => by rw [up_n (by omega)]; exact hs1 a (by omega)) (by unfold o_parse; rw [hq]; simp only; rw [hs2 q hq]))
  · obtain ⟨s, hq⟩ : ∃ s, psR A.P A.tx.1 A.tx.2 = .inr s := by
      cases e : psR A.P A.tx.1 A.tx.2 with
      | inr s => exact ⟨s, rfl⟩
      | inl q => have h1 := hs2 q e; rw [h1] at hb13; exact absurd (neg100 _ (show q < 121 by have := psR_le e; have := hk.tx.1; omega)) hb13
    obtain ⟨e1, hcl⟩ := hs3 s hq
    have hk1t : (A.sT (A.tx.1, 0)).ok := ⟨hk.1, hk.2.1, hk.H8, hk.ru, hk.bad, ⟨Nat.zero_le _, fun j (hj : j < 0) => absurd hj (Nat.not_lt_zero j)⟩, hk.fo, hk.tb, hk.sn⟩
    obtain ⟨-, -, -, -, -, -, ⟨ny, hny, hy1, hy2, hy3⟩, -, -, -⟩ := id hC1
    refine S_aload_0 (q := 17) dX9_parseClues_16 rfl ?_
    refine S_getR (q := 20) dX9_parseClues_17 fl_X9_29 (by first | assumption | rfl) (by rfl) rfl ?_
    refine S_aload_0 (q := 21) dX9_parseClues_20 rfl ?_
    refine S_getR (q := 24) dX9_parseClues_21 fl_X9_12 (by first | assumption | rfl) (by rfl) rfl ?_
    refine S_callV1v (q := 27) dX9_parseClues_24 lk_X9_134 (by first | assumption | rfl) rfl rfl (k_X2_push gO_1 (.inl (by decide)) hy1 hny hy2 hH8) rfl rfl (Nat.le_of_ble_eq_true rfl) ⟨Nat.le_of_ble_eq_true rfl, Nat.le_of_ble_eq_true rfl⟩ ⟨Nat.le_of_ble_eq_true rfl, Nat.le_of_ble_eq_true rfl⟩ rfl (fun v24 M24 hv24 => ?_)
    have hp := PSH.of hC1 hk1t hny hy3 hv24
    have hpf := hp.1
    refine S_aload_0 (q := 28) dX9_parseClues_27 rfl ?_
    refine S_getR (q := 31) dX9_parseClues_28 fl_X9_12 (by first | assumption | rfl) (by rfl) rfl ?_
    refine S_getR (q := 34) dX9_parseClues_31 fl_X9_128 (by first | assumption | rfl) (by rfl) rfl ?_
    refine S_aload_0 (q := 35) dX9_parseClues_34 rfl ?_
    refine S_getR (q := 38) dX9_parseClues_35 fl_X9_86 (by first | assumption | rfl) (by rfl) rfl ?_
    refine S_callV1v (q := 41) dX9_parseClues_38 lk_X9_293 (by first | assumption | rfl) rfl rfl (k_X0_copyFrom gO_1.2.1 cO_129 (by decide)) rfl rfl (Nat.le_of_ble_eq_true rfl) ⟨Nat.le_of_ble_eq_true rfl, Nat.le_of_ble_eq_true rfl⟩ ⟨Nat.le_of_ble_eq_true rfl, Nat.le_of_ble_eq_true rfl⟩ rfl (fun v38 M38 hv38 => ?_)
    refine S_iload_1 (q := 42) dX9_parseClues_41 rfl ?_
    exact S_iret rfl dX9_parseClues_42 rfl rfl (RES.to (A := (A.sG (A.P.wc s.2.2.1 s.2.2.2.1 s.2.2.2.2) A.f A.ps).sT (A.tx.1, 0)) (hC1.ed hp (P := A.P.wc s.2.2.1 s.2.2.2.1 s.2.2.2.2) (f := A.f) rfl rfl rfl (fun a ha => hv38.1 a (by omega) (by omega) (by omega)) (GR.clu (hC1.1.fr (M1 := M24) (fun a _ _ => hpf a (by omega))) (hv38.1 1 (by omega) (by omega) (by omega)) (hv38.1 6 (by omega) (by omega) (by omega)) (CLU.cp (hcl.fr (M1 := M24) (by rw [hpf _ (by omega), up_n (by omega)]) (by rw [hpf _ (by omega), up_n (by omega)]) (by rw [hpf _ (by omega), up_n (by omega)])) hv38.2.1 hv38.2.2.1 hv38.2.2.2))) (fun a ha => by rw [hv38.1 a (by omega) (by omega) (by omega), hpf a (by omega), up_n (by omega)]; exact hs1 a (by omega)) (by unfold o_parse; rw [hq]; simp only; rw [e1]))
theorem fmJ_n {P : Pz} {i : Nat} {s : (Nat → Nat) × Nat} : ∀ j, (fmJ P i s j).2 = s.2 + 2 * j
  | 0 => rfl
  | j + 1 => by show (fmJ P i s j).2 + 1 + 1 = _; rw [fmJ_n j]; omega
theorem fmL_n {P : Pz} {T : Nat → Nat} (hP : P.ok) : ∀ i, (fmL P T i).2 ≤ 17 * i ∧ (1 ≤ i → (fmL P T i).2 + 1 ≤ 17 * i)
  | 0 => ⟨Nat.le_refl _, fun h => absurd h (by decide)⟩
  | i + 1 => by
    obtain ⟨h1, h2⟩ := fmL_n hP (T := T) i
    have hR := (hP.cl i).1
    have e : (fmL P T (i + 1)).2 = (if 0 < i then psh (fmL P T i) 47 else fmL P T i).2 + 2 * P.R i := fmJ_n _
    have e2 : (if 0 < i then psh (fmL P T i) 47 else fmL P T i).2 + 1 ≤ 17 * i + 1 := by
      by_cases y : 0 < i
      · rw [if_pos y]; have := h2 y; show (fmL P T i).2 + 1 + 1 ≤ _; omega
      · rw [if_neg y]; omega
    rw [e]
    omega
set_option maxHeartbeats 4000000 in
set_option maxRecDepth 100000 in
theorem q_fmtLine {l : Launch} {G : Gd} {b0 : Nat} {M : Mem} {A : Ab} {Post : PT} {i0 : Nat} {s0 : (Nat → Nat) × Nat} {M0 : Mem} (hC : CR M A) (hk : A.ok) (hi16 : i0 < 16) (hl : s0.2 + 2 * A.P.R i0 ≤ 271) (hf0 : ∀ a, a ≠ 127 → a ≠ 128 → M0 a = M a) (hT0 : TX M0 127 s0) (k : ∀ M2, (∀ a, a ≠ 127 → a ≠ 128 → M2 a = M a) → TX M2 127 (fmJ A.P i0 s0 (A.P.R i0)) → S l G b0 yX9_formatClues cX9_formatClues 3 (some .int) (rmZ 1 22) LAY Post 0 0 0 0 LAY 105 [some (.ref (b0 + 0)), some (.int (nI i0)), some (.int (nI (A.P.R i0)))] [] M2) : S l G b0 yX9_formatClues cX9_formatClues 3 (some .int) (rmZ 1 22) LAY Post 0 0 0 0 LAY 36 [some (.ref (b0 + 0)), some (.int (nI i0)), some (.int (nI 0))] [] M0 := by
  obtain ⟨⟨g0, g1, g2, gcu, gce⟩, hru, hbl, hbd, hsn, hss, ⟨nx, hnx, hx1, hx2, hx3⟩, ⟨htl, htx⟩, ⟨hfl, hfo⟩, htb⟩ := id hC
  have hP := hk.P
  have hr1 := hP.r1
  have hr8 := hP.r8
  have hc1 := hP.c1
  have hc8 := hP.c8
  have hk1 := hP.k1
  have hk3 := hP.k3
  have h64 := rc64 hr8 hc8
  have hH8 := hk.H8
  have hN : A.N = A.P.r + A.P.c := rfl
  have hR8 := (gcu i0 hi16).2.1
  suffices H : ∀ (d : Nat) (i : Nat) (M1 : Mem), (A.P.R i0) - i = d → i ≤ (A.P.R i0) → ((∀ a, a ≠ 127 → a ≠ 128 → M1 a = M a) ∧ TX M1 127 (fmJ A.P i0 s0 (i))) → S l G b0 yX9_formatClues cX9_formatClues 3 (some .int) (rmZ 1 22) LAY Post 0 0 0 0 LAY 36 [some (.ref (b0 + 0)), some (.int (nI i0)), some (.int (nI (i)))] [] M1 from H _ 0 _ rfl (by omega) ⟨hf0, hT0⟩
  intro d
  induction d with
  | zero =>
    intro i M1 hd hi hI
    have e : (A.P.R i0) = i := by omega
    subst e
    refine S_iload_2 (q := 37) dX9_formatClues_36 rfl ?_
    refine S_aload_0 (q := 38) dX9_formatClues_37 rfl ?_
    refine S_getR (q := 41) dX9_formatClues_38 fl_X9_12 (by first | assumption | rfl) (by rfl) rfl ?_
    refine S_getR (q := 44) dX9_formatClues_41 fl_X9_128 (by first | assumption | rfl) (by rfl) rfl ?_
    refine S_iload_1 (q := 45) dX9_formatClues_44 rfl ?_
    refine S_callV1i (q := 48) dX9_formatClues_45 lk_X9_141 (by first | assumption | rfl) rfl rfl (k_X0_runsOf gO_1.2.1 hi16) rfl rfl (Nat.le_of_ble_eq_true rfl) ⟨Nat.le_of_ble_eq_true rfl, Nat.le_of_ble_eq_true rfl⟩ ⟨Nat.le_of_ble_eq_true rfl, Nat.le_of_ble_eq_true rfl⟩ rfl (fun v45 M45 hv45 => ?_)
    obtain ⟨e45, rfl⟩ := hv45
    rw [e45, show M1 (1 + 1 + 1) i0 = nI (A.P.R i0) by rw [hI.1 _ (by omega) (by omega)]; exact (gcu i0 hi16).1]
    refine S_icmp_ge (t := 105) (q := 51) dX9_formatClues_48 (by decide) rfl (fun hb48 => ?_) (fun hb48 => ?_)
    · exact k M1 hI.1 hI.2
    · exact absurd (Int32.le_refl _) hb48
  | succ d ih =>
    intro i M1 hd hi hI
    have hlt : i < (A.P.R i0) := by omega
    have hfn := fmJ_n (P := A.P) (i := i0) (s := s0) i
    refine S_iload_2 (q := 37) dX9_formatClues_36 rfl ?_
    refine S_aload_0 (q := 38) dX9_formatClues_37 rfl ?_
    refine S_getR (q := 41) dX9_formatClues_38 fl_X9_12 (by first | assumption | rfl) (by rfl) rfl ?_
    refine S_getR (q := 44) dX9_formatClues_41 fl_X9_128 (by first | assumption | rfl) (by rfl) rfl ?_
    refine S_iload_1 (q := 45) dX9_formatClues_44 rfl ?_
    refine S_callV1i (q := 48) dX9_formatClues_45 lk_X9_141 (by first | assumption | rfl) rfl rfl (k_X0_runsOf gO_1.2.1 hi16) rfl rfl (Nat.le_of_ble_eq_true rfl) ⟨Nat.le_of_ble_eq_true rfl, Nat.le_of_ble_eq_true rfl⟩ ⟨Nat.le_of_ble_eq_true rfl, Nat.le_of_ble_eq_true rfl⟩ rfl (fun v45 M45 hv45 => ?_)
    obtain ⟨e45, rfl⟩ := hv45
    rw [e45, show M1 (1 + 1 + 1) i0 = nI (A.P.R i0) by rw [hI.1 _ (by omega) (by omega)]; exact (gcu i0 hi16).1]
    refine S_icmp_ge (t := 105) (q := 51) dX9_formatClues_48 (by decide) rfl (fun hb48 => ?_) (fun hb48 => ?_)
    · exact absurd hb48 (nI_ge hlt (by omega))
    · refine S_aload_0 (q := 52) dX9_formatClues_51 rfl ?_
      refine S_getR (q := 55) dX9_formatClues_52 fl_X9_80 (by first | assumption | rfl) (by rfl) rfl ?_
      refine S_bipush (q := 57) (nI 48) dX9_formatClues_55 (by decide) rfl ?_
      refine S_aload_0 (q := 58) dX9_formatClues_57 rfl ?_
      refine S_getR (q := 61) dX9_formatClues_58 fl_X9_12 (by first | assumption | rfl) (by rfl) rfl ?_
      refine S_getR (q := 64) dX9_formatClues_61 fl_X9_128 (by first | assumption | rfl) (by rfl) rfl ?_
      refine S_iload_1 (q := 65) dX9_formatClues_64 rfl ?_
      refine S_iload_2 (q := 66) dX9_formatClues_65 rfl ?_
      refine S_callV2i (q := 69) dX9_formatClues_66 lk_X9_152 (by first | assumption | rfl) rfl rfl (k_X0_lengthOf gO_1.2.1 (show i0 * 8 + i < 128 by omega)) rfl rfl (Nat.le_of_ble_eq_true rfl) ⟨Nat.le_of_ble_eq_true rfl, Nat.le_of_ble_eq_true rfl⟩ ⟨Nat.le_of_ble_eq_true rfl, Nat.le_of_ble_eq_true rfl⟩ rfl (fun v66 M66 hv66 => ?_)
      obtain ⟨e66, rfl⟩ := hv66
      rw [e66, show M1 (1 + 1 + 2) (i0 * 8 + i) = nI (A.P.len i0 i) by rw [hI.1 _ (by omega) (by omega)]; exact ((gcu i0 hi16).2.2 i hlt).1]
      refine S_iadd (q := 70) dX9_formatClues_69 rfl ?_
      rw [nI_add]
      refine S_callV1i (q := 73) dX9_formatClues_70 lk_X9_282 (by first | assumption | rfl) rfl rfl (k_X8_append xO_127 (by decide) hI.2.1 (show (fmJ A.P i0 s0 i).2 ≤ 271 by omega)) rfl rfl (Nat.le_of_ble_eq_true rfl) ⟨Nat.le_of_ble_eq_true rfl, Nat.le_of_ble_eq_true rfl⟩ ⟨Nat.le_of_ble_eq_true rfl, Nat.le_of_ble_eq_true rfl⟩ rfl (fun v70 M70 hv70 => ?_)
      obtain ⟨rfl, e70⟩ := hv70.2 (by omega)
      have hT1 : TX M70 127 (psh (fmJ A.P i0 s0 i) (48 + A.P.len i0 i)) := by rw [e70]; exact TX.psh hI.2
      have hf1 : ∀ a, a ≠ 127 → a ≠ 128 → M70 a = M a := fun a h1 h2 => by rw [e70, up_n h1, up_n h2]; exact hI.1 a h1 h2
      refine S_pop (q := 74) dX9_formatClues_73 rfl rfl ?_
      refine S_aload_0 (q := 75) dX9_formatClues_74 rfl ?_
      refine S_getR (q := 78) dX9_formatClues_75 fl_X9_80 (by first | assumption | rfl) (by rfl) rfl ?_
      refine S_bipush (q := 80) (nI 97) dX9_formatClues_78 (by decide) rfl ?_
      refine S_aload_0 (q := 81) dX9_formatClues_80 rfl ?_
      refine S_getR (q := 84) dX9_formatClues_81 fl_X9_12 (by first | assumption | rfl) (by rfl) rfl ?_
      refine S_getR (q := 87) dX9_formatClues_84 fl_X9_128 (by first | assumption | rfl) (by rfl) rfl ?_
      refine S_iload_1 (q := 88) dX9_formatClues_87 rfl ?_
      refine S_iload_2 (q := 89) dX9_formatClues_88 rfl ?_
      refine S_callV2i (q := 92) dX9_formatClues_89 lk_X9_156 (by first | assumption | rfl) rfl rfl (k_X0_colorOf gO_1.2.1 (show i0 * 8 + i < 128 by omega)) rfl rfl (Nat.le_of_ble_eq_true rfl) ⟨Nat.le_of_ble_eq_true rfl, Nat.le_of_ble_eq_true rfl⟩ ⟨Nat.le_of_ble_eq_true rfl, Nat.le_of_ble_eq_true rfl⟩ rfl (fun v89 M89 hv89 => ?_)
      obtain ⟨e89, rfl⟩ := hv89
      rw [e89, show M70 (1 + 1 + 3) (i0 * 8 + i) = nI (A.P.col i0 i) by rw [hf1 _ (by omega) (by omega)]; exact ((gcu i0 hi16).2.2 i hlt).2.2.2.1]
      refine S_iadd (q := 93) dX9_formatClues_92 rfl ?_
      refine S_iconst (q := 94) (nI 1) dX9_formatClues_93 (by decide) rfl ?_
      skip
      refine S_isub (q := 95) dX9_formatClues_94 rfl ?_
      rw [nI_add, pk_sub (show 1 ≤ 97 + A.P.col i0 i by omega), show 97 + A.P.col i0 i - 1 = 96 + A.P.col i0 i by omega]
      refine S_callV1i (q := 98) dX9_formatClues_95 lk_X9_282 (by first | assumption | rfl) rfl rfl (k_X8_append xO_127 (by decide) hT1.1 (show (psh (fmJ A.P i0 s0 i) (48 + A.P.len i0 i)).2 ≤ 271 by show (fmJ A.P i0 s0 i).2 + 1 ≤ 271; omega)) rfl rfl (Nat.le_of_ble_eq_true rfl) ⟨Nat.le_of_ble_eq_true rfl, Nat.le_of_ble_eq_true rfl⟩ ⟨Nat.le_of_ble_eq_true rfl, Nat.le_of_ble_eq_true rfl⟩ rfl (fun v95 M95 hv95 => ?_)
      obtain ⟨rfl, e95⟩ := hv95.2 (by show (fmJ A.P i0 s0 i).2 + 1 < 271; omega)
      have hT2 : TX M95 127 (fmJ A.P i0 s0 (i + 1)) := by rw [e95]; exact TX.psh hT1
      have hf2 : ∀ a, a ≠ 127 → a ≠ 128 → M95 a = M a := fun a h1 h2 => by rw [e95, up_n h1, up_n h2]; exact hf1 a h1 h2
      refine S_pop (q := 99) dX9_formatClues_98 rfl rfl ?_
      refine S_iinc_2 (q := 102) (nI (i + 1)) dX9_formatClues_99 (inc1 _) rfl ?_
      refine S_goto (t := 36) dX9_formatClues_102 (by decide) ?_
      exact ih (i + 1) M95 (by omega) hlt ⟨hf2, hT2⟩
set_option maxHeartbeats 4000000 in
set_option maxRecDepth 100000 in
theorem k_X9_formatClues {l : Launch} {G : Gd} {b0 : Nat} {M : Mem} {A : Ab}  (hC : CR M A) (hk : A.ok)  : Ct l G b0 yX9_formatClues cX9_formatClues 3 (some .int) (rmZ 1 22) LAY LAY M [.ref (b0 + 0)] (fun v M' => RES M (o_form A) v M') := by
  obtain ⟨⟨g0, g1, g2, gcu, gce⟩, hru, hbl, hbd, hsn, hss, ⟨nx, hnx, hx1, hx2, hx3⟩, ⟨htl, htx⟩, ⟨hfl, hfo⟩, htb⟩ := id hC
  have hP := hk.P
  have hr1 := hP.r1
  have hr8 := hP.r8
  have hc1 := hP.c1
  have hc8 := hP.c8
  have hk1 := hP.k1
  have hk3 := hP.k3
  have h64 := rc64 hr8 hc8
  have hH8 := hk.H8
  have hN : A.N = A.P.r + A.P.c := rfl
  refine Ct.of [some (.ref (b0 + 0)), none, none] (by decide) (Nat.le_of_ble_eq_true rfl) rfl rfl ?_
  refine S_aload_0 (q := 1) dX9_formatClues_0 rfl ?_
  refine S_getR (q := 4) dX9_formatClues_1 fl_X9_80 (by first | assumption | rfl) (by rfl) rfl ?_
  refine S_callV0v (q := 7) dX9_formatClues_4 lk_X9_290 (by first | assumption | rfl) rfl rfl (k_X8_clear xO_127) rfl rfl (Nat.le_of_ble_eq_true rfl) ⟨Nat.le_of_ble_eq_true rfl, Nat.le_of_ble_eq_true rfl⟩ ⟨Nat.le_of_ble_eq_true rfl, Nat.le_of_ble_eq_true rfl⟩ rfl (fun v4 M4 hv4 => ?_)
  subst hv4
  refine S_iconst (q := 8) (nI 0) dX9_formatClues_7 (by decide) rfl ?_
  refine S_istore_1 (q := 9) dX9_formatClues_8 rfl ?_
  suffices H : ∀ (d : Nat) (i : Nat) (M1 : Mem), (A.P.r + A.P.c) - i = d → i ≤ (A.P.r + A.P.c) → ((∀ a, a ≠ 127 → a ≠ 128 → M1 a = M a) ∧ TX M1 127 (fmL A.P A.fo.1 (i))) → S l G b0 yX9_formatClues cX9_formatClues 3 (some .int) (rmZ 1 22) LAY (fun v M' => RES M (o_form A) v M') 0 0 0 0 LAY 9 [some (.ref (b0 + 0)), some (.int (nI (i))), none] [] M1 from H _ 0 _ rfl (by omega) ⟨fun a h1 _ => up_n h1, up_s, fun j (hj : j < 0) => absurd hj (Nat.not_lt_zero j)⟩
  intro d
  induction d with
  | zero =>
    intro i M1 hd hi hI
    have e : (A.P.r + A.P.c) = i := by omega
    subst e
    refine S_iload_1 (q := 10) dX9_formatClues_9 rfl ?_
    refine S_aload_0 (q := 11) dX9_formatClues_10 rfl ?_
    refine S_getR (q := 14) dX9_formatClues_11 fl_X9_12 (by first | assumption | rfl) (by rfl) rfl ?_
    refine S_callV0i (q := 17) dX9_formatClues_14 lk_X9_111 (by first | assumption | rfl) rfl rfl (k_X1_lineTotal gO_1 (by rw [hI.1 1 (by omega) (by omega)]; exact g0) (by rw [hI.1 1 (by omega) (by omega)]; exact g1)) rfl rfl (Nat.le_of_ble_eq_true rfl) ⟨Nat.le_of_ble_eq_true rfl, Nat.le_of_ble_eq_true rfl⟩ ⟨Nat.le_of_ble_eq_true rfl, Nat.le_of_ble_eq_true rfl⟩ rfl (fun v14 M14 hv14 => ?_)
    obtain ⟨e14, rfl⟩ := hv14
    rw [e14]
    refine S_icmp_ge (t := 111) (q := 20) dX9_formatClues_17 (by decide) rfl (fun hb17 => ?_) (fun hb17 => ?_)
    · refine S_aload_0 (q := 112) dX9_formatClues_111 rfl ?_
      refine S_getR (q := 115) dX9_formatClues_112 fl_X9_80 (by first | assumption | rfl) (by rfl) rfl ?_
      refine S_getI (q := 118) dX9_formatClues_115 fl_X9_284 (by first | assumption | rfl) (by rfl) rfl ?_
      rw [hI.2.1]
      exact S_iret rfl dX9_formatClues_118 rfl rfl (RES.to (A := A.sF (fmL A.P A.fo.1 (A.P.r + A.P.c))) (hC.form hI.1 hI.2) (fun a ha => hI.1 a (by omega) (by omega)) rfl)
    · exact absurd (Int32.le_refl _) hb17
  | succ d ih =>
    intro i M1 hd hi hI
    have hlt : i < (A.P.r + A.P.c) := by omega
    have hi16 : i < 16 := by omega
    have hfn := fmL_n (P := A.P) (T := A.fo.1) hP i
    refine S_iload_1 (q := 10) dX9_formatClues_9 rfl ?_
    refine S_aload_0 (q := 11) dX9_formatClues_10 rfl ?_
    refine S_getR (q := 14) dX9_formatClues_11 fl_X9_12 (by first | assumption | rfl) (by rfl) rfl ?_
    refine S_callV0i (q := 17) dX9_formatClues_14 lk_X9_111 (by first | assumption | rfl) rfl rfl (k_X1_lineTotal gO_1 (by rw [hI.1 1 (by omega) (by omega)]; exact g0) (by rw [hI.1 1 (by omega) (by omega)]; exact g1)) rfl rfl (Nat.le_of_ble_eq_true rfl) ⟨Nat.le_of_ble_eq_true rfl, Nat.le_of_ble_eq_true rfl⟩ ⟨Nat.le_of_ble_eq_true rfl, Nat.le_of_ble_eq_true rfl⟩ rfl (fun v14 M14 hv14 => ?_)
    obtain ⟨e14, rfl⟩ := hv14
    rw [e14]
    refine S_icmp_ge (t := 111) (q := 20) dX9_formatClues_17 (by decide) rfl (fun hb17 => ?_) (fun hb17 => ?_)
    · exact absurd hb17 (nI_ge hlt (by omega))
    · refine S_iload_1 (q := 21) dX9_formatClues_20 rfl ?_
      refine S_if_le (t := 34) (q := 24) dX9_formatClues_21 (by decide) rfl (fun hb21 => ?_) (fun hb21 => ?_)
      · have h0 : ¬ 0 < i := fun y => absurd ((nI_leI (b := 0) (by omega) (by decide)).mp hb21) (by omega)
        refine S_iconst (q := 35) (nI 0) dX9_formatClues_34 (by decide) rfl ?_
        refine S_istore_2 (q := 36) dX9_formatClues_35 rfl ?_
        refine q_fmtLine hC hk hi16 (s0 := fmL A.P A.fo.1 i) (by have := (gcu i hi16).2.1; omega) hI.1 hI.2 (fun M2 h1 h2 => ?_)
        refine S_iinc_1 (q := 108) (nI (i + 1)) dX9_formatClues_105 (inc1 _) rfl ?_
        refine S_goto (t := 9) dX9_formatClues_108 (by decide) ?_
        refine S_fgt2 ?_
        exact ih (i + 1) M2 (by omega) hlt ⟨h1, by rw [show fmL A.P A.fo.1 (i + 1) = fmJ A.P i (if 0 < i then psh (fmL A.P A.fo.1 i) 47 else fmL A.P A.fo.1 i) (A.P.R i) from rfl, if_neg h0]; exact h2⟩
      · have h0 : 0 < i := Nat.lt_of_not_le (fun y => hb21 ((nI_leI (b := 0) (by omega) (by decide)).mpr y))
        have hb2 := hfn.2 h0
        refine S_aload_0 (q := 25) dX9_formatClues_24 rfl ?_
        refine S_getR (q := 28) dX9_formatClues_25 fl_X9_80 (by first | assumption | rfl) (by rfl) rfl ?_
        refine S_bipush (q := 30) (nI 47) dX9_formatClues_28 (by decide) rfl ?_
        refine S_callV1i (q := 33) dX9_formatClues_30 lk_X9_282 (by first | assumption | rfl) rfl rfl (k_X8_append xO_127 (by decide) hI.2.1 (show (fmL A.P A.fo.1 i).2 ≤ 271 by omega)) rfl rfl (Nat.le_of_ble_eq_true rfl) ⟨Nat.le_of_ble_eq_true rfl, Nat.le_of_ble_eq_true rfl⟩ ⟨Nat.le_of_ble_eq_true rfl, Nat.le_of_ble_eq_true rfl⟩ rfl (fun v30 M30 hv30 => ?_)
        obtain ⟨rfl, e30⟩ := hv30.2 (by omega)
        have hT1 : TX M30 127 (psh (fmL A.P A.fo.1 i) 47) := by rw [e30]; exact TX.psh hI.2
        have hf1 : ∀ a, a ≠ 127 → a ≠ 128 → M30 a = M a := fun a h1 h2 => by rw [e30, up_n h1, up_n h2]; exact hI.1 a h1 h2
        refine S_pop (q := 34) dX9_formatClues_33 rfl rfl ?_
        refine S_iconst (q := 35) (nI 0) dX9_formatClues_34 (by decide) rfl ?_
        refine S_istore_2 (q := 36) dX9_formatClues_35 rfl ?_
        have hps : (psh (fmL A.P A.fo.1 i) 47).2 = (fmL A.P A.fo.1 i).2 + 1 := rfl
        refine q_fmtLine hC hk hi16 (s0 := psh (fmL A.P A.fo.1 i) 47) (by have := (gcu i hi16).2.1; omega) hf1 hT1 (fun M2 h1 h2 => ?_)
        refine S_iinc_1 (q := 108) (nI (i + 1)) dX9_formatClues_105 (inc1 _) rfl ?_
        refine S_goto (t := 9) dX9_formatClues_108 (by decide) ?_
        refine S_fgt2 ?_
        exact ih (i + 1) M2 (by omega) hlt ⟨h1, by rw [show fmL A.P A.fo.1 (i + 1) = fmJ A.P i (if 0 < i then psh (fmL A.P A.fo.1 i) 47 else fmL A.P A.fo.1 i) (A.P.R i) from rfl, if_pos h0]; exact h2⟩
