theorem psT_at {P : Pz} {T : Nat → Nat} {n i : Nat} {s : PS} (hi : i < n) : psT P T n (n - i) s = match psS P (T i) s with | none => .inl i | some s => psT P T n (n - (i + 1)) s := by
  rw [show n - i = n - (i + 1) + 1 by omega]
  show (match psS P (T (n - (n - (i + 1) + 1))) s with | none => _ | some s => _) = _
  rw [show n - (n - (i + 1) + 1) = i by omega]
/-- the reader's state is good -/
def PSok (P : Pz) (s : PS) : Prop := s.1 < P.r + P.c ∧ s.2.1 ≤ 8 ∧ (0 < s.2.1 → s.2.2.1 s.1 < 8) ∧ (P.wc s.2.2.1 s.2.2.2.1 s.2.2.2.2).ok ∧ ∀ i, s.1 < i → s.2.2.1 i = 0
def psA (P : Pz) (s : PS) (ch : Nat) : PS := (s.1, 0, upf s.2.2.1 s.1 (s.2.2.1 s.1 + 1), (fun a b => if a = s.1 ∧ b = s.2.2.1 s.1 then s.2.1 else s.2.2.2.1 a b), (fun a b => if a = s.1 ∧ b = s.2.2.1 s.1 then ch - 96 else s.2.2.2.2 a b))
theorem Pz.ok.app {P : Pz} {i x z : Nat} (h : P.ok) (hn : P.R i < 8) (hx1 : 1 ≤ x) (hx8 : x ≤ 8) (hz1 : 1 ≤ z) (hz3 : z ≤ 3) : (P.wc (upf P.R i (P.R i + 1)) (fun a b => if a = i ∧ b = P.R i then x else P.len a b) (fun a b => if a = i ∧ b = P.R i then z else P.col a b)).ok := by
  refine ⟨h.r1, h.r8, h.c1, h.c8, h.k1, h.k3, fun a => ?_⟩
  obtain ⟨h1, h2⟩ := h.cl a
  show upf P.R i (P.R i + 1) a ≤ 8 ∧ ∀ j, j < upf P.R i (P.R i + 1) a → 1 ≤ (if a = i ∧ j = P.R i then x else P.len a j) ∧ (if a = i ∧ j = P.R i then x else P.len a j) ≤ 8 ∧ 1 ≤ (if a = i ∧ j = P.R i then z else P.col a j) ∧ (if a = i ∧ j = P.R i then z else P.col a j) ≤ 3
  by_cases e : a = i
  · subst e
    rw [upf_s]
    refine ⟨by omega, fun j hj => ?_⟩
    by_cases ej : j = P.R a
    · rw [if_pos ⟨rfl, ej⟩, if_pos ⟨rfl, ej⟩]; exact ⟨hx1, hx8, hz1, hz3⟩
    · rw [if_neg (fun y => ej y.2), if_neg (fun y => ej y.2)]; exact h2 j (by omega)
  · rw [upf_n e]
    refine ⟨h1, fun j hj => ?_⟩
    rw [if_neg (fun y => e y.1), if_neg (fun y => e y.1)]; exact h2 j hj
theorem Pz.ok.emp {P : Pz} (h : P.ok) {len col : Nat → Nat → Nat} : (P.wc (fun _ => 0) len col).ok := ⟨h.r1, h.r8, h.c1, h.c8, h.k1, h.k3, fun _ => ⟨Nat.zero_le _, fun j hj => absurd (show j < 0 from hj) (Nat.not_lt_zero j)⟩⟩
theorem PSok.zero {P : Pz} (h : P.ok) : PSok P ps0 := ⟨by have := h.r1; show 0 < _; omega, Nat.zero_le _, fun y => absurd y (Nat.not_lt_zero 0), h.emp, fun _ _ => rfl⟩
theorem psS_ok {P : Pz} {s s1 : PS} {ch : Nat} (hP : P.ok) (h : PSok P s) (e : psS P ch s = some s1) : PSok P s1 := by
  obtain ⟨h1, h2, h3, h4, h5⟩ := h
  unfold psS at e
  by_cases c0 : 0 < s.2.1
  · rw [if_pos c0] at e
    by_cases c1 : 97 ≤ ch ∧ ch ≤ 96 + P.k
    · rw [if_pos c1] at e
      cases e
      have := hP.k3
      refine ⟨h1, Nat.zero_le _, fun y => absurd y (Nat.not_lt_zero 0), Pz.ok.app (i := s.1) (x := s.2.1) (z := ch - 96) h4 (h3 c0) (by omega) h2 (by omega) (by omega), fun i hi => ?_⟩
      show upf s.2.2.1 s.1 (s.2.2.1 s.1 + 1) i = 0
      have hi' : s.1 < i := hi
      rw [upf_n (by omega)]; exact h5 i hi'
    · rw [if_neg c1] at e; cases e
  · rw [if_neg c0] at e
    by_cases c1 : ch = 47
    · rw [if_pos c1] at e
      by_cases c2 : s.1 + 1 < P.r + P.c
      · rw [if_pos c2] at e
        cases e
        exact ⟨c2, Nat.zero_le _, fun y => absurd y (Nat.not_lt_zero 0), h4, fun i hi => h5 i (by have : s.1 + 1 < i := hi; omega)⟩
      · rw [if_neg c2] at e; cases e
    · rw [if_neg c1] at e
      by_cases c2 : 49 ≤ ch ∧ ch ≤ 56 ∧ s.2.2.1 s.1 < 8
      · rw [if_pos c2] at e
        cases e
        exact ⟨h1, by show ch - 48 ≤ 8; omega, fun _ => c2.2.2, h4, h5⟩
      · rw [if_neg c2] at e; cases e
theorem psT_ok {P : Pz} {T : Nat → Nat} {n : Nat} (hP : P.ok) : ∀ (d : Nat) (s s1 : PS), PSok P s → psT P T n d s = .inr s1 → PSok P s1 := by
  intro d
  induction d with
  | zero => intro s s1 h e; cases e; exact h
  | succ d ih =>
    intro s s1 h e
    rw [psT] at e
    cases e2 : psS P (T (n - (d + 1))) s with
    | none => rw [e2] at e; cases e
    | some s2 => rw [e2] at e; exact ih s2 s1 (psS_ok hP h e2) e
theorem psR_ok {P : Pz} {T : Nat → Nat} {n : Nat} {s : PS} (hP : P.ok) (e : psR P T n = .inr s) : PSok P s := by
  unfold psR at e
  cases e2 : psT P T n n ps0 with
  | inl q => rw [e2] at e; cases e
  | inr s2 =>
    rw [e2] at e
    simp only at e
    split at e
    · cases e; exact psT_ok hP n _ _ (PSok.zero hP) e2
    · cases e
theorem psR_le {P : Pz} {T : Nat → Nat} {n q : Nat} (e : psR P T n = .inl q) : q ≤ n := by
  unfold psR at e
  have h : ∀ (d : Nat) (s : PS) (q : Nat), psT P T n d s = .inl q → q ≤ n := by
    intro d
    induction d with
    | zero => intro s q e; cases e
    | succ d ih =>
      intro s q e
      rw [psT] at e
      cases e2 : psS P (T (n - (d + 1))) s with
      | none => rw [e2] at e; cases e; omega
      | some s2 => rw [e2] at e; exact ih s2 q e
  cases e2 : psT P T n n ps0 with
  | inl q2 => rw [e2] at e; cases e; exact h _ _ _ e2
  | inr s2 =>
    rw [e2] at e
    simp only at e
    split at e
    · cases e
    · cases e; exact Nat.le_refl _
/-- the color of a letter -/
theorem let_c : ∀ ch, ch < 127 → ∀ k, k < 4 → ((nI 1 ≤ nI ch - nI 97 + nI 1 ∧ nI ch - nI 97 + nI 1 ≤ nI k) ↔ (97 ≤ ch ∧ ch ≤ 96 + k)) ∧ (97 ≤ ch → nI ch - nI 97 + nI 1 = nI (ch - 96)) := by decide +kernel
theorem dig_c : ∀ ch, ch < 127 → ((nI 1 ≤ nI ch - nI 48 ∧ nI ch - nI 48 ≤ nI 8) ↔ (49 ≤ ch ∧ ch ≤ 56)) ∧ (49 ≤ ch → nI ch - nI 48 = nI (ch - 48)) := by decide +kernel
theorem R16_le {P : Pz} (h : P.ok) : sm P.R 16 ≤ 128 := Nat.le_trans (sm_le (b := 8) (fun j _ => (h.cl j).1)) (by decide)
theorem psR_16 {P : Pz} {T : Nat → Nat} {n : Nat} {s : PS} (hP : P.ok) (e : psR P T n = .inr s) : sm s.2.2.1 16 ≤ 128 := Nat.le_trans (sm_le (b := 8) (fun j _ => ((psR_ok hP e).2.2.2.1.cl j).1)) (by decide)
theorem not_neg {a : Nat} (h : a < 2 ^ 31) : ¬ nI a < 0 := fun y => absurd (nI_pos' h) (Int32.not_le.mpr y)
theorem neg100 : ∀ q, q < 121 → (-100 : Int32) - nI q < 0 := by decide +kernel
theorem fmJ_n {P : Pz} {i : Nat} {s : (Nat → Nat) × Nat} : ∀ j, (fmJ P i s j).2 = s.2 + 2 * j
  | 0 => rfl
  | j + 1 => by show (fmJ P i s j).2 + 1 + 1 = _; rw [fmJ_n j]; omega
theorem fmL_n {P : Pz} {T : Nat → Nat} (hP : P.ok) : ∀ i, (fmL P T i).2 ≤ 17 * i ∧ (1 ≤ i → (fmL P T i).2 + 1 ≤ 17 * i)
  | 0 => ⟨Nat.le_refl _, fun h => absurd h (by decide)⟩
  | i + 1 => by
    obtain ⟨h1, h2⟩ := fmL_n hP (T := T) i
    have hR := (hP.cl i).1
    have e : (fmL P T (i + 1)).2 = (if 0 < i then psh (fmL P T i) 47 else fmL P T i).2 + 2 * P.R i := fmJ_n _
    have e2 : (if 0 < i then psh (fmL P T i) 47 else fmL P T i).2 + 1 ≤ 17 * i + 1 := by
      by_cases y : 0 < i
      · rw [if_pos y]; have := h2 y; show (fmL P T i).2 + 1 + 1 ≤ _; omega
      · rw [if_neg y]; omega
    rw [e]
    omega