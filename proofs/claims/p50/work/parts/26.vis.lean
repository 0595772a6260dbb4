/-! the search as a recursion, and the machine that does the same -/
abbrev Rs : Type := Nat × Nat × Bool × (Nat → Nat)
def stR (lim : Nat) (R : Rs) : Prop := R.2.2.1 = true ∨ lim ≤ R.2.1
section VIS
variable (P : Pz) (ρ lim : Nat)
noncomputable def chF (v : (Nat → Nat) → Rs → Rs) (g : Nat → Nat) (x : Nat) : Nat → Rs → Rs
  | 0, R => R
  | e + 1, R => if R.2.2.1 = true ∨ lim ≤ R.2.1 then R else if (g x).testBit (P.k + 1 - (e + 1)) = true then chF v g x e (v (upf g x (2 ^ (P.k + 1 - (e + 1)))) R) else chF v g x e R
noncomputable def vis : Nat → (Nat → Nat) → Rs → Rs
  | 0, _, R => (R.1, R.2.1, true, R.2.2.2)
  | d + 1, f, R => if R.1 = 60 then (R.1, R.2.1, true, R.2.2.2) else match spr P f with
    | .inl _ => (R.1 + 1, R.2)
    | .inr (g, _) => if sm (dc1 g) (P.r * P.c) = P.r * P.c then (R.1 + 1, R.2.1 + 1, R.2.2.1, g) else chF P lim (vis d) g (sel P ρ g) (P.k + 1) (R.1 + 1, R.2)
variable {P : Pz} {ρ lim : Nat}
theorem chF_stop {v : (Nat → Nat) → Rs → Rs} {g : Nat → Nat} {x : Nat} {R : Rs} (h : stR lim R) : ∀ e, chF P lim v g x e R = R := by
  intro e
  cases e with
  | zero => rfl
  | succ e => unfold chF; exact if_pos h
theorem chF_nodes {v : (Nat → Nat) → Rs → Rs} {g : Nat → Nat} {x : Nat} (hv : ∀ f R, R.1 ≤ 60 → R.1 ≤ (v f R).1 ∧ (v f R).1 ≤ 60) : ∀ (e : Nat) (R : Rs), R.1 ≤ 60 → R.1 ≤ (chF P lim v g x e R).1 ∧ (chF P lim v g x e R).1 ≤ 60 := by
  intro e
  induction e with
  | zero => intro R h; exact ⟨Nat.le_refl _, h⟩
  | succ e ih =>
    intro R h
    unfold chF
    split
    · exact ⟨Nat.le_refl _, h⟩
    · split
      · have h1 := hv (upf g x (2 ^ (P.k + 1 - (e + 1)))) R h
        have h2 := ih _ h1.2
        exact ⟨Nat.le_trans h1.1 h2.1, h2.2⟩
      · exact ih R h
theorem vis_nodes : ∀ (d : Nat) (f : Nat → Nat) (R : Rs), R.1 ≤ 60 → R.1 ≤ (vis P ρ lim d f R).1 ∧ (vis P ρ lim d f R).1 ≤ 60 := by
  intro d
  induction d with
  | zero => intro f R h; exact ⟨Nat.le_refl _, h⟩
  | succ d ih =>
    intro f R h
    unfold vis
    split
    · exact ⟨Nat.le_refl _, h⟩
    · rename_i hn
      split
      · exact ⟨Nat.le_succ _, by show R.1 + 1 ≤ 60; omega⟩
      · split
        · exact ⟨Nat.le_succ _, by show R.1 + 1 ≤ 60; omega⟩
        · have h2 := chF_nodes (P := P) (lim := lim) (v := vis P ρ lim d) (g := ‹Nat → Nat›) (x := sel P ρ ‹Nat → Nat›) ih (P.k + 1) (R.1 + 1, R.2) (by show R.1 + 1 ≤ 60; omega)
          exact ⟨by have := h2.1; show R.1 ≤ _; exact Nat.le_trans (Nat.le_succ _) this, h2.2⟩
theorem mch_stop {Q : Qs} (h : stR lim Q.2) : mch P ρ lim Q = Q := by
  unfold mch
  exact if_pos h
theorem mch_nil {R : Rs} : mch P ρ lim ([], R) = ([], R) := by
  unfold mch
  split <;> rfl
theorem mchN_fix {Q : Qs} (h : mch P ρ lim Q = Q) : ∀ n, mchN P ρ lim n Q = Q := by
  intro n
  induction n with
  | zero => rfl
  | succ n ih => rw [mchN, h, ih]
theorem mchN_add {m : Nat} : ∀ (n : Nat) (Q : Qs), mchN P ρ lim (n + m) Q = mchN P ρ lim m (mchN P ρ lim n Q) := by
  intro n
  induction n with
  | zero => intro Q; rw [Nat.zero_add]; rfl
  | succ n ih => intro Q; rw [Nat.succ_add, mchN, ih]; rfl
theorem mch_go {g : Nat → Nat} {x k : Nat} {t : List Fm} {R : Rs} (h : ¬ stR lim R) : mch P ρ lim ((g, x, k) :: t, R) = if nxC (g x) P.k k ≤ P.k then vst P ρ (upf g x (2 ^ nxC (g x) P.k k)) ((g, x, nxC (g x) P.k k + 1) :: t, R) else (t, R) := by
  unfold mch
  exact (if_neg h).trans rfl
def hA (P : Pz) (ρ lim d : Nat) : Prop := ∀ (f : Nat → Nat) (R : Rs) (t : List Fm), 60 ≤ d + R.1 → R.1 ≤ 60 → ∃ n t', mchN P ρ lim n (vst P ρ f (t, R)) = (t', vis P ρ lim d f R) ∧ (¬ stR lim (vis P ρ lim d f R) → t' = t)
def hB (P : Pz) (ρ lim d : Nat) : Prop := ∀ (e : Nat) (g : Nat → Nat) (x : Nat) (R : Rs) (t : List Fm), e ≤ P.k + 1 → 60 ≤ d + R.1 → R.1 ≤ 60 → ∃ n t', mchN P ρ lim n ((g, x, P.k + 1 - e) :: t, R) = (t', chF P lim (vis P ρ lim d) g x e R) ∧ (¬ stR lim (chF P lim (vis P ρ lim d) g x e R) → t' = t)
theorem hB_of {d : Nat} (hA : hA P ρ lim d) : hB P ρ lim d := by
  intro e
  induction e with
  | zero =>
    intro g x R t _ _ _
    by_cases hs : stR lim R
    · exact ⟨0, _, rfl, fun h => absurd hs h⟩
    · refine ⟨1, t, ?_, fun _ => rfl⟩
      show mch P ρ lim ((g, x, P.k + 1 - 0) :: t, R) = _
      rw [mch_go hs, Nat.sub_zero, nxC_end, if_neg (Nat.not_succ_le_self _)]
      rfl
  | succ e ih =>
    intro g x R t he hd hR
    by_cases hs : stR lim R
    · refine ⟨0, (g, x, P.k + 1 - (e + 1)) :: t, ?_, fun h => absurd (show stR lim (chF P lim (vis P ρ lim d) g x (e + 1) R) by rw [chF_stop hs]; exact hs) h⟩
      rw [chF_stop hs]; rfl
    · have hk : P.k + 1 - (e + 1) ≤ P.k := by omega
      have hk1 : P.k + 1 - (e + 1) + 1 = P.k + 1 - e := by omega
      have hc : chF P lim (vis P ρ lim d) g x (e + 1) R = if (g x).testBit (P.k + 1 - (e + 1)) = true then chF P lim (vis P ρ lim d) g x e (vis P ρ lim d (upf g x (2 ^ (P.k + 1 - (e + 1)))) R) else chF P lim (vis P ρ lim d) g x e R := by
        rw [chF]
        exact if_neg hs
      by_cases hb : (g x).testBit (P.k + 1 - (e + 1)) = true
      · rw [hc, if_pos hb]
        obtain ⟨n1, t1, e1, s1⟩ := hA (upf g x (2 ^ (P.k + 1 - (e + 1)))) R ((g, x, P.k + 1 - e) :: t) hd hR
        have hnod := vis_nodes (P := P) (ρ := ρ) (lim := lim) d (upf g x (2 ^ (P.k + 1 - (e + 1)))) R hR
        have hm : mch P ρ lim ((g, x, P.k + 1 - (e + 1)) :: t, R) = vst P ρ (upf g x (2 ^ (P.k + 1 - (e + 1)))) ((g, x, P.k + 1 - e) :: t, R) := by
          rw [mch_go hs, nxC_hit hk hb, if_pos hk, hk1]
        by_cases hs1 : stR lim (vis P ρ lim d (upf g x (2 ^ (P.k + 1 - (e + 1)))) R)
        · rw [chF_stop hs1]
          exact ⟨n1 + 1, t1, by rw [mchN, hm]; exact e1, fun h => absurd hs1 h⟩
        · have z := s1 hs1
          subst z
          obtain ⟨n2, t2, e2, s2⟩ := ih g x (vis P ρ lim d (upf g x (2 ^ (P.k + 1 - (e + 1)))) R) t (by omega) (by omega) hnod.2
          exact ⟨n1 + n2 + 1, t2, by rw [mchN, hm, mchN_add, e1, e2], s2⟩
      · rw [hc, if_neg hb]
        obtain ⟨n, t', e1, s1⟩ := ih g x R t (by omega) hd hR
        have hb' : (g x).testBit (P.k + 1 - (e + 1)) = false := by simpa using hb
        have hm : mch P ρ lim ((g, x, P.k + 1 - (e + 1)) :: t, R) = mch P ρ lim ((g, x, P.k + 1 - e) :: t, R) := by
          have hn := nxC_step hk hb'
          rw [hk1] at hn
          rw [mch_go hs, mch_go hs, hn]
        cases n with
        | zero =>
          have e3 : ((g, x, P.k + 1 - e) :: t, R) = (t', chF P lim (vis P ρ lim d) g x e R) := e1
          have e4 := congrArg Prod.snd e3
          have e5 := congrArg (fun q => q.1.length) e3
          simp only at e4 e5
          rw [← e4] at s1
          have := s1 hs
          rw [this, List.length_cons] at e5
          omega
        | succ n => exact ⟨n + 1, t', by rw [mchN, hm]; exact e1, s1⟩
theorem hA_0 : hA P ρ lim 0 := by
  intro f R t hd hR
  refine ⟨0, t, ?_, fun _ => rfl⟩
  show vst P ρ f (t, R) = _
  unfold vst vis
  rw [if_pos (show (t, R).2.1 = 60 by show R.1 = 60; omega)]
theorem hA_s {d : Nat} (hB : hB P ρ lim d) : hA P ρ lim (d + 1) := by
  intro f R t hd hR
  by_cases hn : R.1 = 60
  · refine ⟨0, t, ?_, fun _ => rfl⟩
    show vst P ρ f (t, R) = _
    unfold vst vis
    rw [if_pos hn, if_pos hn]
  · cases hs : spr P f with
    | inl j =>
      refine ⟨0, t, ?_, fun _ => rfl⟩
      show vst P ρ f (t, R) = _
      unfold vst vis
      rw [if_neg hn, if_neg hn, hs]
    | inr q =>
      obtain ⟨g, m⟩ := q
      by_cases ha : sm (dc1 g) (P.r * P.c) = P.r * P.c
      · refine ⟨0, t, ?_, fun _ => rfl⟩
        show vst P ρ f (t, R) = _
        unfold vst vis
        rw [if_neg hn, if_neg hn, hs]
        simp only [if_pos ha]
      · have e1 : vst P ρ f (t, R) = ((g, sel P ρ g, 0) :: t, (R.1 + 1, R.2)) := by
          unfold vst
          rw [if_neg hn, hs]
          simp only [if_neg ha]
        have e2 : vis P ρ lim (d + 1) f R = chF P lim (vis P ρ lim d) g (sel P ρ g) (P.k + 1) (R.1 + 1, R.2) := by
          rw [vis, if_neg hn, hs]
          simp only [if_neg ha]
        rw [e1, e2]
        have := hB (P.k + 1) g (sel P ρ g) (R.1 + 1, R.2) t (Nat.le_refl _) (by show 60 ≤ d + (R.1 + 1); omega) (by show R.1 + 1 ≤ 60; omega)
        rw [Nat.sub_self] at this
        exact this
theorem hA_all : ∀ d, hA P ρ lim d := by
  intro d
  induction d with
  | zero => exact hA_0
  | succ d ih => exact hA_s (hB_of ih)
def pot (Q : Qs) : Nat := 2 * (60 - Q.2.1) + Q.1.length + 1
def hlt (P : Pz) (ρ lim : Nat) (Q : Qs) : Prop := mch P ρ lim Q = Q
theorem vst_st {f : Nat → Nat} {Q : Qs} (h : Q.2.1 ≤ 60) : (vst P ρ f Q).2.1 ≤ 60 := by
  unfold vst
  split
  · exact h
  · rename_i hn
    split
    · show Q.2.1 + 1 ≤ 60; omega
    · split <;> (show Q.2.1 + 1 ≤ 60; omega)
theorem mch_pot {Q : Qs} (h : Q.2.1 ≤ 60) : hlt P ρ lim Q ∨ hlt P ρ lim (mch P ρ lim Q) ∨ (pot (mch P ρ lim Q) + 1 ≤ pot Q ∧ (mch P ρ lim Q).2.1 ≤ 60) := by
  by_cases hs : stR lim Q.2
  · exact Or.inl (mch_stop hs)
  · right
    obtain ⟨stk, R⟩ := Q
    cases stk with
    | nil => left; rw [mch_nil]; exact mch_nil
    | cons a t =>
      obtain ⟨g, x, k⟩ := a
      rw [mch_go hs]
      by_cases hk : nxC (g x) P.k k ≤ P.k
      · rw [if_pos hk]
        by_cases hn : R.1 = 60
        · left
          refine mch_stop ?_
          unfold vst
          rw [if_pos (show (((g, x, nxC (g x) P.k k + 1) :: t, R) : Qs).2.1 = 60 from hn)]
          exact Or.inl rfl
        · right
          refine ⟨?_, vst_st h⟩
          have h' : R.1 ≤ 60 := h
          unfold vst
          rw [if_neg (show ¬ (((g, x, nxC (g x) P.k k + 1) :: t, R) : Qs).2.1 = 60 from hn)]
          split
          · unfold pot; simp only [List.length_cons]; omega
          · split
            · unfold pot; simp only [List.length_cons]; omega
            · unfold pot; simp only [List.length_cons]; omega
      · rw [if_neg hk]
        right
        exact ⟨by unfold pot; simp only [List.length_cons]; omega, h⟩
theorem mchN_pot : ∀ (n : Nat) (Q : Qs), Q.2.1 ≤ 60 → pot Q ≤ n → hlt P ρ lim (mchN P ρ lim n Q) := by
  intro n
  induction n with
  | zero => intro Q _ h; unfold pot at h; omega
  | succ n ih =>
    intro Q h hp
    rw [mchN]
    rcases mch_pot (P := P) (ρ := ρ) (lim := lim) h with a | a | a
    · have a' : mch P ρ lim Q = Q := a
      rw [a', mchN_fix a]
      exact a
    · rw [mchN_fix a]
      exact a
    · exact ih _ a.2 (by omega)
/-- the machine's end is the recursion's -/
theorem mch_vis {f : Nat → Nat} {R : Rs} (h0 : R.1 = 0) : (mchN P ρ lim 121 (vst P ρ f ([], R))).2 = vis P ρ lim 60 f R := by
  obtain ⟨n, t', e1, s1⟩ := hA_all (P := P) (ρ := ρ) (lim := lim) 60 f R [] (by omega) (by omega)
  have hp : pot (vst P ρ f ([], R)) ≤ 121 := by
    unfold vst
    rw [if_neg (show ¬ (([], R) : Qs).2.1 = 60 by show ¬ R.1 = 60; omega)]
    split
    · unfold pot; simp; omega
    · split
      · unfold pot; simp; omega
      · unfold pot; simp; omega
  have h1 : hlt P ρ lim (mchN P ρ lim 121 (vst P ρ f ([], R))) := mchN_pot 121 _ (vst_st (by show R.1 ≤ 60; omega)) hp
  have h2 : hlt P ρ lim (mchN P ρ lim n (vst P ρ f ([], R))) := by
    rw [e1]
    by_cases hs : stR lim (vis P ρ lim 60 f R)
    · exact mch_stop hs
    · rw [s1 hs]; exact mch_nil
  have h3 : mchN P ρ lim (121 + n) (vst P ρ f ([], R)) = mchN P ρ lim 121 (vst P ρ f ([], R)) := by rw [mchN_add, mchN_fix h1]
  have h4 : mchN P ρ lim (n + 121) (vst P ρ f ([], R)) = mchN P ρ lim n (vst P ρ f ([], R)) := by rw [mchN_add, mchN_fix h2]
  rw [← h3, Nat.add_comm, h4, e1]
end VIS
