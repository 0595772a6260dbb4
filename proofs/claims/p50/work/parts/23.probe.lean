/-! probing -/
def upf (f : Nat → Nat) (x v : Nat) : Nat → Nat := fun z => if z = x then v else f z
theorem upf_s {f : Nat → Nat} {x v : Nat} : upf f x v x = v := if_pos rfl
theorem upf_n {f : Nat → Nat} {x v z : Nat} (h : z ≠ x) : upf f x v z = f z := if_neg h
def thr (P : Pz) (x : Nat) : Nat := 2 ^ (x / P.c) ||| 2 ^ (P.r + x % P.c)
theorem thr_lt {P : Pz} {x : Nat} (hP : P.ok) (hx : x < P.r * P.c) : thr P x < 2 ^ 16 := by
  have h1 : x / P.c < P.r := Nat.div_lt_of_lt_mul (by rw [Nat.mul_comm]; exact hx)
  have h2 : x % P.c < P.c := Nat.mod_lt _ hP.c1
  have := hP.r8
  have := hP.c8
  exact Nat.or_lt_two_pow (Nat.pow_lt_pow_right (by decide) (by omega)) (Nat.pow_lt_pow_right (by decide) (by omega))
theorem GF.upf {P : Pz} {f : Nat → Nat} {x v : Nat} (hf : GF P f) (h1 : 1 ≤ v) (h2 : v < 16) : GF P (upf f x v) := fun z hz => by
  by_cases e : z = x
  · rw [e, upf_s]; exact ⟨h1, h2⟩
  · rw [upf_n e]; exact hf z hz
theorem STB.upf {P : Pz} {f : Nat → Nat} {x v : Nat} (hP : P.ok) (hx : x < P.r * P.c) (h : ∀ i, i < P.r + P.c → stbl P f i) : STB P (upf f x v) (thr P x) := by
  refine ⟨thr_lt hP hx, fun i hi hb => (h i hi).congr hP (fun p hp => upf_n (fun e => ?_))⟩
  unfold thr at hb
  rw [Nat.testBit_or, Bool.or_eq_false_iff] at hb
  unfold lnLen at hp
  unfold lnCell at e
  by_cases h1 : i < P.r
  · rw [if_pos h1] at hp e
    have a1 := (div_eq hp e.symm).1
    rw [a1] at hb
    have := tb_pow.mpr (rfl : i = i)
    rw [hb.1] at this
    exact absurd this (by decide)
  · rw [if_neg h1] at hp e
    have a1 := (div_eq (show i - P.r < P.c by omega) e.symm).2
    have := tb_pow.mpr (show i = P.r + x % P.c by omega)
    rw [hb.2] at this
    exact absurd this (by decide)
theorem STB.all {P : Pz} {f : Nat → Nat} (hP : P.ok) : STB P f (2 ^ (P.r + P.c) - 1) := by
  have := hP.r8
  have := hP.c8
  have h1 : (2 : Nat) ^ (P.r + P.c) ≤ 2 ^ 16 := Nat.pow_le_pow_right (by decide) (by omega)
  have h2 : 0 < (2 : Nat) ^ (P.r + P.c) := Nat.two_pow_pos _
  refine ⟨by omega, fun i hi hb => ?_⟩
  rw [Nat.testBit_two_pow_sub_one] at hb
  simp [hi] at hb
theorem clr_ok : ∀ m, m < 16 → ∀ j, j < 4 → m.testBit j = true → clr m j < 16 ∧ pc4 (clr m j) + 1 = pc4 m := by decide +kernel
theorem clr_1 {m j : Nat} (h : m < 16) (hj : m.testBit j = true) (hp : pc4 m ≠ 1) : 1 ≤ clr m j := by
  have h4 := tb_lt4 h hj
  have h1 := (clr_ok m h j h4 hj).2
  rcases Nat.eq_zero_or_pos (clr m j) with e | e
  · rw [e] at h1
    exact absurd h1.symm hp
  · exact e
theorem WT_upf {P : Pz} {f : Nat → Nat} {x v : Nat} (hx : x < P.r * P.c) : WT P (upf f x v) + pc4 (f x) = WT P f + pc4 v := by
  have h := sm_upd (g := fun x => pc4 (f x)) (x := x) (v := pc4 v) (P.r * P.c) hx
  unfold WT
  rw [sm_c (f := fun z => pc4 (upf f x v z)) (g := fun z => if z = x then pc4 v else pc4 (f z)) (fun j _ => by
    show pc4 (if j = x then v else f j) = _
    split <;> rfl)]
  exact h
section PRB
variable (P : Pz)
def fls (f : Nat → Nat) (x k : Nat) : Prop := (f x).testBit k = true ∧ pc4 (f x) ≠ 1 ∧ ∃ j, spr P (upf f x (2 ^ k)) = .inl j
noncomputable def prS (f : Nat → Nat) (n x k : Nat) : (Nat × Nat) ⊕ ((Nat → Nat) × Nat) :=
  cif (fls P f x k) (match spr P (upf f x (clr (f x) k)) with | .inl i => .inl (i, n + 1) | .inr (g, _) => .inr (g, n + 1)) (.inr (f, n))
noncomputable def prK (x : Nat) : Nat → (Nat → Nat) → Nat → (Nat × Nat) ⊕ ((Nat → Nat) × Nat)
  | 0, f, n => .inr (f, n)
  | d + 1, f, n => match prS P f n x (P.k + 1 - (d + 1)) with | .inl e => .inl e | .inr (g, m) => prK x d g m
noncomputable def prX : Nat → (Nat → Nat) → Nat → (Nat × Nat) ⊕ ((Nat → Nat) × Nat)
  | 0, f, n => .inr (f, n)
  | d + 1, f, n => match prK P (P.r * P.c - (d + 1)) (P.k + 1) f n with | .inl e => .inl e | .inr (g, m) => prX d g m
end PRB
/-- what one step of a round keeps -/
def RK (P : Pz) (f : Nat → Nat) (n : Nat) (g : Nat → Nat) (m : Nat) : Prop := GF P g ∧ (∀ i, i < P.r + P.c → stbl P g i) ∧ n ≤ m ∧ m + WT P g ≤ n + WT P f ∧ (m = n → g = f)
theorem RK.refl {P : Pz} {f : Nat → Nat} {n : Nat} (hf : GF P f) (hs : ∀ i, i < P.r + P.c → stbl P f i) : RK P f n f n := ⟨hf, hs, Nat.le_refl _, Nat.le_refl _, fun _ => rfl⟩
theorem RK.trans {P : Pz} {f g h : Nat → Nat} {n m o : Nat} (a : RK P f n g m) (b : RK P g m h o) : RK P f n h o := ⟨b.1, b.2.1, Nat.le_trans a.2.2.1 b.2.2.1, by have := a.2.2.2.1; have := b.2.2.2.1; omega, fun e => by
  have h1 := a.2.2.1
  have h2 := b.2.2.1
  rw [b.2.2.2.2 (by omega), a.2.2.2.2 (by omega)]⟩
theorem fls.one {P : Pz} {f h : Nat → Nat} {n z x k : Nat} (hP : P.ok) (hf : GF P f) (hx : x < P.r * P.c) (hl : fls P f x k) (hs : spr P (upf f x (clr (f x) k)) = .inr (h, z)) : RK P f n h (n + 1) := by
  have h16 := (hf x hx).2
  have h4 := tb_lt4 h16 hl.1
  have hc := clr_ok _ h16 k h4 hl.1
  have hg := hf.upf (x := x) (clr_1 h16 hl.1 hl.2.1) hc.1
  obtain ⟨s1, s2, s3, -⟩ := spr_ok hP _ _ h z rfl hg hs
  have hW := WT_upf (f := f) (v := clr (f x) k) hx
  exact ⟨s1, s3, by omega, by omega, fun e => absurd e (by omega)⟩
theorem prS_ok {P : Pz} {f g : Nat → Nat} {n m x k : Nat} (hP : P.ok) (hx : x < P.r * P.c) (hf : GF P f) (hs : ∀ i, i < P.r + P.c → stbl P f i) (h : prS P f n x k = .inr (g, m)) : RK P f n g m := by
  unfold prS at h
  by_cases hl : fls P f x k
  · rw [cif_t hl] at h
    cases hq : spr P (upf f x (clr (f x) k)) with
    | inl i => rw [hq] at h; cases h
    | inr z =>
      rw [hq] at h
      obtain ⟨z1, z2⟩ := z
      cases h
      exact hl.one hP hf hx hq
  · rw [cif_f hl] at h
    cases h
    exact RK.refl hf hs
theorem prK_ok {P : Pz} {x : Nat} (hP : P.ok) (hx : x < P.r * P.c) : ∀ (d : Nat) (f : Nat → Nat) (n : Nat) (g : Nat → Nat) (m : Nat), GF P f → (∀ i, i < P.r + P.c → stbl P f i) → prK P x d f n = .inr (g, m) → RK P f n g m := by
  intro d
  induction d with
  | zero => intro f n g m hf hs h; cases h; exact RK.refl hf hs
  | succ d ih =>
    intro f n g m hf hs h
    rw [prK] at h
    cases hq : prS P f n x (P.k + 1 - (d + 1)) with
    | inl i => rw [hq] at h; cases h
    | inr z =>
      rw [hq] at h
      obtain ⟨z1, z2⟩ := z
      have a := prS_ok hP hx hf hs hq
      exact a.trans (ih _ _ _ _ a.1 a.2.1 h)
theorem prX_ok {P : Pz} (hP : P.ok) : ∀ (d : Nat) (f : Nat → Nat) (n : Nat) (g : Nat → Nat) (m : Nat), d ≤ P.r * P.c → GF P f → (∀ i, i < P.r + P.c → stbl P f i) → prX P d f n = .inr (g, m) → RK P f n g m := by
  intro d
  induction d with
  | zero => intro f n g m _ hf hs h; cases h; exact RK.refl hf hs
  | succ d ih =>
    intro f n g m hd hf hs h
    rw [prX] at h
    cases hq : prK P (P.r * P.c - (d + 1)) (P.k + 1) f n with
    | inl i => rw [hq] at h; cases h
    | inr z =>
      rw [hq] at h
      obtain ⟨z1, z2⟩ := z
      have a := prK_ok hP (by omega) _ _ _ _ _ hf hs hq
      exact a.trans (ih _ _ _ _ (by omega) a.1 a.2.1 h)
theorem prK_at {P : Pz} {f : Nat → Nat} {n x j : Nat} (hj : j < P.k + 1) : prK P x (P.k + 1 - j) f n = match prS P f n x j with | .inl e => .inl e | .inr (g, m) => prK P x (P.k + 1 - (j + 1)) g m := by
  obtain ⟨d, hd⟩ : ∃ d, P.k + 1 - j = d + 1 := ⟨P.k - j, by omega⟩
  have e : P.k + 1 - (d + 1) = j := by omega
  rw [hd, show P.k + 1 - (j + 1) = d by omega, prK, e]
theorem prK_skip {P : Pz} {f : Nat → Nat} {n x j : Nat} (hj : j < P.k + 1) (h : ¬ fls P f x j) : prK P x (P.k + 1 - j) f n = prK P x (P.k + 1 - (j + 1)) f n := by
  rw [prK_at hj, prS, cif_f h]
theorem prK_bad {P : Pz} {f : Nat → Nat} {n x j i : Nat} (hj : j < P.k + 1) (h : fls P f x j) (hs : spr P (upf f x (clr (f x) j)) = .inl i) : prK P x (P.k + 1 - j) f n = .inl (i, n + 1) := by
  rw [prK_at hj, prS, cif_t h, hs]
theorem prK_go {P : Pz} {f g : Nat → Nat} {n x j z : Nat} (hj : j < P.k + 1) (h : fls P f x j) (hs : spr P (upf f x (clr (f x) j)) = .inr (g, z)) : prK P x (P.k + 1 - j) f n = prK P x (P.k + 1 - (j + 1)) g (n + 1) := by
  rw [prK_at hj, prS, cif_t h, hs]
theorem prX_at {P : Pz} {f : Nat → Nat} {n x : Nat} (hx : x < P.r * P.c) : prX P (P.r * P.c - x) f n = match prK P x (P.k + 1) f n with | .inl e => .inl e | .inr (g, m) => prX P (P.r * P.c - (x + 1)) g m := by
  obtain ⟨d, hd⟩ : ∃ d, P.r * P.c - x = d + 1 := ⟨P.r * P.c - (x + 1), by omega⟩
  have e : P.r * P.c - (d + 1) = x := by omega
  rw [hd, show P.r * P.c - (x + 1) = d by omega, prX, e]
/-- Prober at q -/
def isQ (lay : Lay) (q : Nat) : Prop := lay[q]? = some (.inl (4, [some (some (q + 1)), some (some (q + 7)), none, none])) ∧ isG lay (q + 1) ∧ isP lay (q + 7)
theorem CLU.cp {M M1 : Mem} {c c2 : Nat} {P : Pz} (h : CLU M c P) (h1 : ∀ j, j < 16 → M1 (c2 + 1) j = M (c + 1) j) (h2 : ∀ j, j < 128 → M1 (c2 + 2) j = M (c + 2) j) (h3 : ∀ j, j < 128 → M1 (c2 + 3) j = M (c + 3) j) : CLU M1 c2 P := fun i hi => by
  obtain ⟨a1, a2, a3⟩ := h i hi
  refine ⟨by rw [h1 i hi]; exact a1, a2, fun j hj => ?_⟩
  rw [h2 _ (by omega), h3 _ (by omega)]
  exact a3 j hj
theorem CE.fr {M M1 : Mem} {a n : Nat} {f : Nat → Nat} (h : CE M a n f) (e : M1 a = M a) : CE M1 a n f := fun x hx => by rw [e]; exact h x hx
theorem CE.up {M : Mem} {a n x v : Nat} {f : Nat → Nat} (h : CE M a n f) (h1 : 1 ≤ v) (h2 : v < 16) : CE (up M a x (nI v)) a n (upf f x v) := fun z hz => by
  by_cases e : z = x
  · subst e; rw [up_s, upf_s]; exact ⟨rfl, h1, h2⟩
  · rw [up_eq, if_neg (fun y => e y.2), upf_n e]; exact h z hz
set_option maxHeartbeats 4000000 in
set_option maxRecDepth 100000 in
theorem k_X4_settle {l : Launch} {G : Gd} {b0 : Nat} {lay : Lay} {M : Mem} {q g U : Nat} {P : Pz} {f : Nat → Nat} (hq : isQ lay q) (hg : isG lay g) (hP : P.ok) (hr : M g 0 = nI P.r) (hcl : M g 1 = nI P.c) (hqg : q + 17 ≤ g ∨ g + 6 ≤ q) (hcu : CLU M (g + 1) P) (hce : CE M (g + 5) (P.r * P.c) f) (hst : STB P f U)  : Ct l G b0 yX4_settle cX4_settle 4 (some .boolean) (rmZ 5 121) lay lay M [.ref (b0 + q), .ref (b0 + g), .int (nI U)] (fun v M' => (∀ a, (a < q + 7 ∨ q + 17 ≤ a) → a ≠ g + 5 → a ≠ q → M' a = M a) ∧ M' q 2 = M q 2 ∧ ((∀ j, spr P f = .inl j → v = nI 0 ∧ M' q 3 = nI j) ∧ ∀ h n, spr P f = .inr (h, n) → v = nI 1 ∧ CE M' (g + 5) (P.r * P.c) h)) := by
  have hr8 := hP.r8
  have hc8 := hP.c8
  have hr1 := hP.r1
  have hc1 := hP.c1
  have hk1 := hP.k1
  have hk3 := hP.k3
  have h64 := rc64 hr8 hc8
  obtain ⟨hQ0, hQg, hQp⟩ := id hq
  have hQp0 := hQp.1
  have hQg0 := hQg.1
  have hQg5 := hQg.2.2
  obtain ⟨hg0, ⟨hq0, hq1, hq2, hq3⟩, hg5⟩ := id hg
  refine Ct.of [some (.ref (b0 + q)), some (.ref (b0 + g)), some (.int (nI U)), none] (by decide) (Nat.le_of_ble_eq_true rfl) rfl rfl ?_
  refine S_aload_0 (q := 1) dX4_settle_0 rfl ?_
  refine S_getR (q := 4) dX4_settle_1 fl_X4_19 (by first | assumption | rfl) (by rfl) rfl ?_
  refine S_aload_1 (q := 5) dX4_settle_4 rfl ?_
  refine S_iload_2 (q := 6) dX4_settle_5 rfl ?_
  refine S_callV2i (q := 9) dX4_settle_6 lk_X4_68 (by first | assumption | rfl) rfl rfl (k_X5_settle hQp hg hP hr hcl (by omega) hcu hce hst) rfl rfl (Nat.le_of_ble_eq_true rfl) ⟨Nat.le_of_ble_eq_true rfl, Nat.le_of_ble_eq_true rfl⟩ ⟨Nat.le_of_ble_eq_true rfl, Nat.le_of_ble_eq_true rfl⟩ rfl (fun v6 M6 hv6 => ?_)
  obtain ⟨h6a, h6b⟩ := hv6
  have hb6 : narrow .boolean (.int v6) = .int v6 := by
    cases hs : spr P f with
    | inl j => rw [(h6b.1 j hs).1]; rfl
    | inr z => obtain ⟨z1, z2⟩ := z; rw [(h6b.2 z1 z2 hs).1]; rfl
  refine S_istore_3 (q := 10) dX4_settle_9 rfl ?_
  refine S_aload_0 (q := 11) dX4_settle_10 rfl ?_
  refine S_aload_0 (q := 12) dX4_settle_11 rfl ?_
  refine S_getR (q := 15) dX4_settle_12 fl_X4_19 (by first | assumption | rfl) (by rfl) rfl ?_
  refine S_getI (q := 18) dX4_settle_15 fl_X4_69 (by first | assumption | rfl) (by rfl) rfl ?_
  refine S_putI (q := 21) dX4_settle_18 fp_X4_27 (by first | assumption | rfl) (by rfl) rfl (by rfl) rfl ?_
  refine S_iload_3 (q := 22) dX4_settle_21 rfl ?_
  exact S_iret rfl dX4_settle_22 hb6 rfl ⟨fun a h1 h2 h3 => by rw [up_n h3]; exact h6a a h1 h2, by rw [up_eq, if_neg (by omega), h6a q (by omega) (by omega)], ⟨fun j hj => ⟨(h6b.1 j hj).1, by rw [up_s]; exact (h6b.1 j hj).2⟩, fun h n hh => ⟨(h6b.2 h n hh).1, fun x hx => by rw [up_n (by omega)]; exact (h6b.2 h n hh).2.1 x hx⟩⟩⟩
set_option maxHeartbeats 4000000 in
set_option maxRecDepth 100000 in
theorem k_X4_begin {l : Launch} {G : Gd} {b0 : Nat} {lay : Lay} {M : Mem} {q g : Nat} {P : Pz} {f : Nat → Nat} (hq : isQ lay q) (hg : isG lay g) (hP : P.ok) (hr : M g 0 = nI P.r) (hcl : M g 1 = nI P.c) (hqg : q + 17 ≤ g ∨ g + 6 ≤ q) (hcu : CLU M (g + 1) P) (hce : CE M (g + 5) (P.r * P.c) f)  : Ct l G b0 yX4_begin cX4_begin 2 (some .boolean) (rmZ 6 144) lay lay M [.ref (b0 + q), .ref (b0 + g)] (fun v M' => (∀ a, (a < q + 7 ∨ q + 17 ≤ a) → a ≠ g + 5 → a ≠ q → M' a = M a) ∧ M' q 2 = nI 0 ∧ ((∀ j, spr P f = .inl j → v = nI 0 ∧ M' q 3 = nI j) ∧ ∀ h n, spr P f = .inr (h, n) → v = nI 1 ∧ CE M' (g + 5) (P.r * P.c) h)) := by
  have hr8 := hP.r8
  have hc8 := hP.c8
  have hr1 := hP.r1
  have hc1 := hP.c1
  have hk1 := hP.k1
  have hk3 := hP.k3
  have h64 := rc64 hr8 hc8
  obtain ⟨hQ0, hQg, hQp⟩ := id hq
  have hQp0 := hQp.1
  have hQg0 := hQg.1
  have hQg5 := hQg.2.2
  obtain ⟨hg0, ⟨hq0, hq1, hq2, hq3⟩, hg5⟩ := id hg
  refine Ct.of [some (.ref (b0 + q)), some (.ref (b0 + g))] (by decide) (Nat.le_of_ble_eq_true rfl) rfl rfl ?_
  refine S_aload_0 (q := 1) dX4_begin_0 rfl ?_
  refine S_iconst (q := 2) (nI 0) dX4_begin_1 (by decide) rfl ?_
  refine S_putI (q := 5) dX4_begin_2 fp_X4_23 (by first | assumption | rfl) (by rfl) rfl (by rfl) rfl ?_
  refine S_aload_0 (q := 6) dX4_begin_5 rfl ?_
  refine S_aload_1 (q := 7) dX4_begin_6 rfl ?_
  refine S_aload_1 (q := 8) dX4_begin_7 rfl ?_
  refine S_callV0i (q := 11) dX4_begin_8 lk_X4_30 (by first | assumption | rfl) rfl rfl (k_X1_allLines hg (r := P.r) (c := P.c) (by rw [up_n (by omega)]; exact hr) (by rw [up_n (by omega)]; exact hcl) hr8 hc8) rfl rfl (Nat.le_of_ble_eq_true rfl) ⟨Nat.le_of_ble_eq_true rfl, Nat.le_of_ble_eq_true rfl⟩ ⟨Nat.le_of_ble_eq_true rfl, Nat.le_of_ble_eq_true rfl⟩ rfl (fun v8 M8 hv8 => ?_)
  obtain ⟨rfl, rfl⟩ := hv8
  refine S_callV2i (q := 14) dX4_begin_11 lk_X4_34 (by first | assumption | rfl) rfl rfl (k_X4_settle hq hg hP (by rw [up_n (by omega)]; exact hr) (by rw [up_n (by omega)]; exact hcl) hqg (hcu.fr (up_n (by omega)) (up_n (by omega)) (up_n (by omega))) (hce.fr (up_n (by omega))) (STB.all hP)) rfl rfl (Nat.le_of_ble_eq_true rfl) ⟨Nat.le_of_ble_eq_true rfl, Nat.le_of_ble_eq_true rfl⟩ ⟨Nat.le_of_ble_eq_true rfl, Nat.le_of_ble_eq_true rfl⟩ rfl (fun v11 M11 hv11 => ?_)
  obtain ⟨h6a, h6c, h6b⟩ := hv11
  have hb6 : narrow .boolean (.int v11) = .int v11 := by
    cases hs : spr P f with
    | inl j => rw [(h6b.1 j hs).1]; rfl
    | inr z => obtain ⟨z1, z2⟩ := z; rw [(h6b.2 z1 z2 hs).1]; rfl
  exact S_iret rfl dX4_begin_14 hb6 rfl ⟨fun a h1 h2 h3 => by rw [h6a a h1 h2 h3, up_n h3], by rw [h6c, up_s], h6b⟩
set_option maxHeartbeats 4000000 in
set_option maxRecDepth 100000 in
theorem k_X4_failsWith {l : Launch} {G : Gd} {b0 : Nat} {lay : Lay} {M : Mem} {q g x k : Nat} {P : Pz} {f : Nat → Nat} (hq : isQ lay q) (hg : isG lay g) (hP : P.ok) (hr : M g 0 = nI P.r) (hcl : M g 1 = nI P.c) (hqg : q + 17 ≤ g ∨ g + 6 ≤ q) (hcu : CLU M (g + 1) P) (hce : CE M (g + 5) (P.r * P.c) f) (hx : x < P.r * P.c) (hk : k < 4) (hst : ∀ i, i < P.r + P.c → stbl P f i)  : Ct l G b0 yX4_failsWith cX4_failsWith 4 (some .boolean) (rmZ 5 121) lay lay M [.ref (b0 + q), .ref (b0 + g), .int (nI x), .int (nI k)] (fun v M' => (∀ a, (a < q + 1 ∨ q + 17 ≤ a) → M' a = M a) ∧ (∀ j, spr P (upf f x (2 ^ k)) = .inl j → v = nI 1) ∧ ∀ z, spr P (upf f x (2 ^ k)) = .inr z → v = nI 0) := by
  have hr8 := hP.r8
  have hc8 := hP.c8
  have hr1 := hP.r1
  have hc1 := hP.c1
  have hk1 := hP.k1
  have hk3 := hP.k3
  have h64 := rc64 hr8 hc8
  obtain ⟨hQ0, hQg, hQp⟩ := id hq
  have hQp0 := hQp.1
  have hQg0 := hQg.1
  have hQg5 := hQg.2.2
  obtain ⟨hg0, ⟨hq0, hq1, hq2, hq3⟩, hg5⟩ := id hg
  have hk16 : 2 ^ k < 16 := Nat.pow_lt_pow_right (by decide) hk
  have hk1' : 1 ≤ 2 ^ k := Nat.two_pow_pos k
  refine Ct.of [some (.ref (b0 + q)), some (.ref (b0 + g)), some (.int (nI x)), some (.int (nI k))] (by decide) (Nat.le_of_ble_eq_true rfl) rfl rfl ?_
  refine S_aload_0 (q := 1) dX4_failsWith_0 rfl ?_
  refine S_getR (q := 4) dX4_failsWith_1 fl_X4_10 (by first | assumption | rfl) (by rfl) rfl ?_
  refine S_aload_1 (q := 5) dX4_failsWith_4 rfl ?_
  refine S_callV1v (q := 8) dX4_failsWith_5 lk_X4_64 (by first | assumption | rfl) rfl rfl (k_X1_copyFrom hQg hg (by omega)) rfl rfl (Nat.le_of_ble_eq_true rfl) ⟨Nat.le_of_ble_eq_true rfl, Nat.le_of_ble_eq_true rfl⟩ ⟨Nat.le_of_ble_eq_true rfl, Nat.le_of_ble_eq_true rfl⟩ rfl (fun v5 M5 hv5 => ?_)
  obtain ⟨c1, c2, c3, c4, c5, c6⟩ := hv5
  refine S_aload_0 (q := 9) dX4_failsWith_8 rfl ?_
  refine S_getR (q := 12) dX4_failsWith_9 fl_X4_10 (by first | assumption | rfl) (by rfl) rfl ?_
  refine S_getR (q := 15) dX4_failsWith_12 fl_X4_56 (by first | assumption | rfl) (by rfl) rfl ?_
  refine S_iload_2 (q := 16) dX4_failsWith_15 rfl ?_
  refine S_iconst (q := 17) (nI 1) dX4_failsWith_16 (by decide) rfl ?_
  refine S_iload_3 (q := 18) dX4_failsWith_17 rfl ?_
  refine S_ishl (q := 19) dX4_failsWith_18 rfl ?_
  rw [nI_shl (show k < 32 by omega) (by rw [Nat.one_mul]; omega), Nat.one_mul]
  refine S_iastE (i := x) (q := 20) dX4_failsWith_19 (by first | assumption | rfl) (by first | (simp only [nI_add, pk_mul, nI_1]; done) | rfl) (by omega) (by decide) rfl ?_
  refine S_aload_0 (q := 21) dX4_failsWith_20 rfl ?_
  refine S_getR (q := 24) dX4_failsWith_21 fl_X4_19 (by first | assumption | rfl) (by rfl) rfl ?_
  refine S_aload_0 (q := 25) dX4_failsWith_24 rfl ?_
  refine S_getR (q := 28) dX4_failsWith_25 fl_X4_10 (by first | assumption | rfl) (by rfl) rfl ?_
  refine S_aload_0 (q := 29) dX4_failsWith_28 rfl ?_
  refine S_getR (q := 32) dX4_failsWith_29 fl_X4_10 (by first | assumption | rfl) (by rfl) rfl ?_
  refine S_iload_2 (q := 33) dX4_failsWith_32 rfl ?_
  refine S_callV1i (q := 36) dX4_failsWith_33 lk_X4_60 (by first | assumption | rfl) rfl rfl (k_X1_linesThrough hQg (r := P.r) (c := P.c) (by rw [up_n (by omega), c2 0 (by omega)]; exact hr) (by rw [up_n (by omega), c2 1 (by omega)]; exact hcl) hr8 hc8 hc1 hx) rfl rfl (Nat.le_of_ble_eq_true rfl) ⟨Nat.le_of_ble_eq_true rfl, Nat.le_of_ble_eq_true rfl⟩ ⟨Nat.le_of_ble_eq_true rfl, Nat.le_of_ble_eq_true rfl⟩ rfl (fun v33 M33 hv33 => ?_)
  obtain ⟨rfl, rfl⟩ := hv33
  refine S_callV2i (q := 39) dX4_failsWith_36 lk_X4_68 (by first | assumption | rfl) rfl rfl (k_X5_settle hQp hQg hP (by rw [up_n (by omega), c2 0 (by omega)]; exact hr) (by rw [up_n (by omega), c2 1 (by omega)]; exact hcl) (by omega) (hcu.cp (fun j hj => by rw [up_n (by omega)]; exact c3 j hj) (fun j hj => by rw [up_n (by omega)]; exact c4 j hj) (fun j hj => by rw [up_n (by omega)]; exact c5 j hj)) (CE.up (f := f) (fun z hz => by rw [c6 z (by omega)]; exact hce z hz) hk1' hk16) (STB.upf hP hx hst)) rfl rfl (Nat.le_of_ble_eq_true rfl) ⟨Nat.le_of_ble_eq_true rfl, Nat.le_of_ble_eq_true rfl⟩ ⟨Nat.le_of_ble_eq_true rfl, Nat.le_of_ble_eq_true rfl⟩ rfl (fun v36 M36 hv36 => ?_)
  obtain ⟨h6a, h6b⟩ := hv36
  have hfr : ∀ a, (a < q + 1 ∨ q + 17 ≤ a) → M36 a = M a := fun a ha => by rw [h6a a (by omega) (by omega), up_n (by omega)]; exact c1 a (by omega)
  refine S_if_ne (t := 46) (q := 42) dX4_failsWith_39 (by decide) rfl (fun hb39 => ?_) (fun hb39 => ?_)
  · have hsp : ∃ z, spr P (upf f x (2 ^ k)) = .inr z := by
      cases hs : spr P (upf f x (2 ^ k)) with
      | inl j => rw [(h6b.1 j hs).1] at hb39; exact absurd rfl hb39
      | inr z => exact ⟨z, rfl⟩
    obtain ⟨z, hsp⟩ := hsp
    refine S_iconst (q := 47) (nI 0) dX4_failsWith_46 (by decide) rfl ?_
    exact S_iret rfl dX4_failsWith_47 (by rfl) rfl ⟨hfr, fun j hj => (by rw [hsp] at hj; cases hj), fun z _ => rfl⟩
  · have hsp : ∃ j, spr P (upf f x (2 ^ k)) = .inl j := by
      cases hs : spr P (upf f x (2 ^ k)) with
      | inl j => exact ⟨j, rfl⟩
      | inr z => obtain ⟨z1, z2⟩ := z; rw [(h6b.2 z1 z2 hs).1] at hb39; exact absurd hb39 (by decide)
    obtain ⟨z, hsp⟩ := hsp
    refine S_iconst (q := 43) (nI 1) dX4_failsWith_42 (by decide) rfl ?_
    refine S_goto (t := 47) dX4_failsWith_43 (by decide) ?_
    exact S_iret rfl dX4_failsWith_47 (by rfl) rfl ⟨hfr, fun j hj => rfl, fun z hz => (by rw [hsp] at hz; cases hz)⟩
set_option maxHeartbeats 4000000 in
set_option maxRecDepth 100000 in
theorem q_probeCell {l : Launch} {G : Gd} {b0 : Nat} {lay : Lay} {M : Mem} {Post : PT} {q g x n0 : Nat} {P : Pz} {cur : Nat → Nat} {M0 : Mem} (hq : isQ lay q) (hg : isG lay g) (hP : P.ok) (hr : M g 0 = nI P.r) (hcl : M g 1 = nI P.c) (hqg : q + 17 ≤ g ∨ g + 6 ≤ q) (hcu : CLU M (g + 1) P) (hk : M g 2 = nI P.k) (hx : x < P.r * P.c) (hf0 : (∀ a, (a < q ∨ q + 17 ≤ a) → a ≠ g + 5 → M0 a = M a)) (hce : CE M0 (g + 5) (P.r * P.c) cur) (hn0 : M0 q 2 = nI n0) (hst : ∀ i, i < P.r + P.c → stbl P cur i)
    (KF : ∀ (M2 : Mem) (j m : Nat), (∀ a, (a < q ∨ q + 17 ≤ a) → a ≠ g + 5 → M2 a = M a) → prK P x (P.k + 1) cur n0 = .inl (j, m) → M2 q 3 = nI j → M2 q 2 = nI m → Post (nI 0) M2)
    (K : ∀ (M2 : Mem) (fj : Nat → Nat) (nj : Nat), ((∀ a, (a < q ∨ q + 17 ≤ a) → a ≠ g + 5 → M2 a = M a) ∧ CE M2 (g + 5) (P.r * P.c) fj ∧ M2 q 2 = nI nj ∧ (∀ i, i < P.r + P.c → stbl P fj i) ∧ prK P x (P.k + 1) cur n0 = prK P x (P.k + 1 - (P.k + 1)) fj nj) → S l G b0 yX4_probeRound cX4_probeRound 5 (some .boolean) (rmZ 6 144) lay Post 0 0 0 0 lay 104 [some (.ref (b0 + q)), some (.ref (b0 + g)), some (.int (nI (x))), some (.int (nI (P.k + 1))), none] [] M2) : S l G b0 yX4_probeRound cX4_probeRound 5 (some .boolean) (rmZ 6 144) lay Post 0 0 0 0 lay 12 [some (.ref (b0 + q)), some (.ref (b0 + g)), some (.int (nI (x))), some (.int (nI 0)), none] [] M0 := by
  have hr8 := hP.r8
  have hc8 := hP.c8
  have hr1 := hP.r1
  have hc1 := hP.c1
  have hk1 := hP.k1
  have hk3 := hP.k3
  have h64 := rc64 hr8 hc8
  obtain ⟨hQ0, hQg, hQp⟩ := id hq
  have hQp0 := hQp.1
  have hQg0 := hQg.1
  have hQg5 := hQg.2.2
  obtain ⟨hg0, ⟨hq0, hq1, hq2, hq3⟩, hg5⟩ := id hg
  suffices H : ∀ (d i : Nat) (fj : Nat → Nat) (nj : Nat) (M1 : Mem), (P.k + 1) - i = d → i ≤ (P.k + 1) → ((∀ a, (a < q ∨ q + 17 ≤ a) → a ≠ g + 5 → M1 a = M a) ∧ CE M1 (g + 5) (P.r * P.c) fj ∧ M1 q 2 = nI nj ∧ (∀ i, i < P.r + P.c → stbl P fj i) ∧ prK P x (P.k + 1) cur n0 = prK P x (P.k + 1 - (i)) fj nj) → S l G b0 yX4_probeRound cX4_probeRound 5 (some .boolean) (rmZ 6 144) lay Post 0 0 0 0 lay 12 [some (.ref (b0 + q)), some (.ref (b0 + g)), some (.int (nI (x))), some (.int (nI (i))), none] [] M1 from H _ 0 (cur) (n0) _ rfl (by omega) ⟨hf0, hce, hn0, hst, rfl⟩
  intro d
  induction d with
  | zero =>
    intro i fj nj M1 hd hi hI
    have e : (P.k + 1) = i := by omega
    subst e
    refine S_iload_3 (q := 13) dX4_probeRound_12 rfl ?_
    refine S_aload_1 (q := 14) dX4_probeRound_13 rfl ?_
    refine S_getI (q := 17) dX4_probeRound_14 fl_X4_41 (by first | assumption | rfl) (by rfl) rfl ?_
    rw [hI.1 g (by omega) (by omega), hk]
    refine S_icmp_gt (t := 104) (q := 20) dX4_probeRound_17 (by decide) rfl (fun hb17 => ?_) (fun hb17 => ?_)
    · exact K _ _ _ hI
    · exact absurd ((nI_leI (by omega) (by omega)).mp (Int32.not_lt.mp hb17)) (by omega)
  | succ d ih =>
    intro i fj nj M1 hd hi hI
    have hlt : i < (P.k + 1) := by omega
    refine S_iload_3 (q := 13) dX4_probeRound_12 rfl ?_
    refine S_aload_1 (q := 14) dX4_probeRound_13 rfl ?_
    refine S_getI (q := 17) dX4_probeRound_14 fl_X4_41 (by first | assumption | rfl) (by rfl) rfl ?_
    rw [hI.1 g (by omega) (by omega), hk]
    refine S_icmp_gt (t := 104) (q := 20) dX4_probeRound_17 (by decide) rfl (fun hb17 => ?_) (fun hb17 => ?_)
    · exact absurd ((nI_ltI (by omega) (by omega)).mp hb17) (by omega)
    · refine S_aload_1 (q := 21) dX4_probeRound_20 rfl ?_
      refine S_iload_2 (q := 22) dX4_probeRound_21 rfl ?_
      refine S_iload_3 (q := 23) dX4_probeRound_22 rfl ?_
      refine S_callV2i (q := 26) dX4_probeRound_23 lk_X4_44 (by first | assumption | rfl) rfl rfl (k_X1_hasCandidate hg (show x < 64 by omega) (hI.2.1 x hx).1 (hI.2.1 x hx).2.2 (show i < 32 by omega)) rfl rfl (Nat.le_of_ble_eq_true rfl) ⟨Nat.le_of_ble_eq_true rfl, Nat.le_of_ble_eq_true rfl⟩ ⟨Nat.le_of_ble_eq_true rfl, Nat.le_of_ble_eq_true rfl⟩ rfl (fun v23 M23 hv23 => ?_)
      obtain ⟨rfl, rfl⟩ := hv23
      refine S_if_eq (t := 41) (q := 29) dX4_probeRound_26 (by decide) rfl (fun hb26 => ?_) (fun hb26 => ?_)
      · have hnt : ¬ fls P fj x i := fun z => bI_0.mp hb26 z.1
        refine S_iconst (q := 42) (nI 0) dX4_probeRound_41 (by decide) rfl ?_
        refine S_istore_4 (q := 44) dX4_probeRound_42 rfl ?_
        refine S_iload_4 (q := 46) dX4_probeRound_44 rfl ?_
        refine S_if_eq (t := 98) (q := 49) dX4_probeRound_46 (by decide) rfl (fun hb46 => ?_) (fun hb46 => ?_)
        · refine S_iinc_3 (q := 101) (nI (i + 1)) dX4_probeRound_98 (inc1 _) rfl ?_
          refine S_goto (t := 12) dX4_probeRound_101 (by decide) ?_
          refine S_fgt4 ?_
          exact ih (i + 1) _ _ _ (by omega) hlt ⟨hI.1, hI.2.1, hI.2.2.1, hI.2.2.2.1, by rw [hI.2.2.2.2, prK_skip hlt hnt]⟩
        · exact absurd rfl hb46
      · have ht : (fj x).testBit i = true := bI_n.mp hb26
        refine S_aload_1 (q := 30) dX4_probeRound_29 rfl ?_
        refine S_iload_2 (q := 31) dX4_probeRound_30 rfl ?_
        refine S_callV1i (q := 34) dX4_probeRound_31 lk_X4_48 (by first | assumption | rfl) rfl rfl (k_X1_isDecided hg (show x < 64 by omega) (hI.2.1 x hx).1 (hI.2.1 x hx).2.2) rfl rfl (Nat.le_of_ble_eq_true rfl) ⟨Nat.le_of_ble_eq_true rfl, Nat.le_of_ble_eq_true rfl⟩ ⟨Nat.le_of_ble_eq_true rfl, Nat.le_of_ble_eq_true rfl⟩ rfl (fun v31 M31 hv31 => ?_)
        obtain ⟨rfl, rfl⟩ := hv31
        refine S_if_ne (t := 41) (q := 37) dX4_probeRound_34 (by decide) rfl (fun hb34 => ?_) (fun hb34 => ?_)
        · have hnt : ¬ fls P fj x i := fun z => z.2.1 (bI_n.mp hb34)
          refine S_iconst (q := 42) (nI 0) dX4_probeRound_41 (by decide) rfl ?_
          refine S_istore_4 (q := 44) dX4_probeRound_42 rfl ?_
          refine S_iload_4 (q := 46) dX4_probeRound_44 rfl ?_
          refine S_if_eq (t := 98) (q := 49) dX4_probeRound_46 (by decide) rfl (fun hb46 => ?_) (fun hb46 => ?_)
          · refine S_iinc_3 (q := 101) (nI (i + 1)) dX4_probeRound_98 (inc1 _) rfl ?_
            refine S_goto (t := 12) dX4_probeRound_101 (by decide) ?_
            refine S_fgt4 ?_
            exact ih (i + 1) _ _ _ (by omega) hlt ⟨hI.1, hI.2.1, hI.2.2.1, hI.2.2.2.1, by rw [hI.2.2.2.2, prK_skip hlt hnt]⟩
          · exact absurd rfl hb46
        · have hu : pc4 (fj x) ≠ 1 := bI_0.mp hb34
          refine S_iconst (q := 38) (nI 1) dX4_probeRound_37 (by decide) rfl ?_
          refine S_goto (t := 42) dX4_probeRound_38 (by decide) ?_
          refine S_istore_4 (q := 44) dX4_probeRound_42 rfl ?_
          refine S_iload_4 (q := 46) dX4_probeRound_44 rfl ?_
          refine S_if_eq (t := 98) (q := 49) dX4_probeRound_46 (by decide) rfl (fun hb46 => ?_) (fun hb46 => ?_)
          · exact absurd hb46 (by decide)
          · refine S_aload_0 (q := 50) dX4_probeRound_49 rfl ?_
            refine S_aload_1 (q := 51) dX4_probeRound_50 rfl ?_
            refine S_iload_2 (q := 52) dX4_probeRound_51 rfl ?_
            refine S_iload_3 (q := 53) dX4_probeRound_52 rfl ?_
            refine S_callV3i (q := 56) dX4_probeRound_53 lk_X4_52 (by first | assumption | rfl) rfl rfl (k_X4_failsWith hq hg hP (by rw [hI.1 g (by omega) (by omega)]; exact hr) (by rw [hI.1 g (by omega) (by omega)]; exact hcl) hqg (hcu.fr (hI.1 _ (by omega) (by omega)) (hI.1 _ (by omega) (by omega)) (hI.1 _ (by omega) (by omega))) hI.2.1 hx (show i < 4 by omega) hI.2.2.2.1) rfl rfl (Nat.le_of_ble_eq_true rfl) ⟨Nat.le_of_ble_eq_true rfl, Nat.le_of_ble_eq_true rfl⟩ ⟨Nat.le_of_ble_eq_true rfl, Nat.le_of_ble_eq_true rfl⟩ rfl (fun v53 M53 hv53 => ?_)
            obtain ⟨s53a, s53b, s53c⟩ := hv53
            refine S_if_eq (t := 98) (q := 59) dX4_probeRound_56 (by decide) rfl (fun hb56 => ?_) (fun hb56 => ?_)
            · have hnt : ¬ fls P fj x i := fun z => by
                obtain ⟨-, -, j, hj⟩ := z
                rw [s53b j hj] at hb56
                exact absurd hb56 (by decide)
              refine S_iinc_3 (q := 101) (nI (i + 1)) dX4_probeRound_98 (inc1 _) rfl ?_
              refine S_goto (t := 12) dX4_probeRound_101 (by decide) ?_
              refine S_fgt4 ?_
              exact ih (i + 1) _ _ _ (by omega) hlt ⟨fun a h1 h2 => by rw [s53a a (by omega)]; exact hI.1 a h1 h2, hI.2.1.fr (s53a _ (by omega)), by rw [s53a q (by omega)]; exact hI.2.2.1, hI.2.2.2.1, by rw [hI.2.2.2.2, prK_skip hlt hnt]⟩
            · have hl : fls P fj x i := ⟨ht, hu, by
                cases hs : spr P (upf fj x (2 ^ i)) with
                | inl j => exact ⟨j, rfl⟩
                | inr z => rw [s53c z hs] at hb56; exact absurd rfl hb56⟩
              refine S_aload_0 (q := 60) dX4_probeRound_59 rfl ?_
              refine S_dup (q := 61) dX4_probeRound_60 rfl rfl ?_
              refine S_getI (q := 64) dX4_probeRound_61 fl_X4_23 (by first | assumption | rfl) (by rfl) rfl ?_
              refine S_iconst (q := 65) (nI 1) dX4_probeRound_64 (by decide) rfl ?_
              refine S_iadd (q := 66) dX4_probeRound_65 rfl ?_
              rw [s53a q (by omega), hI.2.2.1, nI_add]
              refine S_putI (q := 69) dX4_probeRound_66 fp_X4_23 (by first | assumption | rfl) (by rfl) rfl (by rfl) rfl ?_
              have hc16 := (hI.2.1 x hx).2.2
              have hck := clr_ok _ hc16 i (show i < 4 by omega) hl.1
              have hc1b := clr_1 hc16 hl.1 hl.2.1
              refine S_aload_1 (q := 70) dX4_probeRound_69 rfl ?_
              refine S_getR (q := 73) dX4_probeRound_70 fl_X4_56 (by first | assumption | rfl) (by rfl) rfl ?_
              refine S_iload_2 (q := 74) dX4_probeRound_73 rfl ?_
              refine S_dup2 (q := 75) dX4_probeRound_74 rfl rfl rfl ?_
              refine S_ialdV (i := x) (val := nI (fj x)) (q := 76) dX4_probeRound_75 (by first | assumption | rfl) (by first | (simp only [nI_add, pk_mul, nI_1]; done) | rfl) (by omega) (by decide) (by rw [up_n (by omega), s53a _ (by omega)]; exact (hI.2.1 x hx).1) rfl ?_
              refine S_iconst (q := 77) (nI 1) dX4_probeRound_76 (by decide) rfl ?_
              refine S_iload_3 (q := 78) dX4_probeRound_77 rfl ?_
              refine S_ishl (q := 79) dX4_probeRound_78 rfl ?_
              rw [nI_shl (show i < 32 by omega) (by rw [Nat.one_mul]; exact p2_lt (by omega)), Nat.one_mul]
              refine S_iconst (q := 80) (-1) dX4_probeRound_79 (by decide) rfl ?_
              refine S_ixor (q := 81) dX4_probeRound_80 rfl ?_
              refine S_iand (q := 82) dX4_probeRound_81 rfl ?_
              rw [nI_clr (show fj x < 2 ^ 16 by omega) (show i < 32 by omega)]
              refine S_iastE (i := x) (q := 83) dX4_probeRound_82 (by first | assumption | rfl) (by first | (simp only [nI_add, pk_mul, nI_1]; done) | rfl) (by omega) (by decide) rfl ?_
              refine S_aload_0 (q := 84) dX4_probeRound_83 rfl ?_
              refine S_aload_1 (q := 85) dX4_probeRound_84 rfl ?_
              refine S_aload_1 (q := 86) dX4_probeRound_85 rfl ?_
              refine S_iload_2 (q := 87) dX4_probeRound_86 rfl ?_
              refine S_callV1i (q := 90) dX4_probeRound_87 lk_X4_60 (by first | assumption | rfl) rfl rfl (k_X1_linesThrough hg (r := P.r) (c := P.c) (by rw [up_n (by omega), up_n (by omega), s53a g (by omega), hI.1 g (by omega) (by omega)]; exact hr) (by rw [up_n (by omega), up_n (by omega), s53a g (by omega), hI.1 g (by omega) (by omega)]; exact hcl) hr8 hc8 hc1 hx) rfl rfl (Nat.le_of_ble_eq_true rfl) ⟨Nat.le_of_ble_eq_true rfl, Nat.le_of_ble_eq_true rfl⟩ ⟨Nat.le_of_ble_eq_true rfl, Nat.le_of_ble_eq_true rfl⟩ rfl (fun v87 M87 hv87 => ?_)
              obtain ⟨rfl, rfl⟩ := hv87
              refine S_callV2i (q := 93) dX4_probeRound_90 lk_X4_34 (by first | assumption | rfl) rfl rfl (k_X4_settle hq hg hP (by rw [up_n (by omega), up_n (by omega), s53a g (by omega), hI.1 g (by omega) (by omega)]; exact hr) (by rw [up_n (by omega), up_n (by omega), s53a g (by omega), hI.1 g (by omega) (by omega)]; exact hcl) hqg (hcu.fr (by rw [up_n (by omega), up_n (by omega), s53a _ (by omega), hI.1 _ (by omega) (by omega)]) (by rw [up_n (by omega), up_n (by omega), s53a _ (by omega), hI.1 _ (by omega) (by omega)]) (by rw [up_n (by omega), up_n (by omega), s53a _ (by omega), hI.1 _ (by omega) (by omega)])) (CE.up (f := fj) (hI.2.1.fr (by rw [up_n (by omega), s53a _ (by omega)])) hc1b hck.1) (STB.upf hP hx hI.2.2.2.1)) rfl rfl (Nat.le_of_ble_eq_true rfl) ⟨Nat.le_of_ble_eq_true rfl, Nat.le_of_ble_eq_true rfl⟩ ⟨Nat.le_of_ble_eq_true rfl, Nat.le_of_ble_eq_true rfl⟩ rfl (fun v90 M90 hv90 => ?_)
              obtain ⟨s90a, s90b, s90c⟩ := hv90
              have hfr : ∀ a, (a < q ∨ q + 17 ≤ a) → a ≠ g + 5 → M90 a = M a := fun a h1 h2 => by rw [s90a a (by omega) h2 (by omega), up_n h2, up_n (by omega), s53a a (by omega)]; exact hI.1 a h1 h2
              have hn1 : M90 q 2 = nI (nj + 1) := by rw [s90b, up_n (by omega), up_s]
              refine S_if_ne (t := 98) (q := 96) dX4_probeRound_93 (by decide) rfl (fun hb93 => ?_) (fun hb93 => ?_)
              · have hsp : ∃ h n, spr P (upf fj x (clr (fj x) i)) = .inr (h, n) := by
                  cases hs : spr P (upf fj x (clr (fj x) i)) with
                  | inl j => rw [(s90c.1 j hs).1] at hb93; exact absurd rfl hb93
                  | inr z => exact ⟨z.1, z.2, rfl⟩
                obtain ⟨h, n, hsp⟩ := hsp
                have hRK := hl.one (n := nj) hP hI.2.1.gf hx hsp
                refine S_iinc_3 (q := 101) (nI (i + 1)) dX4_probeRound_98 (inc1 _) rfl ?_
                refine S_goto (t := 12) dX4_probeRound_101 (by decide) ?_
                refine S_fgt4 ?_
                exact ih (i + 1) h (nj + 1) _ (by omega) hlt ⟨hfr, (s90c.2 h n hsp).2, hn1, hRK.2.1, by rw [hI.2.2.2.2, prK_go hlt hl hsp]⟩
              · have hsp : ∃ j, spr P (upf fj x (clr (fj x) i)) = .inl j := by
                  cases hs : spr P (upf fj x (clr (fj x) i)) with
                  | inl j => exact ⟨j, rfl⟩
                  | inr z => rw [(s90c.2 z.1 z.2 hs).1] at hb93; exact absurd hb93 (by decide)
                obtain ⟨z, hsp⟩ := hsp
                refine S_iconst (q := 97) (nI 0) dX4_probeRound_96 (by decide) rfl ?_
                exact S_iret rfl dX4_probeRound_97 (by rfl) rfl (KF _ z (nj + 1) hfr (by rw [hI.2.2.2.2, prK_bad hlt hl hsp]) (s90c.1 z hsp).2 hn1)
set_option maxHeartbeats 4000000 in
set_option maxRecDepth 100000 in
theorem k_X4_probeRound {l : Launch} {G : Gd} {b0 : Nat} {lay : Lay} {M : Mem} {q g n0 : Nat} {P : Pz} {f : Nat → Nat} (hq : isQ lay q) (hg : isG lay g) (hP : P.ok) (hr : M g 0 = nI P.r) (hcl : M g 1 = nI P.c) (hqg : q + 17 ≤ g ∨ g + 6 ≤ q) (hcu : CLU M (g + 1) P) (hk : M g 2 = nI P.k) (hce : CE M (g + 5) (P.r * P.c) f) (hn0 : M q 2 = nI n0) (hst : ∀ i, i < P.r + P.c → stbl P f i)  : Ct l G b0 yX4_probeRound cX4_probeRound 5 (some .boolean) (rmZ 6 144) lay lay M [.ref (b0 + q), .ref (b0 + g)] (fun v M' => (∀ a, (a < q ∨ q + 17 ≤ a) → a ≠ g + 5 → M' a = M a) ∧ ((∀ j m, prX P (P.r * P.c) f n0 = .inl (j, m) → v = nI 0 ∧ M' q 3 = nI j ∧ M' q 2 = nI m) ∧ ∀ h m, prX P (P.r * P.c) f n0 = .inr (h, m) → v = nI 1 ∧ CE M' (g + 5) (P.r * P.c) h ∧ M' q 2 = nI m)) := by
  have hr8 := hP.r8
  have hc8 := hP.c8
  have hr1 := hP.r1
  have hc1 := hP.c1
  have hk1 := hP.k1
  have hk3 := hP.k3
  have h64 := rc64 hr8 hc8
  obtain ⟨hQ0, hQg, hQp⟩ := id hq
  have hQp0 := hQp.1
  have hQg0 := hQg.1
  have hQg5 := hQg.2.2
  obtain ⟨hg0, ⟨hq0, hq1, hq2, hq3⟩, hg5⟩ := id hg
  refine Ct.of [some (.ref (b0 + q)), some (.ref (b0 + g)), none, none, none] (by decide) (Nat.le_of_ble_eq_true rfl) rfl rfl ?_
  refine S_iconst (q := 1) (nI 0) dX4_probeRound_0 (by decide) rfl ?_
  refine S_istore_2 (q := 2) dX4_probeRound_1 rfl ?_
  suffices H : ∀ (d i : Nat) (cur : Nat → Nat) (nj : Nat) (M1 : Mem), (P.r * P.c) - i = d → i ≤ (P.r * P.c) → ((∀ a, (a < q ∨ q + 17 ≤ a) → a ≠ g + 5 → M1 a = M a) ∧ CE M1 (g + 5) (P.r * P.c) cur ∧ M1 q 2 = nI nj ∧ (∀ i, i < P.r + P.c → stbl P cur i) ∧ prX P (P.r * P.c) f n0 = prX P (P.r * P.c - (i)) cur nj) → S l G b0 yX4_probeRound cX4_probeRound 5 (some .boolean) (rmZ 6 144) lay (fun v M' => (∀ a, (a < q ∨ q + 17 ≤ a) → a ≠ g + 5 → M' a = M a) ∧ ((∀ j m, prX P (P.r * P.c) f n0 = .inl (j, m) → v = nI 0 ∧ M' q 3 = nI j ∧ M' q 2 = nI m) ∧ ∀ h m, prX P (P.r * P.c) f n0 = .inr (h, m) → v = nI 1 ∧ CE M' (g + 5) (P.r * P.c) h ∧ M' q 2 = nI m)) 0 0 0 0 lay 2 [some (.ref (b0 + q)), some (.ref (b0 + g)), some (.int (nI (i))), none, none] [] M1 from H _ 0 (f) (n0) _ rfl (by omega) ⟨fun _ _ _ => rfl, hce, hn0, hst, rfl⟩
  intro d
  induction d with
  | zero =>
    intro i cur nj M1 hd hi hI
    have e : (P.r * P.c) = i := by omega
    subst e
    refine S_iload_2 (q := 3) dX4_probeRound_2 rfl ?_
    refine S_aload_1 (q := 4) dX4_probeRound_3 rfl ?_
    refine S_callV0i (q := 7) dX4_probeRound_4 lk_X4_38 (by first | assumption | rfl) rfl rfl (k_X1_cellTotal hg (r := P.r) (c := P.c) (by rw [hI.1 g (by omega) (by omega)]; exact hr) (by rw [hI.1 g (by omega) (by omega)]; exact hcl)) rfl rfl (Nat.le_of_ble_eq_true rfl) ⟨Nat.le_of_ble_eq_true rfl, Nat.le_of_ble_eq_true rfl⟩ ⟨Nat.le_of_ble_eq_true rfl, Nat.le_of_ble_eq_true rfl⟩ rfl (fun v4 M4 hv4 => ?_)
    obtain ⟨rfl, rfl⟩ := hv4
    refine S_icmp_ge (t := 110) (q := 10) dX4_probeRound_7 (by decide) rfl (fun hb7 => ?_) (fun hb7 => ?_)
    · refine S_iconst (q := 111) (nI 1) dX4_probeRound_110 (by decide) rfl ?_
      exact S_iret rfl dX4_probeRound_111 (by rfl) rfl ⟨hI.1, (by rw [hI.2.2.2.2, Nat.sub_self]; exact ⟨fun j m h => (by cases h), fun h m hh => (by cases hh; exact ⟨rfl, hI.2.1, hI.2.2.1⟩)⟩)⟩
    · exact absurd (Int32.le_refl _) hb7
  | succ d ih =>
    intro i cur nj M1 hd hi hI
    have hlt : i < (P.r * P.c) := by omega
    refine S_iload_2 (q := 3) dX4_probeRound_2 rfl ?_
    refine S_aload_1 (q := 4) dX4_probeRound_3 rfl ?_
    refine S_callV0i (q := 7) dX4_probeRound_4 lk_X4_38 (by first | assumption | rfl) rfl rfl (k_X1_cellTotal hg (r := P.r) (c := P.c) (by rw [hI.1 g (by omega) (by omega)]; exact hr) (by rw [hI.1 g (by omega) (by omega)]; exact hcl)) rfl rfl (Nat.le_of_ble_eq_true rfl) ⟨Nat.le_of_ble_eq_true rfl, Nat.le_of_ble_eq_true rfl⟩ ⟨Nat.le_of_ble_eq_true rfl, Nat.le_of_ble_eq_true rfl⟩ rfl (fun v4 M4 hv4 => ?_)
    obtain ⟨rfl, rfl⟩ := hv4
    refine S_icmp_ge (t := 110) (q := 10) dX4_probeRound_7 (by decide) rfl (fun hb7 => ?_) (fun hb7 => ?_)
    · exact absurd hb7 (nI_ge hlt (by omega))
    · refine S_iconst (q := 11) (nI 0) dX4_probeRound_10 (by decide) rfl ?_
      refine S_istore_3 (q := 12) dX4_probeRound_11 rfl ?_
      refine q_probeCell hq hg hP hr hcl hqg hcu hk hlt hI.1 hI.2.1 hI.2.2.1 hI.2.2.2.1 (fun M2 j m k1 k2 k3 k4 => ?_) (fun M2 fj nj2 k => ?_)
      · refine ⟨k1, (by rw [hI.2.2.2.2, prX_at hlt, k2]; exact ⟨fun j' m' h => (by cases h; exact ⟨rfl, k3, k4⟩), fun h m hh => (by cases hh)⟩)⟩
      · obtain ⟨k1, k2, k3, k4, k5⟩ := k
        refine S_iinc_2 (q := 107) (nI (i + 1)) dX4_probeRound_104 (inc1 _) rfl ?_
        refine S_goto (t := 2) dX4_probeRound_107 (by decide) ?_
        refine S_fgt3 ?_
        exact ih (i + 1) fj nj2 _ (by omega) hlt ⟨k1, k2, k3, k4, by rw [hI.2.2.2.2, prX_at hlt, k5, Nat.sub_self]; rfl⟩
theorem qO_88 {Z : Lay} : isQ (LYZ Z) 88 := ⟨rfl, gO_89, pO_95⟩
