theorem pas_lt {P : Pz} : ∀ (d : Nat) (f : Nat → Nat) (j : Nat), 1 ≤ P.r + P.c → pas P f d = .inl j → j < P.r + P.c := by
  intro d
  induction d with
  | zero => intro f j _ h; cases h
  | succ d ih =>
    intro f j h0 h
    rw [pas] at h
    split at h
    · cases h; omega
    · exact ih _ _ h0 h
theorem spr_lt {P : Pz} (h0 : 1 ≤ P.r + P.c) : ∀ (w : Nat) (f : Nat → Nat) (j : Nat), WT P f = w → spr P f = .inl j → j < P.r + P.c := by
  intro w
  induction w using Nat.strongRecOn with
  | ind w ih =>
    intro f j hw h
    rw [spr] at h
    cases e : pas P f (P.r + P.c) with
    | inl i => rw [e] at h; cases h; exact pas_lt _ _ _ h0 e
    | inr g =>
      rw [e] at h
      simp only at h
      split at h
      · rename_i hl
        cases e2 : spr P g with
        | inl i => rw [e2] at h; cases h; exact ih (WT P g) (by omega) g _ rfl e2
        | inr z => rw [e2] at h; cases h
      · cases h
theorem prK_bd {P : Pz} {x : Nat} (hP : P.ok) (hx : x < P.r * P.c) : ∀ (d : Nat) (f : Nat → Nat) (n j m : Nat), d ≤ P.k + 1 → GF P f → (∀ i, i < P.r + P.c → stbl P f i) → prK P x d f n = .inl (j, m) → n + WT P f < 2 ^ 20 → j < 2 ^ 31 ∧ m < 2 ^ 31 := by
  intro d
  induction d with
  | zero => intro f n j m _ _ _ h; cases h
  | succ d ih =>
    intro f n j m hd hf hs h hn
    have h1 := prK_at (P := P) (f := f) (n := n) (x := x) (j := P.k + 1 - (d + 1)) (by omega)
    rw [show P.k + 1 - (P.k + 1 - (d + 1)) = d + 1 by omega, show P.k + 1 - (P.k + 1 - (d + 1) + 1) = d by omega] at h1
    rw [h1] at h
    cases e : prS P f n x (P.k + 1 - (d + 1)) with
    | inl q =>
      rw [e] at h
      simp only at h
      cases h
      unfold prS at e
      by_cases hl : fls P f x (P.k + 1 - (d + 1))
      · rw [cif_t hl] at e
        cases hs2 : spr P (upf f x (clr (f x) (P.k + 1 - (d + 1)))) with
        | inl i =>
          rw [hs2] at e
          cases e
          have := spr_lt (by have := hP.r1; omega) _ _ _ rfl hs2
          have := hP.r8
          have := hP.c8
          exact ⟨by omega, by omega⟩
        | inr z => rw [hs2] at e; cases e
      · rw [cif_f hl] at e; cases e
    | inr q =>
      obtain ⟨g, m2⟩ := q
      rw [e] at h
      simp only at h
      obtain ⟨r1, r2, r3, r4, r5⟩ := prS_ok hP hx hf hs e
      exact ih g m2 j m (by omega) r1 r2 h (by omega)
theorem prX_bd {P : Pz} (hP : P.ok) : ∀ (d : Nat) (f : Nat → Nat) (n j m : Nat), d ≤ P.r * P.c → GF P f → (∀ i, i < P.r + P.c → stbl P f i) → prX P d f n = .inl (j, m) → n + WT P f < 2 ^ 20 → j < 2 ^ 31 ∧ m < 2 ^ 31 := by
  intro d
  induction d with
  | zero => intro f n j m _ _ _ h; cases h
  | succ d ih =>
    intro f n j m hd hf hs h hn
    rw [prX] at h
    have hx : P.r * P.c - (d + 1) < P.r * P.c := by omega
    cases e : prK P (P.r * P.c - (d + 1)) (P.k + 1) f n with
    | inl q =>
      rw [e] at h
      simp only at h
      cases h
      exact prK_bd hP hx _ f n j m (Nat.le_refl _) hf hs e hn
    | inr q =>
      obtain ⟨g, m2⟩ := q
      rw [e] at h
      simp only at h
      obtain ⟨r1, r2, r3, r4, r5⟩ := prK_ok hP hx _ f n g m2 hf hs e
      exact ih g m2 j m (by omega) r1 r2 h (by omega)
/-! THE OPERATIONS KEEP THE STATE GOOD -/
theorem cl_in {A : Ab} {x z : Int32} {i j : Nat} (hP : A.P.ok) (h : A.cl x z = some (i, j)) : i < A.P.r ∧ j < A.P.c := by
  by_cases y : (0 ≤ x ∧ x < nI A.P.r) ∧ (0 ≤ z ∧ z < nI A.P.c)
  · obtain ⟨a, b, h1, h2, -, -, h3⟩ := cl_ok hP y
    rw [h3] at h; cases h; exact ⟨h1, h2⟩
  · rw [cl_no y] at h; cases h
theorem ln_in {A : Ab} {x : Int32} {i : Nat} (hP : A.P.ok) (h : A.ln x = some i) : i < A.P.r + A.P.c := by
  by_cases y : 0 ≤ x ∧ x < nI (A.P.r + A.P.c)
  · obtain ⟨a, h1, -, h3⟩ := ln_ok hP y
    rw [h3] at h; cases h; exact h1
  · rw [ln_no y] at h; cases h
theorem iw_in {x : Int32} {a b i : Nat} (ha : a < 2 ^ 31) (hb : b < 2 ^ 31) (h : iw x a b = some i) : a ≤ i ∧ i ≤ b := by
  by_cases y : nI a ≤ x ∧ x ≤ nI b
  · obtain ⟨j, h1, h2, -, h3⟩ := iw_ok ha hb y
    rw [h3] at h; cases h; exact ⟨h1, h2⟩
  · rw [iw_no y] at h; cases h
theorem ix_in {x : Int32} {n i : Nat} (hn : n < 2 ^ 31) (h : ix x n = some i) : i < n := by
  by_cases y : 0 ≤ x ∧ x < nI n
  · obtain ⟨j, h1, -, h3⟩ := ix_ok hn y
    rw [h3] at h; cases h; exact h1
  · rw [ix_no y] at h; cases h
theorem cn_in {A : Ab} {x z k : Int32} {c m : Nat} (hP : A.P.ok) (h : A.cn x z k = .inr (c, m)) : c < A.P.r * A.P.c ∧ m ≤ A.P.k ∧ (A.f c).testBit m = true := by
  obtain ⟨i, j, m', hi, hj, hm, -, -, -, hd, e⟩ := cn_0 hP (show erV (A.cn x z k) = 0 by rw [h]; rfl)
  rw [e] at h; cases h; exact ⟨cel_lt hi hj, hm, hd⟩
theorem cn2_in {A : Ab} {x z k : Int32} {c m : Nat} (hP : A.P.ok) (h : A.cn2 x z k = .inr (c, m)) : c < A.P.r * A.P.c ∧ m ≤ A.P.k ∧ (A.f c).testBit m = true ∧ pc4 (A.f c) ≠ 1 := by
  obtain ⟨i, j, m', hi, hj, hm, -, -, -, hd, hd1, e⟩ := cn2_0 hP (show erV (A.cn2 x z k) = 0 by rw [h]; rfl)
  rw [e] at h; cases h; exact ⟨cel_lt hi hj, hm, hd, hd1⟩
theorem pcP_gd {P : Pz} {f : Nat → Nat} (hP : P.ok) (hf : GF P f) : (pcP P f).gd f := by
  have hr8 := hP.r8
  have hc8 := hP.c8
  refine ⟨⟨hP.r1, hr8, hP.c1, hc8, hP.k1, hP.k3, fun i => ?_⟩, hf, fun i hi => if_neg (show ¬ i < P.r + P.c from Nat.not_lt.mpr hi)⟩
  by_cases e : i < P.r + P.c
  · have hl8 := lnLen_le (i := i) hr8 hc8
    obtain ⟨b1, b2, b3⟩ := bkT_ok (C := lco P.r P.c f i) (lnLen P.r P.c i) (fun q hq => clo_le3 _ (hf _ (lnCell_lt e hq)).2 (hf _ (lnCell_lt e hq)).1)
    have eR : (pcP P f).R i = (bkT (lco P.r P.c f i) (lnLen P.r P.c i)).1 := if_pos e
    rw [eR]
    exact ⟨by omega, fun j hj => ⟨(b3 j hj).1, Nat.le_trans (b3 j hj).2.1 hl8, (b3 j hj).2.2.1, (b3 j hj).2.2.2⟩⟩
  · have eR : (pcP P f).R i = 0 := if_neg e
    rw [eR]
    exact ⟨Nat.zero_le _, fun j hj => absurd hj (Nat.not_lt_zero j)⟩
theorem prA_gf {P : Pz} (hP : P.ok) : ∀ (w : Nat) (f : Nat → Nat) (n : Nat), WT P f = w → GF P f → (∀ i, i < P.r + P.c → stbl P f i) → n + w < 2 ^ 20 → (∀ g m, prA P f n = .inr (g, m) → GF P g ∧ m < 2 ^ 31) ∧ ∀ j m, prA P f n = .inl (j, m) → j < 2 ^ 31 ∧ m < 2 ^ 31 := by
  intro w
  induction w using Nat.strongRecOn with
  | ind w ih =>
    intro f n hw hf hs hn
    cases hx : prX P (P.r * P.c) f n with
    | inl e =>
      rw [prA_bad hx]
      refine ⟨fun g m h => (by cases h), fun j m h => ?_⟩
      cases h
      exact prX_bd hP (P.r * P.c) f n j m (Nat.le_refl _) hf hs hx (by omega)
    | inr q =>
      obtain ⟨g, m⟩ := q
      obtain ⟨r1, r2, r3, r4, r5⟩ := prX_ok hP (P.r * P.c) f n g m (Nat.le_refl _) hf hs hx
      rw [prA_at hx]
      by_cases hl : WT P g < WT P f
      · rw [if_pos hl]
        exact ih (WT P g) (by omega) g m rfl r1 r2 (by omega)
      · rw [if_neg hl]
        exact ⟨fun g' m' h => (by cases h; exact ⟨r1, by omega⟩), fun j m h => (by cases h)⟩
section OKO
variable {A : Ab}
theorem ok_reset (h : A.ok) (x y z : Int32) : (o_reset A x y z).1.ok := by
  unfold o_reset
  cases e1 : iw x 1 8 with
  | none => exact h
  | some r =>
    cases e2 : iw y 1 8 with
    | none => exact h
    | some c =>
      cases e3 : iw z 1 3 with
      | none => exact h
      | some k =>
        have a1 := iw_in (by decide) (by decide) e1
        have a2 := iw_in (by decide) (by decide) e2
        have a3 := iw_in (by decide) (by decide) e3
        exact (h.sG (P := (r, c, k, fun _ => 0, fun _ _ => 0, fun _ _ => 0)) (f := fun _ => 2 ^ (k + 1) - 1) (H := []) ⟨⟨a1.1, a1.2, a2.1, a2.2, a3.1, a3.2, fun i => ⟨Nat.zero_le _, fun j (hj : j < 0) => absurd hj (Nat.not_lt_zero j)⟩⟩, fun _ _ => fl_16 a3.2, fun _ _ => rfl⟩ (fun e he => by cases he) (by decide)).sB (b := none) (fun l d e => by cases e)
theorem ok_add (h : A.ok) (x n k : Int32) : (o_add A x n k).1.ok := by
  unfold o_add
  cases e1 : A.ln x with
  | none => exact h
  | some i =>
    cases e2 : iw n 1 8 with
    | none => exact h
    | some n =>
      cases e3 : iw k 1 A.P.k with
      | none => exact h
      | some k =>
        simp only
        have hk3 := h.P.k3
        have a2 := iw_in (by decide) (by decide) e2
        have a3 := iw_in (by decide) (by omega) e3
        have hR := (h.P.cl i).1
        have hi := ln_in h.P e1
        split
        · exact h
        · exact h.ed (P := A.P.wc (upf A.P.R i (A.P.R i + 1)) (fun a b => if a = i ∧ b = A.P.R i then n else A.P.len a b) (fun a b => if a = i ∧ b = A.P.R i then k else A.P.col a b)) rfl rfl rfl ⟨Pz.ok.app h.P (by omega) a2.1 a2.2 a3.1 (by omega), h.f, fun a ha => by
            have ha' : A.P.r + A.P.c ≤ a := ha
            show upf A.P.R i (A.P.R i + 1) a = 0
            rw [upf_n (by omega)]; exact h.z a ha'⟩
theorem ok_clr (h : A.ok) (x : Int32) : (o_clr A x).1.ok := by
  unfold o_clr
  cases e1 : A.ln x with
  | none => exact h
  | some i =>
    refine h.ed (P := A.P.wc (upf A.P.R i 0) A.P.len A.P.col) rfl rfl rfl ⟨⟨h.P.r1, h.P.r8, h.P.c1, h.P.c8, h.P.k1, h.P.k3, fun a => ?_⟩, h.f, fun a ha => ?_⟩
    · show upf A.P.R i 0 a ≤ 8 ∧ ∀ j, j < upf A.P.R i 0 a → _
      by_cases e : a = i
      · rw [e, upf_s]; exact ⟨Nat.zero_le _, fun j hj => absurd hj (Nat.not_lt_zero j)⟩
      · rw [upf_n e]; exact h.P.cl a
    · show upf A.P.R i 0 a = 0
      by_cases e : a = i
      · rw [e, upf_s]
      · rw [upf_n e]; exact h.z a ha
theorem gd_f {P : Pz} {f g : Nat → Nat} (h : P.gd f) (hg : GF P g) : P.gd g := ⟨h.1, hg, h.2.2⟩
theorem ok_keep (h : A.ok) (x z k : Int32) : (o_keep A x z k).1.ok := by
  unfold o_keep
  cases e1 : A.cn x z k with
  | inl e => exact h
  | inr q =>
    obtain ⟨c, m⟩ := q
    obtain ⟨a1, a2, a3⟩ := cn_in h.P e1
    have hk3 := h.P.k3
    exact h.ed rfl rfl rfl (gd_f h.g (h.f.upf (p2_16 (by omega)).1 (p2_16 (by omega)).2))
theorem ok_elim (h : A.ok) (x z k : Int32) : (o_elim A x z k).1.ok := by
  unfold o_elim
  cases e1 : A.cn2 x z k with
  | inl e => exact h
  | inr q =>
    obtain ⟨c, m⟩ := q
    obtain ⟨a1, a2, a3, a4⟩ := cn2_in h.P e1
    have hk3 := h.P.k3
    exact h.ed rfl rfl rfl (gd_f h.g (h.f.upf (clr_1 (h.f c a1).2 a3 a4) (clr_ok _ (h.f c a1).2 m (by omega) a3).1))
theorem ok_bad (h : A.ok) {l d : Nat} (hl : l < 2 ^ 31) (hd : d < 2 ^ 31) : (A.sB (some (l, d))).ok := h.sB (fun a b e => by cases e; exact ⟨hl, hd⟩)
theorem ok_solve (h : A.ok) (x : Int32) : (o_solve A x).1.ok := by
  unfold o_solve
  cases e1 : A.ln x with
  | none => exact h
  | some i =>
    have hi := ln_in h.P e1
    have := h.P.r8
    have := h.P.c8
    simp only
    split
    · exact ok_bad h (by omega) (by decide)
    · rename_i hw
      exact h.ed rfl rfl rfl (gd_f h.g (lnS_gf h.P h.f hi hw))
theorem spr_31 {P : Pz} {f : Nat → Nat} {j : Nat} (hP : P.ok) (e : spr P f = .inl j) : j < 2 ^ 31 := by
  have h1 := spr_lt (by have := hP.r1; omega) _ f j rfl e
  have := hP.r8
  have := hP.c8
  omega
theorem ok_prop (h : A.ok) : (o_prop A).1.ok := by
  unfold o_prop
  cases e1 : spr A.P A.f with
  | inl j => exact ok_bad h (spr_31 h.P e1) (by decide)
  | inr q =>
    obtain ⟨g, n⟩ := q
    exact h.ed rfl rfl rfl (gd_f h.g (spr_ok h.P _ A.f g n rfl h.f e1).1)
theorem ok_all (h : A.ok) : (o_all A).1.ok := by
  unfold o_all
  cases e1 : spr A.P A.f with
  | inl j => exact ok_bad h (spr_31 h.P e1) (by decide)
  | inr q =>
    obtain ⟨g, n⟩ := q
    obtain ⟨k1, k2, k3, k4⟩ := spr_ok h.P _ A.f g n rfl h.f e1
    have h256 := WT_le h.P (f := g)
    have hp := prA_gf h.P _ g 0 rfl k1 k3 (by omega)
    simp only
    cases e2 : prA A.P g 0 with
    | inl q => obtain ⟨j, m⟩ := q; exact ok_bad h (hp.2 j m e2).1 (hp.2 j m e2).2
    | inr q => obtain ⟨g2, m⟩ := q; exact h.ed rfl rfl rfl (gd_f h.g (hp.1 g2 m e2).1)
theorem ok_rule (h : A.ok) (x : Int32) : (o_rule A x).1.ok := by
  unfold o_rule
  cases e1 : iw x 0 2 with
  | none => exact h
  | some n => exact ⟨h.1, h.2.1, h.H8, (iw_in (by decide) (by decide) e1).2, h.bad, h.tx, h.fo, h.tb, h.sn⟩
theorem ok_take (h : A.ok) : (o_take A).1.ok := by
  unfold o_take
  split
  · exact h.ed rfl rfl rfl (pcP_gd h.P h.f)
  · exact h
theorem ok_draw (h : A.ok) (s : Int32) : (o_draw A s).1.ok := by
  have hk3 := h.P.k3
  exact h.sG (pcP_gd h.P (fun x _ => p2_16 (drC_le hk3))) (fun e he => by cases he) (by decide)
theorem ok_clear (h : A.ok) : (o_clear A).1.ok := h.sG (gd_f h.g (fun _ _ => fl_16 h.P.k3)) (fun e he => by cases he) (by decide)
theorem ok_sT (h : A.ok) {t : (Nat → Nat) × Nat} (h1 : t.2 ≤ 120) (h2 : ∀ j, j < t.2 → 32 ≤ t.1 j ∧ t.1 j ≤ 126) : (A.sT t).ok := ⟨h.1, h.2.1, h.H8, h.ru, h.bad, ⟨h1, h2⟩, h.fo, h.tb, h.sn⟩
theorem ok_app (h : A.ok) (x : Int32) : (o_app A x).1.ok := by
  unfold o_app
  cases e1 : iw x 32 126 with
  | none => exact h
  | some ch =>
    have a := iw_in (by decide) (by decide) e1
    have h1 := h.tx.1
    simp only
    split
    · exact h
    · refine ok_sT h (by show A.tx.2 + 1 ≤ 120; omega) (fun j hj => ?_)
      have hj' : j < A.tx.2 + 1 := hj
      show 32 ≤ upf A.tx.1 A.tx.2 ch j ∧ upf A.tx.1 A.tx.2 ch j ≤ 126
      by_cases e : j = A.tx.2
      · rw [e, upf_s]; exact a
      · rw [upf_n e]; exact h.tx.2 j (by omega)
theorem ok_parse (h : A.ok) : (o_parse A).1.ok := by
  unfold o_parse
  cases e1 : psR A.P A.tx.1 A.tx.2 with
  | inl q => exact ok_sT h (Nat.zero_le _) (fun j (hj : j < 0) => absurd hj (Nat.not_lt_zero j))
  | inr s =>
    obtain ⟨h1, h2, h3, h4, h5⟩ := psR_ok h.P e1
    have hgd : (A.P.wc s.2.2.1 s.2.2.2.1 s.2.2.2.2).gd A.f := ⟨h4, h.f, fun i hi => h5 i (by have : A.P.r + A.P.c ≤ i := hi; omega)⟩
    exact ok_sT (h.ed (P := A.P.wc s.2.2.1 s.2.2.2.1 s.2.2.2.2) (f := A.f) rfl rfl rfl hgd) (Nat.zero_le _) (fun j (hj : j < 0) => absurd hj (Nat.not_lt_zero j))
theorem ok_form (h : A.ok) : (o_form A).1.ok := by
  have h1 := fmL_n (T := A.fo.1) h.P A.N
  have hN : A.N = A.P.r + A.P.c := rfl
  have := h.P.r1
  have := h.P.r8
  have := h.P.c8
  have h2 := h1.2 (by omega)
  exact ⟨h.1, h.2.1, h.H8, h.ru, h.bad, h.tx, (show (fmL A.P A.fo.1 A.N).2 ≤ 271 by omega), h.tb, h.sn⟩
theorem ok_undo (h : A.ok) : (o_undo A).1.ok := by
  unfold o_undo
  cases e : A.H with
  | nil => exact h
  | cons a t =>
    have h8 := h.H8
    rw [e, List.length_cons] at h8
    exact h.sG (h.H a (by rw [e]; exact List.mem_cons_self)) (fun b hb => h.H b (by rw [e]; exact List.mem_cons_of_mem _ hb)) (by omega)
theorem ok_save (h : A.ok) : (o_save A).1.ok := ⟨h.1, h.2.1, h.H8, h.ru, h.bad, h.tx, h.fo, h.tb, fun P f e => by cases e; exact h.g⟩
theorem ok_rest (h : A.ok) : (o_rest A).1.ok := by
  unfold o_rest
  cases e : A.sn with
  | none => exact h
  | some q => obtain ⟨P, f⟩ := q; exact (h.sG (h.sn P f e) (fun e he => by cases he) (by decide)).sB (b := none) (fun l d e => by cases e)
theorem ok_sE (h : A.ok) {t ty n : Nat} {it : Nat → Int32} (h1 : ty ≤ 2) (h2 : n ≤ 64) (h3 : ty = 2 → ∀ j, it j = nI 0 ∨ it j = nI 1) : (A.sE t (ty, n, it)).ok := by
  refine ⟨h.1, h.2.1, h.H8, h.ru, h.bad, h.tx, h.fo, fun u a b c e => ?_, h.sn⟩
  have e' : (if u = t then some (ty, n, it) else A.tb u) = some (a, b, c) := e
  split at e'
  · cases e'; exact ⟨h1, h2, h3⟩
  · exact h.tb u a b c e'
theorem ok_ctab (h : A.ok) (x y n : Int32) : (o_ctab A x y n).1.ok := by
  unfold o_ctab
  cases e1 : ix x 3 with
  | none => exact h
  | some t =>
    cases e2 : iw y 0 2 with
    | none => exact h
    | some ty =>
      simp only
      split
      · exact h
      · rename_i hn
        split
        · exact h
        · rename_i hn0
          obtain ⟨m, hm, rfl⟩ := nI_of hn0
          exact ok_sE h (iw_in (by decide) (by decide) e2).2 (by rw [nI_clamp hm]; exact Nat.le_of_not_lt (fun y => hn ((nI_ltI (by decide) hm).mpr y))) (fun _ _ => .inl rfl)
theorem kpV_2 {ty : Nat} (h : ty = 2) (v : Int32) : kpV ty v = nI 0 ∨ kpV ty v = nI 1 := by
  subst h
  unfold kpV
  rw [if_neg (by decide), if_pos rfl]
  split
  · exact .inl rfl
  · exact .inr rfl
theorem ok_wtab (h : A.ok) (x y v : Int32) : (o_wtab A x y v).1.ok := by
  unfold o_wtab
  cases e1 : ix x 3 with
  | none => exact h
  | some t =>
    simp only
    cases e2 : A.tb t with
    | none => exact h
    | some q =>
      obtain ⟨ty, n, it⟩ := q
      obtain ⟨h1, h2, h3⟩ := h.tb t ty n it e2
      simp only
      cases e3 : ix y n with
      | none => exact h
      | some j => exact ok_sE h h1 h2 (fun e z => by
          show (if z = j then kpV ty v else it z) = nI 0 ∨ (if z = j then kpV ty v else it z) = nI 1
          split
          · exact kpV_2 e v
          · exact h3 e z)
theorem ok_exp (h : A.ok) (x : Int32) : (o_exp A x).1.ok := by
  unfold o_exp
  cases e1 : ix x 3 with
  | none => exact h
  | some t =>
    simp only
    cases e2 : A.tb t with
    | none => exact h
    | some q =>
      obtain ⟨ty, n, it⟩ := q
      obtain ⟨h1, h2, h3⟩ := h.tb t ty n it e2
      simp only
      by_cases hty : ty = 2
      · rw [if_pos hty]; exact h
      · rw [if_neg hty]
        exact ok_sE h h1 h2 (fun e => absurd e hty)
end OKO
