/-! WHAT A PICTURE HAS STAYS POSSIBLE: solving lines, propagating, probing and searching lose no full solution -/
/-- the picture's colors are candidates -/
def CON (P : Pz) (u f : Nat → Nat) : Prop := ∀ x, x < P.r * P.c → (f x).testBit (u x) = true
/-- the picture fits the clues -/
def SOLV (P : Pz) (u : Nat → Nat) : Prop := (∀ x, x < P.r * P.c → u x ≤ P.k) ∧ ∀ i, i < P.r + P.c → wyL P (fun x => 2 ^ u x) i ≠ 0
theorem sol_line {P : Pz} {u f : Nat → Nat} {i : Nat} (hP : P.ok) (hs : SOLV P u) (hc : CON P u f) (hi : i < P.r + P.c) : ∃ t, t ∈ asL P f i ∧ ∀ p, p < lnLen P.r P.c i → t.getD p 0 = u (lnCell P.r P.c i p) := by
  obtain ⟨t, ht⟩ := mem_wy.mp (hs.2 i hi)
  have h1 : ∀ t ∈ asL P (fun x => 2 ^ u x) i, ∀ p, p < lnLen P.r P.c i → t.getD p 0 = u (lnCell P.r P.c i p) := fun t ht p hp => tb_pow.mp (asL_mk hP ht hp)
  exact ⟨t, asL_of hP (fun t ht p hp => by rw [h1 t ht p hp]; exact hc _ (lnCell_lt hi hp)) t ht, h1 t ht⟩
theorem CON.w {P : Pz} {u f : Nat → Nat} {i : Nat} (hc : CON P u f) (hP : P.ok) (hs : SOLV P u) (hi : i < P.r + P.c) : wyL P f i ≠ 0 := by
  obtain ⟨t, ht, -⟩ := sol_line hP hs hc hi
  exact mem_wy.mpr ⟨t, ht⟩
theorem CON.line {P : Pz} {u f : Nat → Nat} {i : Nat} (hc : CON P u f) (hP : P.ok) (hs : SOLV P u) (hi : i < P.r + P.c) : CON P u (lnS P f i) := by
  obtain ⟨t, ht, hp⟩ := sol_line hP hs hc hi
  intro x hx
  by_cases h : ∃ q, q < lnLen P.r P.c i ∧ x = lnCell P.r P.c i q
  · obtain ⟨q, hq, rfl⟩ := h
    rw [lnS_at hP.c1 hq, kpL_tb]
    have h1 := hs.1 _ hx
    have h2 := hP.k3
    exact ⟨by omega, snL_mem.mpr ⟨t, ht, hp q hq⟩⟩
  · rw [lnS_out (fun q hq e => h ⟨q, hq, e⟩)]
    exact hc x hx
theorem con_pas {P : Pz} {u : Nat → Nat} (hP : P.ok) (hs : SOLV P u) : ∀ (d : Nat) (f : Nat → Nat), d ≤ P.r + P.c → CON P u f → ∃ g, pas P f d = .inr g ∧ CON P u g := by
  intro d
  induction d with
  | zero => intro f _ hc; exact ⟨f, by unfold pas; rfl, hc⟩
  | succ d ih =>
    intro f hd hc
    have hi : P.r + P.c - (d + 1) < P.r + P.c := by omega
    obtain ⟨g, hg, hcg⟩ := ih _ (by omega) (hc.line hP hs hi)
    exact ⟨g, by unfold pas; rw [if_neg (hc.w hP hs hi)]; exact hg, hcg⟩
theorem con_spr {P : Pz} {u : Nat → Nat} (hP : P.ok) (hs : SOLV P u) : ∀ (w : Nat) (f : Nat → Nat), WT P f = w → CON P u f → ∃ g n, spr P f = .inr (g, n) ∧ CON P u g := by
  intro w
  induction w using Nat.strongRecOn with
  | _ w ih =>
    intro f hw hc
    obtain ⟨g, hg, hcg⟩ := con_pas hP hs _ f (Nat.le_refl _) hc
    by_cases hlt : WT P g < WT P f
    · obtain ⟨z, n, hz, hcz⟩ := ih (WT P g) (by omega) g rfl hcg
      exact ⟨z, n + 1, (spr_on hg hlt).2 z n hz, hcz⟩
    · exact ⟨g, 1, spr_end hg hlt, hcg⟩
theorem CON.up {P : Pz} {u f : Nat → Nat} {x v : Nat} (hc : CON P u f) (hv : v.testBit (u x) = true) : CON P u (upf f x v) := fun z hz => by
  by_cases e : z = x
  · rw [e, upf_s]; exact hv
  · rw [upf_n e]; exact hc z hz
theorem clr_keep {U j k : Nat} (h : U.testBit k = true) (hk : k < 16) (hj : k ≠ j) : (clr U j).testBit k = true := by
  unfold clr
  rw [bm_tb]
  simp [h, hk, hj]
theorem con_prS {P : Pz} {u f : Nat → Nat} {n x k : Nat} (hP : P.ok) (hs : SOLV P u) (hx : x < P.r * P.c) (hc : CON P u f) : ∃ g m, prS P f n x k = .inr (g, m) ∧ CON P u g := by
  unfold prS
  by_cases h : fls P f x k
  · rw [cif_t h]
    have hne : u x ≠ k := fun e => by
      obtain ⟨-, -, j, hj⟩ := h
      obtain ⟨g, m, hg, -⟩ := con_spr hP hs _ (upf f x (2 ^ k)) rfl (hc.up (by rw [e]; exact tb_pow.mpr rfl))
      rw [hg] at hj
      cases hj
    have h1 := hs.1 _ hx
    have h2 := hP.k3
    obtain ⟨g, m, hg, hcg⟩ := con_spr hP hs _ (upf f x (clr (f x) k)) rfl (hc.up (clr_keep (hc x hx) (by omega) hne))
    rw [hg]
    exact ⟨g, n + 1, rfl, hcg⟩
  · rw [cif_f h]
    exact ⟨f, n, rfl, hc⟩
theorem con_prK {P : Pz} {u : Nat → Nat} {x : Nat} (hP : P.ok) (hs : SOLV P u) (hx : x < P.r * P.c) : ∀ (d : Nat) (f : Nat → Nat) (n : Nat), CON P u f → ∃ g m, prK P x d f n = .inr (g, m) ∧ CON P u g := by
  intro d
  induction d with
  | zero => intro f n hc; exact ⟨f, n, by unfold prK; rfl, hc⟩
  | succ d ih =>
    intro f n hc
    obtain ⟨g, m, hg, hcg⟩ := con_prS (n := n) (k := P.k + 1 - (d + 1)) hP hs hx hc
    obtain ⟨h, o, hh, hch⟩ := ih g m hcg
    exact ⟨h, o, by unfold prK; rw [hg]; exact hh, hch⟩
theorem con_prX {P : Pz} {u : Nat → Nat} (hP : P.ok) (hs : SOLV P u) : ∀ (d : Nat) (f : Nat → Nat) (n : Nat), d ≤ P.r * P.c → CON P u f → ∃ g m, prX P d f n = .inr (g, m) ∧ CON P u g := by
  intro d
  induction d with
  | zero => intro f n _ hc; exact ⟨f, n, by unfold prX; rfl, hc⟩
  | succ d ih =>
    intro f n hd hc
    obtain ⟨g, m, hg, hcg⟩ := con_prK (x := P.r * P.c - (d + 1)) hP hs (by omega) (P.k + 1) f n hc
    obtain ⟨h, o, hh, hch⟩ := ih g m (by omega) hcg
    exact ⟨h, o, by unfold prX; rw [hg]; exact hh, hch⟩
theorem con_prA {P : Pz} {u : Nat → Nat} (hP : P.ok) (hs : SOLV P u) : ∀ (w : Nat) (f : Nat → Nat) (n : Nat), WT P f = w → CON P u f → ∃ g m, prA P f n = .inr (g, m) ∧ CON P u g := by
  intro w
  induction w using Nat.strongRecOn with
  | _ w ih =>
    intro f n hw hc
    obtain ⟨g, m, hg, hcg⟩ := con_prX hP hs _ f n (Nat.le_refl _) hc
    by_cases hlt : WT P g < WT P f
    · obtain ⟨z, o, hz, hcz⟩ := ih (WT P g) (by omega) g m rfl hcg
      exact ⟨z, o, by rw [prA_at hg, if_pos hlt]; exact hz, hcz⟩
    · exact ⟨g, m, by rw [prA_at hg, if_neg hlt], hcg⟩
/-! the search: what one visit does to the number found and the grid of the last one found -/
def VM (R R' : Rs) : Prop := R.2.1 ≤ R'.2.1 ∧ (R.2.2.1 = true → R'.2.2.1 = true) ∧ (R'.2.1 = R.2.1 → R'.2.2.2 = R.2.2.2)
theorem VM.refl (R : Rs) : VM R R := ⟨Nat.le_refl _, id, fun _ => rfl⟩
theorem VM.trans {R S T : Rs} (a : VM R S) (b : VM S T) : VM R T := ⟨Nat.le_trans a.1 b.1, fun h => b.2.1 (a.2.1 h), fun h => by
  have h1 := a.1
  have h2 := b.1
  rw [b.2.2 (by omega), a.2.2 (by omega)]⟩
theorem VM.not {R R' : Rs} (a : VM R R') (h : R'.2.2.1 = false) : R.2.2.1 = false := by
  cases h1 : R.2.2.1 with
  | false => rfl
  | true => rw [a.2.1 h1] at h; cases h
theorem chF_vm {P : Pz} {lim x : Nat} {g : Nat → Nat} {v : (Nat → Nat) → Rs → Rs} (hv : ∀ f R, VM R (v f R)) : ∀ (e : Nat) (R : Rs), VM R (chF P lim v g x e R) := by
  intro e
  induction e with
  | zero => intro R; exact VM.refl R
  | succ e ih =>
    intro R
    unfold chF
    split
    · exact VM.refl R
    · split
      · exact (hv _ R).trans (ih _)
      · exact ih R
theorem vis_vm {P : Pz} {ρ lim : Nat} : ∀ (d : Nat) (f : Nat → Nat) (R : Rs), VM R (vis P ρ lim d f R) := by
  intro d
  induction d with
  | zero => intro f R; exact ⟨Nat.le_refl _, fun _ => rfl, fun _ => rfl⟩
  | succ d ih =>
    intro f R
    unfold vis
    split
    · exact ⟨Nat.le_refl _, fun _ => rfl, fun _ => rfl⟩
    · split
      · exact ⟨Nat.le_refl _, id, fun _ => rfl⟩
      · split
        · exact ⟨Nat.le_succ _, id, fun h => absurd h (Nat.succ_ne_self _)⟩
        · exact VM.trans (S := (R.1 + 1, R.2)) ⟨Nat.le_refl _, id, fun _ => rfl⟩ (chF_vm ih _ _)
/-- no more than the limit is found -/
theorem chF_le {P : Pz} {lim x : Nat} {g : Nat → Nat} {v : (Nat → Nat) → Rs → Rs} (hv : ∀ f R, R.2.1 < lim → (v f R).2.1 ≤ lim) : ∀ (e : Nat) (R : Rs), R.2.1 ≤ lim → (chF P lim v g x e R).2.1 ≤ lim := by
  intro e
  induction e with
  | zero => intro R h; exact h
  | succ e ih =>
    intro R h
    unfold chF
    split
    · exact h
    · rename_i hs
      split
      · exact ih _ (hv _ R (Nat.lt_of_not_le (fun z => hs (Or.inr z))))
      · exact ih R h
theorem vis_le {P : Pz} {ρ lim : Nat} : ∀ (d : Nat) (f : Nat → Nat) (R : Rs), R.2.1 < lim → (vis P ρ lim d f R).2.1 ≤ lim := by
  intro d
  induction d with
  | zero => intro f R h; exact Nat.le_of_lt h
  | succ d ih =>
    intro f R h
    unfold vis
    split
    · exact Nat.le_of_lt h
    · split
      · exact Nat.le_of_lt h
      · split
        · exact h
        · exact chF_le ih _ _ (Nat.le_of_lt h)
/-- the picture is found, or two are found -/
def VC (P : Pz) (u : Nat → Nat) (lim : Nat) (R R' : Rs) : Prop := R'.2.2.1 = false → R'.2.1 < lim → (R'.2.1 = R.2.1 + 1 ∧ ∀ x, x < P.r * P.c → R'.2.2.2 x = 2 ^ u x) ∨ R.2.1 + 2 ≤ R'.2.1
theorem chF_vc {P : Pz} {u : Nat → Nat} {lim x : Nat} {g : Nat → Nat} {v : (Nat → Nat) → Rs → Rs} (hv : ∀ f R, VM R (v f R)) (hc : ∀ R, VC P u lim R (v (upf g x (2 ^ u x)) R)) (hg : (g x).testBit (u x) = true) : ∀ (e : Nat) (R : Rs), e ≤ P.k + 1 → P.k + 1 - e ≤ u x → u x ≤ P.k → VC P u lim R (chF P lim v g x e R) := by
  intro e
  induction e with
  | zero => intro R _ h1 h2; omega
  | succ e ih =>
    intro R he h1 h2 hn hl
    unfold chF at hn hl ⊢
    by_cases hs : R.2.2.1 = true ∨ lim ≤ R.2.1
    · rw [if_pos hs] at hn hl
      rcases hs with hs | hs
      · rw [hs] at hn; cases hn
      · omega
    · rw [if_neg hs] at hn hl ⊢
      by_cases e1 : P.k + 1 - (e + 1) = u x
      · rw [e1, if_pos hg] at hn hl ⊢
        have hm := chF_vm (P := P) (lim := lim) (g := g) (x := x) hv e (v (upf g x (2 ^ u x)) R)
        have h3 := hm.1
        rcases hc R (hm.not hn) (Nat.lt_of_le_of_lt hm.1 hl) with ⟨a, b⟩ | a
        · by_cases e2 : (chF P lim v g x e (v (upf g x (2 ^ u x)) R)).2.1 = (v (upf g x (2 ^ u x)) R).2.1
          · exact Or.inl ⟨e2.trans a, fun z hz => by rw [hm.2.2 e2]; exact b z hz⟩
          · exact Or.inr (by omega)
        · exact Or.inr (by omega)
      · by_cases hb : (g x).testBit (P.k + 1 - (e + 1)) = true
        · rw [if_pos hb] at hn hl ⊢
          have hm := hv (upf g x (2 ^ (P.k + 1 - (e + 1)))) R
          have h3 := hm.1
          rcases ih _ (by omega) (by omega) h2 hn hl with ⟨a, b⟩ | a
          · by_cases e2 : (v (upf g x (2 ^ (P.k + 1 - (e + 1)))) R).2.1 = R.2.1
            · exact Or.inl ⟨by omega, b⟩
            · exact Or.inr (by omega)
          · exact Or.inr (by omega)
        · rw [if_neg hb] at hn hl ⊢
          exact ih R (by omega) (by omega) h2 hn hl
theorem dec_pt {P : Pz} {u g : Nat → Nat} (hg : GF P g) (hc : CON P u g) (h : ∀ x, x < P.r * P.c → pc4 (g x) = 1) : ∀ x, x < P.r * P.c → g x = 2 ^ u x := fun x hx => by
  have h1 := clo_le _ (hg x hx).2 (h x hx)
  have h2 := (pw_bit _ (hg x hx).2 (h x hx) (u x) (tb_lt4 (hg x hx).2 (hc x hx))).mp (hc x hx)
  rw [h2]
  exact h1.2
theorem sm_dec {P : Pz} {g : Nat → Nat} : sm (dc1 g) (P.r * P.c) = P.r * P.c ↔ ∀ x, x < P.r * P.c → pc4 (g x) = 1 := by
  rw [sm_all _ (fun j _ => dc1_le g j)]
  refine ⟨fun h x hx => ?_, fun h x hx => if_pos (h x hx)⟩
  have h1 := h x hx
  unfold dc1 at h1
  by_cases e : pc4 (g x) = 1
  · exact e
  · rw [if_neg e] at h1; cases h1
theorem vis_vc {P : Pz} {u : Nat → Nat} {ρ lim : Nat} (hP : P.ok) (hs : SOLV P u) : ∀ (d : Nat) (f : Nat → Nat) (R : Rs), GF P f → CON P u f → VC P u lim R (vis P ρ lim d f R) := by
  intro d
  induction d with
  | zero => intro f R _ _ hn; cases hn
  | succ d ih =>
    intro f R hf hc hn hl
    unfold vis at hn hl ⊢
    by_cases h60 : R.1 = 60
    · rw [if_pos h60] at hn; cases hn
    · rw [if_neg h60] at hn hl ⊢
      obtain ⟨g, n, hg, hcg⟩ := con_spr hP hs _ f rfl hc
      have hgf := (spr_ok hP _ f g n rfl hf hg).1
      rw [hg] at hn hl ⊢
      simp only at hn hl ⊢
      by_cases hd : sm (dc1 g) (P.r * P.c) = P.r * P.c
      · rw [if_pos hd] at hn hl ⊢
        exact Or.inl ⟨rfl, dec_pt hgf hcg (sm_dec.mp hd)⟩
      · rw [if_neg hd] at hn hl ⊢
        have hx := sel_ok (ρ := ρ) hd
        have hux := hs.1 _ hx.1
        have hk3 := hP.k3
        have h2 : 2 ^ u (sel P ρ g) < 16 := Nat.lt_of_le_of_lt (Nat.pow_le_pow_right (by decide) (show u (sel P ρ g) ≤ 3 by omega)) (by decide)
        exact chF_vc (vis_vm d) (fun R => ih _ R (hgf.upf (Nat.one_le_two_pow) h2) (hcg.up (tb_pow.mpr rfl))) (hcg _ hx.1) (P.k + 1) (R.1 + 1, R.2) (Nat.le_refl _) (by omega) hux hn hl
/-- limit 1 and limit 2: the same until one is found -/
def VD (R1 R2 : Rs) : Prop := (R2.2.1 = 0 ∧ R1 = R2) ∨ (R1.2.1 = 1 ∧ R1.2.2.1 = false ∧ 1 ≤ R2.2.1 ∧ (R2.2.1 = 1 → R2.2.2.2 = R1.2.2.2))
theorem chF_vd {P : Pz} {x : Nat} {g : Nat → Nat} {v1 v2 : (Nat → Nat) → Rs → Rs} (hv : ∀ f R, VM R (v2 f R)) (h : ∀ f R, R.2.1 = 0 → R.2.2.1 = false → VD (v1 f R) (v2 f R)) : ∀ (e : Nat) (R : Rs), R.2.1 = 0 → VD (chF P 1 v1 g x e R) (chF P 2 v2 g x e R) := by
  intro e
  induction e with
  | zero => intro R h0; exact Or.inl ⟨h0, rfl⟩
  | succ e ih =>
    intro R h0
    cases hl : R.2.2.1 with
    | true =>
      rw [chF_stop (Or.inl hl), chF_stop (Or.inl hl)]
      exact Or.inl ⟨h0, rfl⟩
    | false =>
      have hs1 : ¬ (R.2.2.1 = true ∨ 1 ≤ R.2.1) := by rw [hl, h0]; exact fun z => z.elim (fun y => by cases y) (fun y => by omega)
      have hs2 : ¬ (R.2.2.1 = true ∨ 2 ≤ R.2.1) := by rw [hl, h0]; exact fun z => z.elim (fun y => by cases y) (fun y => by omega)
      unfold chF
      rw [if_neg hs1, if_neg hs2]
      by_cases hb : (g x).testBit (P.k + 1 - (e + 1)) = true
      · rw [if_pos hb, if_pos hb]
        rcases h (upf g x (2 ^ (P.k + 1 - (e + 1)))) R h0 hl with ⟨a, b⟩ | ⟨a, b, c, d⟩
        · rw [b]
          exact ih _ a
        · have hm := chF_vm (P := P) (lim := 2) (g := g) (x := x) hv e (v2 (upf g x (2 ^ (P.k + 1 - (e + 1)))) R)
          have h1 := hm.1
          rw [chF_stop (Or.inr (Nat.le_of_eq a.symm))]
          refine Or.inr ⟨a, b, by omega, fun z => ?_⟩
          rw [hm.2.2 (by omega)]
          exact d (by omega)
      · rw [if_neg hb, if_neg hb]
        exact ih R h0
theorem vis_vd {P : Pz} {ρ : Nat} : ∀ (d : Nat) (f : Nat → Nat) (R : Rs), R.2.1 = 0 → R.2.2.1 = false → VD (vis P ρ 1 d f R) (vis P ρ 2 d f R) := by
  intro d
  induction d with
  | zero => intro f R h0 _; exact Or.inl ⟨h0, rfl⟩
  | succ d ih =>
    intro f R h0 hl
    unfold vis
    by_cases h60 : R.1 = 60
    · rw [if_pos h60, if_pos h60]; exact Or.inl ⟨h0, rfl⟩
    · rw [if_neg h60, if_neg h60]
      cases hg : spr P f with
      | inl j => exact Or.inl ⟨h0, rfl⟩
      | inr q =>
        obtain ⟨g, n⟩ := q
        simp only
        by_cases hd : sm (dc1 g) (P.r * P.c) = P.r * P.c
        · rw [if_pos hd, if_pos hd]
          exact Or.inr ⟨by show R.2.1 + 1 = 1; omega, hl, by show 1 ≤ R.2.1 + 1; omega, fun _ => rfl⟩
        · rw [if_neg hd, if_neg hd]
          exact chF_vd (vis_vm d) ih _ _ h0
/-! the operations, on a state that holds a picture -/
def INV (A : Ab) (u : Nat → Nat) (r c : Nat) : Prop := A.ok ∧ A.P.r = r ∧ A.P.c = c ∧ SOLV A.P u ∧ CON A.P u A.f
theorem cl_at {A : Ab} {i j : Nat} (hP : A.P.ok) (hi : i < A.P.r) (hj : j < A.P.c) : A.cl (nI i) (nI j) = some (i, j) := by
  have := hP.r8
  have := hP.c8
  unfold Ab.cl
  rw [ix_at (by omega) hi, ix_at (by omega) hj]
theorem iw_at {a b k : Nat} (hb : b < 2 ^ 31) (h1 : a ≤ k) (h2 : k ≤ b) : iw (nI k) a b = some k := by
  unfold iw
  rw [if_pos ⟨(nI_leI (by omega) (by omega)).mpr h1, (nI_leI (by omega) hb).mpr h2⟩, nI_clamp (by omega)]
theorem INV.cell {A : Ab} {u : Nat → Nat} {r c i j : Nat} (h : INV A u r c) (hi : i < r) (hj : j < c) : i * c + j < A.P.r * A.P.c := by
  rw [h.2.1, h.2.2.1]; exact cel_lt hi hj
theorem INV.cand {A : Ab} {u : Nat → Nat} {r c i j : Nat} (h : INV A u r c) (hi : i < r) (hj : j < c) : ∃ m, o_cand A (nI i) (nI j) = (A, nI m) ∧ m < 16 ∧ m.testBit (u (i * c + j)) = true ∧ u (i * c + j) ≤ 3 := by
  have hx := h.cell hi hj
  have h1 := h.1.f _ hx
  have h2 := h.2.2.2.1.1 _ hx
  have h3 := h.1.P.k3
  refine ⟨A.f (i * c + j), ?_, h1.2, h.2.2.2.2 _ hx, by omega⟩
  unfold o_cand
  rw [cl_at h.1.P (by rw [h.2.1]; exact hi) (by rw [h.2.2.1]; exact hj)]
  simp only
  rw [h.2.2.1]
theorem INV.keep {A : Ab} {u : Nat → Nat} {r c i j : Nat} (h : INV A u r c) (hi : i < r) (hj : j < c) : INV (o_keep A (nI i) (nI j) (nI (u (i * c + j)))).1 u r c ∧ ¬ (o_keep A (nI i) (nI j) (nI (u (i * c + j)))).2 < 0 := by
  have hx := h.cell hi hj
  have h2 := h.2.2.2.1.1 _ hx
  have h3 := h.1.P.k3
  have ho := ok_keep h.1 (nI i) (nI j) (nI (u (i * c + j)))
  have e : A.cn (nI i) (nI j) (nI (u (i * c + j))) = .inr (i * c + j, u (i * c + j)) := by
    unfold Ab.cn
    rw [cl_at h.1.P (by rw [h.2.1]; exact hi) (by rw [h.2.2.1]; exact hj)]
    simp only
    rw [iw_at (by omega) (Nat.zero_le _) h2]
    simp only
    rw [h.2.2.1, if_pos (h.2.2.2.2 _ hx)]
  have e2 : o_keep A (nI i) (nI j) (nI (u (i * c + j))) = (A.sG A.P (upf A.f (i * c + j) (2 ^ u (i * c + j))) A.ps, nI (pc4 (A.f (i * c + j)) - 1)) := by
    unfold o_keep
    rw [e]
  rw [e2] at ho ⊢
  refine ⟨⟨ho, h.2.1, h.2.2.1, h.2.2.2.1, h.2.2.2.2.up (tb_pow.mpr rfl)⟩, ?_⟩
  have := pc4_le (A.f (i * c + j))
  exact Int32.not_lt.mpr (nI_pos' (by omega))
theorem INV.prop {A : Ab} {u : Nat → Nat} {r c : Nat} (h : INV A u r c) : INV (o_prop A).1 u r c ∧ ¬ (o_prop A).2 < 0 := by
  obtain ⟨g, n, hg, hcg⟩ := con_spr h.1.P h.2.2.2.1 _ A.f rfl h.2.2.2.2
  have ho := ok_prop h.1
  have e : o_prop A = (A.sG A.P g A.ps, nI (WT A.P A.f - WT A.P g)) := by
    unfold o_prop
    rw [hg]
  rw [e] at ho ⊢
  refine ⟨⟨ho, h.2.1, h.2.2.1, h.2.2.2.1, hcg⟩, ?_⟩
  have := WT_le h.1.P (f := A.f)
  exact Int32.not_lt.mpr (nI_pos' (by omega))
theorem INV.all {A : Ab} {u : Nat → Nat} {r c : Nat} (h : INV A u r c) : INV (o_all A).1 u r c ∧ ¬ (o_all A).2 < 0 := by
  obtain ⟨g, n, hg, hcg⟩ := con_spr h.1.P h.2.2.2.1 _ A.f rfl h.2.2.2.2
  obtain ⟨z, m, hz, hcz⟩ := con_prA h.1.P h.2.2.2.1 _ g 0 rfl hcg
  have ho := ok_all h.1
  have e : o_all A = (A.sG A.P z A.ps, nI m) := by
    unfold o_all
    rw [hg]
    simp only
    rw [hz]
  rw [e] at ho ⊢
  obtain ⟨g1, -, g3, -⟩ := spr_ok h.1.P _ A.f g n rfl h.1.f hg
  have hW := WT_le h.1.P (f := g)
  have hm := ((prA_gf h.1.P _ g 0 rfl g1 g3 (by omega)).1 z m hz).2
  exact ⟨⟨ho, h.2.1, h.2.2.1, h.2.2.2.1, hcz⟩, Int32.not_lt.mpr (nI_pos' hm)⟩
/-- what the search says -/
theorem INV.uniq {A : Ab} {u : Nat → Nat} {r c : Nat} (h : INV A u r c) : (o_uniq A).1 = A ∧ ((o_uniq A).2 = nI 0 → o_cnt A (nI 2) = (A, nI 2)) ∧ ((o_uniq A).2 = nI 1 → ∀ i j, i < r → j < c → o_sol A (nI 0) (nI i) (nI j) = (A, nI (u (i * c + j)))) := by
  have hv := vis_vc (ρ := A.ru) (lim := 2) h.1.P h.2.2.2.1 60 A.f (0, 0, false, A.f) h.1.f h.2.2.2.2
  have hl : (A.sr 2).2.1 ≤ 2 := vis_le 60 A.f (0, 0, false, A.f) Nat.zero_lt_two
  have hd : VD (A.sr 1) (A.sr 2) := vis_vd 60 A.f (0, 0, false, A.f) rfl rfl
  change VC A.P u 2 (0, 0, false, A.f) (A.sr 2) at hv
  unfold VC at hv
  simp only [Nat.zero_add] at hv
  unfold o_uniq
  cases hn : (A.sr 2).2.2.1 with
  | true =>
    rw [if_pos rfl]
    exact ⟨rfl, fun z => absurd z (show ¬ ((-7 : Int32) = nI 0) by decide), fun z => absurd z (show ¬ ((-7 : Int32) = nI 1) by decide)⟩
  | false =>
    rw [if_neg (by decide)]
    by_cases h1 : (A.sr 2).2.1 = 1
    · rw [if_pos h1]
      refine ⟨rfl, fun z => absurd z (show ¬ (nI 1 = nI 0) by decide), fun _ i j hi hj => ?_⟩
      have hx := h.cell hi hj
      have h2 := h.2.2.2.1.1 _ hx
      have h3 := h.1.P.k3
      rcases hv hn (by omega) with ⟨-, b⟩ | b
      · rcases hd with ⟨a, -⟩ | ⟨d1, d2, d3, d4⟩
        · omega
        · unfold o_sol
          rw [iw_at (by decide) (Nat.zero_le _) (by decide)]
          simp only
          rw [cl_at h.1.P (by rw [h.2.1]; exact hi) (by rw [h.2.2.1]; exact hj)]
          simp only [Nat.zero_add]
          rw [if_neg (by rw [d2]; decide), if_pos (by omega), ← d4 h1, h.2.2.1, b _ hx]
          have key : ∀ k, k ≤ 3 → clo (2 ^ k) = k := by decide
          rw [key _ (by omega)]
      · omega
    · rw [if_neg h1]
      refine ⟨rfl, fun _ => ?_, fun z => absurd z (show ¬ (nI 0 = nI 1) by decide)⟩
      unfold o_cnt
      rw [iw_at (by decide) (by decide) (by decide)]
      simp only
      rw [if_neg (by rw [hn]; decide)]
      have : (A.sr 2).2.1 = 2 := by
        rcases Nat.lt_or_ge (A.sr 2).2.1 2 with z | z
        · rcases hv hn z with ⟨a, -⟩ | a <;> omega
        · omega
      rw [this]
/-! a drawn picture -/
theorem drC_k {s : Int32} {k x : Nat} : drC s k x ≤ k := Nat.le_of_lt_succ (Nat.mod_lt _ (Nat.succ_pos _))
theorem pc4_pow : ∀ k, k ≤ 3 → pc4 (2 ^ k) = 1 ∧ clo (2 ^ k) = k ∧ 1 ≤ 2 ^ k ∧ 2 ^ k < 16 := by decide
theorem pic_solv {P : Pz} {u : Nat → Nat} (hP : P.ok) (hu : ∀ x, x < P.r * P.c → u x ≤ P.k) : SOLV (pcP P (fun x => 2 ^ u x)) u := by
  have hk3 := hP.k3
  have hp : ∀ x, x < P.r * P.c → pc4 (2 ^ u x) = 1 ∧ clo (2 ^ u x) = u x ∧ 1 ≤ 2 ^ u x ∧ 2 ^ u x < 16 := fun x hx => pc4_pow _ (Nat.le_trans (hu x hx) hk3)
  have hf : GF P (fun x => 2 ^ u x) := fun x hx => (hp x hx).2.2
  have hg := pcP_gd hP hf
  refine ⟨hu, fun i hi => ?_⟩
  exact (wyL_match hg.1 hg.2.1 hi (fun x hx => (hp x hx).1)).mpr ⟨(if_pos hi : (pcP P (fun x => 2 ^ u x)).R i = _).symm, fun t _ => ⟨rfl, rfl⟩⟩
/-- a state with a picture that all cells show -/
def DRW (A : Ab) (u : Nat → Nat) (r c : Nat) : Prop := INV A u r c ∧ ∀ x, x < r * c → A.f x = 2 ^ u x
theorem DRW.pc {A : Ab} {u : Nat → Nat} {r c x : Nat} (h : DRW A u r c) (hx : x < r * c) : pc4 (A.f x) = 1 ∧ clo (A.f x) = u x := by
  have hx' : x < A.P.r * A.P.c := by rw [h.1.2.1, h.1.2.2.1]; exact hx
  have h1 := h.1.2.2.2.1.1 _ hx'
  have h2 := h.1.1.P.k3
  rw [h.2 x hx]
  have h3 := pc4_pow (u x) (by omega)
  exact ⟨h3.1, h3.2.1⟩
theorem DRW.dec {A : Ab} {u : Nat → Nat} {r c : Nat} (h : DRW A u r c) : sm (dc1 A.f) (A.P.r * A.P.c) = A.P.r * A.P.c := sm_dec.mpr (fun x hx => (h.pc (by rw [h.1.2.1, h.1.2.2.1] at hx; exact hx)).1)
theorem DRW.color {A : Ab} {u : Nat → Nat} {r c i j : Nat} (h : DRW A u r c) (hi : i < r) (hj : j < c) : o_color A (nI i) (nI j) = (A, nI (u (i * c + j))) := by
  have h1 := h.pc (cel_lt hi hj)
  unfold o_color
  rw [cl_at h.1.1.P (by rw [h.1.2.1]; exact hi) (by rw [h.1.2.2.1]; exact hj)]
  simp only
  rw [h.1.2.2.1, if_pos h1.1, h1.2]
theorem DRW.fm {A : Ab} {u : Nat → Nat} {r c : Nat} (h : DRW A u r c) : o_fm A = (A, -8) := by
  have key : ∀ d, d ≤ A.P.r + A.P.c → fmT A.P A.f d = -8 := by
    intro d
    induction d with
    | zero => intro _; rfl
    | succ d ih =>
      intro hd
      unfold fmT
      rw [if_neg (h.1.2.2.2.2.w h.1.1.P h.1.2.2.2.1 (by omega))]
      exact ih (by omega)
  unfold o_fm
  rw [if_pos h.dec]
  unfold Ab.N
  rw [key _ (Nat.le_refl _)]
theorem DRW.uniq {A : Ab} {u : Nat → Nat} {r c : Nat} (h : DRW A u r c) : o_uniq A = (A, nI 1) := by
  obtain ⟨g, n, hg, hcg⟩ := con_spr h.1.1.P h.1.2.2.2.1 _ A.f rfl h.1.2.2.2.2
  obtain ⟨g1, g2, -, -⟩ := spr_ok h.1.1.P _ A.f g n rfl h.1.1.f hg
  have hW : ∀ (f : Nat → Nat) (m : Nat), sm (fun x => pc4 (f x)) m ≤ m → (∀ x, x < m → 1 ≤ pc4 (f x)) → ∀ x, x < m → pc4 (f x) = 1 := by
    intro f m
    induction m with
    | zero => intro _ _ x hx; exact absurd hx (Nat.not_lt_zero x)
    | succ m ih =>
      intro h1 h2 x hx
      have low : ∀ m, (∀ x, x < m → 1 ≤ pc4 (f x)) → m ≤ sm (fun x => pc4 (f x)) m := by
        intro m
        induction m with
        | zero => intro _; exact Nat.zero_le _
        | succ m ih =>
          intro h
          have a := ih (fun x hx => h x (by omega))
          have b := h m (by omega)
          show m + 1 ≤ sm (fun x => pc4 (f x)) m + pc4 (f m)
          omega
      have h3 : sm (fun x => pc4 (f x)) m + pc4 (f m) ≤ m + 1 := h1
      have h4 := low m (fun x hx => h2 x (by omega))
      have h5 := h2 m (by omega)
      rcases Nat.lt_or_ge x m with z | z
      · exact ih (by omega) (fun x hx => h2 x (by omega)) x z
      · rw [show x = m by omega]; omega
  have hWA : WT A.P A.f ≤ A.P.r * A.P.c := by
    have h1 := sm_le (f := fun x => pc4 (A.f x)) (n := A.P.r * A.P.c) (b := 1) (fun x hx => Nat.le_of_eq (h.pc (by rw [h.1.2.1, h.1.2.2.1] at hx; exact hx)).1)
    unfold WT
    omega
  have hdg : sm (dc1 g) (A.P.r * A.P.c) = A.P.r * A.P.c := sm_dec.mpr (hW g _ (Nat.le_trans g2 hWA) (fun x hx => pc4_1 _ (g1 x hx).2 (g1 x hx).1))
  have e : A.sr 2 = (1, 1, false, g) := by
    unfold Ab.sr
    rw [show (60 : Nat) = 59 + 1 from rfl]
    unfold vis
    rw [if_neg (show ¬ (0 = 60) by decide), hg]
    simp only
    rw [if_pos hdg]
  unfold o_uniq
  rw [e]
  rfl
theorem DRW.clear {A : Ab} {u : Nat → Nat} {r c : Nat} (h : DRW A u r c) : INV (o_clear A).1 u r c ∧ (o_clear A).2 = nI (r * c) := by
  have ho := ok_clear h.1.1
  refine ⟨⟨ho, h.1.2.1, h.1.2.2.1, h.1.2.2.2.1, fun x hx => ?_⟩, ?_⟩
  · show (2 ^ (A.P.k + 1) - 1).testBit (u x) = true
    rw [Nat.testBit_two_pow_sub_one]
    exact decide_eq_true (Nat.lt_succ_of_le (h.1.2.2.2.1.1 x hx))
  · show nI (sm (dc1 A.f) (A.P.r * A.P.c)) = _
    rw [h.dec, h.1.2.1, h.1.2.2.1]
/-- a picture is drawn -/
def drwA (A : Ab) (u : Nat → Nat) : Ab := A.sG (pcP A.P (fun x => 2 ^ u x)) (fun x => 2 ^ u x) []
theorem drwA_ok {A : Ab} {u : Nat → Nat} (h : (drwA A u).ok) (hP : A.P.ok) (hu : ∀ x, x < A.P.r * A.P.c → u x ≤ A.P.k) : DRW (drwA A u) u A.P.r A.P.c :=
  ⟨⟨h, rfl, rfl, pic_solv hP hu, fun x _ => tb_pow.mpr rfl⟩, fun x _ => rfl⟩
theorem draw_at {A : Ab} {s : Int32} : o_draw A s = (drwA A (drC s A.P.k), nI (sm (fun x => if drC s A.P.k x = 0 then 0 else 1) (A.P.r * A.P.c))) := by
  unfold o_draw drwA
  rfl
theorem draw_drw {A : Ab} {s : Int32} (h : A.ok) : DRW (o_draw A s).1 (drC s A.P.k) A.P.r A.P.c ∧ ¬ (o_draw A s).2 < 0 := by
  have ho := ok_draw h s
  have h64 := rc64 h.P.r8 h.P.c8
  rw [draw_at] at ho ⊢
  have h7 : ∀ x, drC s A.P.k x ≤ A.P.k := fun x => drC_k
  generalize drC s A.P.k = u at ho h7 ⊢
  have h5 := sm_le (f := fun x => if u x = 0 then 0 else 1) (n := A.P.r * A.P.c) (b := 1) (fun x _ => by split <;> omega)
  exact ⟨drwA_ok ho h.P (fun x _ => h7 x), Int32.not_lt.mpr (nI_pos' (by omega))⟩
/-- on a grid of r rows, c columns and k colors -/
theorem draw_ok {A : Ab} {r c k : Nat} {s : Int32} (hk : A.ok) (hr : 1 ≤ r ∧ r ≤ 8) (hc : 1 ≤ c ∧ c ≤ 8) (h3 : 1 ≤ k ∧ k ≤ 3) : (o_reset A (nI r) (nI c) (nI k)).2 = nI (r + c) ∧ DRW (o_draw (o_reset A (nI r) (nI c) (nI k)).1 s).1 (drC s k) r c ∧ ¬ (o_draw (o_reset A (nI r) (nI c) (nI k)).1 s).2 < 0 := by
  have h1 := ok_reset hk (nI r) (nI c) (nI k)
  have e : (o_reset A (nI r) (nI c) (nI k)).2 = nI (r + c) ∧ (o_reset A (nI r) (nI c) (nI k)).1.P.r = r ∧ (o_reset A (nI r) (nI c) (nI k)).1.P.c = c ∧ (o_reset A (nI r) (nI c) (nI k)).1.P.k = k := by
    unfold o_reset
    rw [iw_at (by decide) hr.1 hr.2]
    simp only
    rw [iw_at (by decide) hc.1 hc.2]
    simp only
    rw [iw_at (by decide) h3.1 h3.2]
    exact ⟨rfl, rfl, rfl, rfl⟩
  have h2 := draw_drw (s := s) h1
  rw [e.2.1, e.2.2.1, e.2.2.2] at h2
  exact ⟨e.1, h2⟩
