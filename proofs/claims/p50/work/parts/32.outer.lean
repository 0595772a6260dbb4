/-! THE CLASS'S OWN METHODS -/
def RES (M : Mem) (q : Ab × Int32) (v : Int32) (M' : Mem) : Prop := CR M' q.1 ∧ (∀ a, 140 ≤ a → M' a = M a) ∧ v = q.2
theorem RES.same {M : Mem} {A : Ab} {q : Ab × Int32} {v : Int32} (hC : CR M A) (e : q = (A, v)) : RES M q v M := by subst e; exact ⟨hC, fun _ _ => rfl, rfl⟩
theorem RES.to {M M1 : Mem} {A : Ab} {q : Ab × Int32} {v : Int32} (hC : CR M1 A) (hf : ∀ a, 140 ≤ a → M1 a = M a) (e : q = (A, v)) : RES M q v M1 := by subst e; exact ⟨hC, hf, rfl⟩
theorem RES.scr {M M1 : Mem} {A : Ab} {q : Ab × Int32} {v : Int32} (hC : CR M A) (hf : ∀ a, (a < 7 ∨ (13 ≤ a ∧ a < 69) ∨ (125 ≤ a ∧ a < 129) ∨ 134 ≤ a) → M1 a = M a) (e : q = (A, v)) : RES M q v M1 := .to (hC.fr (fun a h => hf a (by omega))) (fun a h => hf a (by omega)) e
theorem ln_no {A : Ab} {x : Int32} (h : ¬ (0 ≤ x ∧ x < nI (A.P.r + A.P.c))) : A.ln x = none := ix_no h
theorem ln_ok {A : Ab} {x : Int32} (hP : A.P.ok) (h : 0 ≤ x ∧ x < nI (A.P.r + A.P.c)) : ∃ i, i < A.P.r + A.P.c ∧ x = nI i ∧ A.ln x = some i := ix_ok (by have := hP.r8; have := hP.c8; omega) h
def erV (s : Int32 ⊕ (Nat × Nat)) : Int32 := match s with
  | .inl e => e
  | .inr _ => 0
theorem iw0 {x : Int32} {b : Nat} (hb : b < 2 ^ 31) (h : nI 0 ≤ x ∧ x ≤ nI b) : ∃ j, j ≤ b ∧ x = nI j ∧ iw x 0 b = some j := by
  obtain ⟨j, _, h2, h3, h4⟩ := iw_ok (by decide) hb h
  exact ⟨j, h2, h3, h4⟩
theorem cn_0 {A : Ab} {x z k : Int32} (hP : A.P.ok) (h : erV (A.cn x z k) = 0) : ∃ i j m, i < A.P.r ∧ j < A.P.c ∧ m ≤ A.P.k ∧ x = nI i ∧ z = nI j ∧ k = nI m ∧ (A.f (i * A.P.c + j)).testBit m = true ∧ A.cn x z k = .inr (i * A.P.c + j, m) := by
  unfold Ab.cn at h ⊢
  by_cases h1 : (0 ≤ x ∧ x < nI A.P.r) ∧ (0 ≤ z ∧ z < nI A.P.c)
  · obtain ⟨i, j, hi, hj, e1, e2, e3⟩ := cl_ok hP h1
    rw [e3] at h ⊢
    simp only at h ⊢
    by_cases h2 : nI 0 ≤ k ∧ k ≤ nI A.P.k
    · obtain ⟨m, hm, e4, e5⟩ := iw0 (by have := hP.k3; omega) h2
      rw [e5] at h ⊢
      simp only at h ⊢
      by_cases h3 : (A.f (i * A.P.c + j)).testBit m = true
      · exact ⟨i, j, m, hi, hj, hm, e1, e2, e4, h3, by rw [if_pos h3]⟩
      · rw [if_neg h3] at h; exact absurd h (by decide)
    · rw [iw_no h2] at h; exact absurd (show (-2 : Int32) = 0 from h) (by decide)
  · rw [cl_no h1] at h; exact absurd (show (-1 : Int32) = 0 from h) (by decide)
theorem cn_n {A : Ab} {x z k : Int32} (h : ¬ erV (A.cn x z k) = 0) : A.cn x z k = .inl (erV (A.cn x z k)) := by
  cases e : A.cn x z k with
  | inl u => rfl
  | inr u => rw [e] at h; exact absurd rfl h
theorem cn2_n {A : Ab} {x z k : Int32} (h : ¬ erV (A.cn2 x z k) = 0) : A.cn2 x z k = .inl (erV (A.cn2 x z k)) := by
  cases e : A.cn2 x z k with
  | inl u => rfl
  | inr u => rw [e] at h; exact absurd rfl h
theorem cn2_0 {A : Ab} {x z k : Int32} (hP : A.P.ok) (h : erV (A.cn2 x z k) = 0) : ∃ i j m, i < A.P.r ∧ j < A.P.c ∧ m ≤ A.P.k ∧ x = nI i ∧ z = nI j ∧ k = nI m ∧ (A.f (i * A.P.c + j)).testBit m = true ∧ pc4 (A.f (i * A.P.c + j)) ≠ 1 ∧ A.cn2 x z k = .inr (i * A.P.c + j, m) := by
  unfold Ab.cn2 at h ⊢
  by_cases h1 : erV (A.cn x z k) = 0
  · obtain ⟨i, j, m, hi, hj, hm, e1, e2, e4, h3, h4⟩ := cn_0 hP h1
    rw [h4] at h ⊢
    simp only at h ⊢
    by_cases h5 : pc4 (A.f (i * A.P.c + j)) = 1
    · rw [if_pos h5] at h; exact absurd h (by decide)
    · exact ⟨i, j, m, hi, hj, hm, e1, e2, e4, h3, h5, by rw [if_neg h5]⟩
  · rw [cn_n h1] at h
    exact absurd h h1
theorem tst_at : ∀ t, t < 3 → ([some 134, some 136, some 138] : List (Option Nat))[t]? = some (some (134 + 2 * t)) := by decide
theorem tst_t {Z : Lay} : ∀ t, t < 3 → isT (LYZ Z) (134 + 2 * t) := by
  intro t ht
  rcases (show t = 0 ∨ t = 1 ∨ t = 2 by omega) with rfl | rfl | rfl
  · exact (tO_134 (Z := Z))
  · exact (tO_136 (Z := Z))
  · exact (tO_138 (Z := Z))
def tE (A : Ab) (x : Int32) : Int32 := match ix x 3 with
  | none => -2
  | some t => match A.tb t with
    | none => -11
    | some _ => 0
theorem tE_0 {A : Ab} {x : Int32} (h : tE A x = 0) : ∃ t ty n it, t < 3 ∧ x = nI t ∧ ix x 3 = some t ∧ A.tb t = some (ty, n, it) := by
  unfold tE at h
  by_cases h1 : 0 ≤ x ∧ x < nI 3
  · obtain ⟨t, ht, e1, e2⟩ := ix_ok (by decide) h1
    rw [e2] at h
    simp only at h
    cases e : A.tb t with
    | none => rw [e] at h; exact absurd (show (-11 : Int32) = 0 from h) (by decide)
    | some q => obtain ⟨ty, n, it⟩ := q; exact ⟨t, ty, n, it, ht, e1, e2, e⟩
  · rw [ix_no h1] at h; exact absurd (show (-2 : Int32) = 0 from h) (by decide)
def eE (A : Ab) (x y : Int32) : Int32 := match ix x 3 with
  | none => -2
  | some t => match A.tb t with
    | none => -11
    | some (_, n, _) => match ix y n with
      | none => -13
      | some _ => 0
theorem eE_0 {A : Ab} {x y : Int32} (hk : A.ok) (h : eE A x y = 0) : ∃ t ty n it j, t < 3 ∧ x = nI t ∧ j < n ∧ y = nI j ∧ ix x 3 = some t ∧ A.tb t = some (ty, n, it) ∧ ix y n = some j := by
  unfold eE at h
  by_cases h1 : 0 ≤ x ∧ x < nI 3
  · obtain ⟨t, ht, e1, e2⟩ := ix_ok (by decide) h1
    rw [e2] at h
    simp only at h
    cases e : A.tb t with
    | none => rw [e] at h; exact absurd (show (-11 : Int32) = 0 from h) (by decide)
    | some q =>
      obtain ⟨ty, n, it⟩ := q
      rw [e] at h
      simp only at h
      by_cases h2 : 0 ≤ y ∧ y < nI n
      · obtain ⟨j, hj, e3, e4⟩ := ix_ok (by have := (hk.tb _ _ _ _ e).2.1; omega) h2
        exact ⟨t, ty, n, it, j, ht, e1, hj, e3, e2, e, e4⟩
      · rw [ix_no h2] at h; exact absurd (show (-13 : Int32) = 0 from h) (by decide)
  · rw [ix_no h1] at h; exact absurd (show (-2 : Int32) = 0 from h) (by decide)
theorem rtab_n {A : Ab} {x y : Int32} (h : ¬ eE A x y = 0) : o_rtab A x y = (A, eE A x y) := by
  unfold o_rtab
  unfold eE at h ⊢
  cases e : ix x 3 with
  | none => rfl
  | some t =>
    rw [e] at h
    simp only at h ⊢
    cases e2 : A.tb t with
    | none => rfl
    | some q =>
      obtain ⟨ty, n, it⟩ := q
      rw [e2] at h
      simp only at h ⊢
      cases e3 : ix y n with
      | none => rfl
      | some j => rw [e3] at h; exact absurd rfl h
theorem wtab_n {A : Ab} {x y v : Int32} (h : ¬ eE A x y = 0) : o_wtab A x y v = (A, eE A x y) := by
  unfold o_wtab
  unfold eE at h ⊢
  cases e : ix x 3 with
  | none => rfl
  | some t =>
    rw [e] at h
    simp only at h ⊢
    cases e2 : A.tb t with
    | none => rfl
    | some q =>
      obtain ⟨ty, n, it⟩ := q
      rw [e2] at h
      simp only at h ⊢
      cases e3 : ix y n with
      | none => rfl
      | some j => rw [e3] at h; exact absurd rfl h
theorem exp_n {A : Ab} {x : Int32} (h : ¬ tE A x = 0) : o_exp A x = (A, tE A x) := by
  unfold o_exp
  unfold tE at h ⊢
  cases e : ix x 3 with
  | none => rfl
  | some t =>
    rw [e] at h
    simp only at h ⊢
    cases e2 : A.tb t with
    | none => rfl
    | some q => rw [e2] at h; exact absurd rfl h
theorem cmp_n {A : Ab} {x : Int32} (h : ¬ tE A x = 0) : o_cmp A x = (A, tE A x) := by
  unfold o_cmp
  unfold tE at h ⊢
  cases e : ix x 3 with
  | none => rfl
  | some t =>
    rw [e] at h
    simp only at h ⊢
    cases e2 : A.tb t with
    | none => rfl
    | some q => rw [e2] at h; exact absurd rfl h
set_option maxHeartbeats 4000000 in
set_option maxRecDepth 100000 in
theorem k_X9_rowCount {Z : Lay} {l : Launch} {G : Gd} {b0 : Nat} {M : Mem} {A : Ab}  (hC : CR M A) (hk : A.ok)  : Ct l G b0 yX9_rowCount cX9_rowCount 1 (some .int) (rmZ 0 0) (LYZ Z) (LYZ Z) M [.ref (b0 + 0)] (fun v M' => RES M (o_rows A) v M') := by
  obtain ⟨⟨g0, g1, g2, gcu, gce⟩, hru, hbl, hbd, hsn, hss, ⟨nx, hnx, hx1, hx2, hx3⟩, ⟨htl, htx⟩, ⟨hfl, hfo⟩, htb⟩ := id hC
  have hP := hk.P
  have hr1 := hP.r1
  have hr8 := hP.r8
  have hc1 := hP.c1
  have hc8 := hP.c8
  have hk1 := hP.k1
  have hk3 := hP.k3
  have h64 := rc64 hr8 hc8
  have hH8 := hk.H8
  have hN : A.N = A.P.r + A.P.c := rfl
  refine Ct.of [some (.ref (b0 + 0))] (by decide) (Nat.le_of_ble_eq_true rfl) rfl rfl ?_
  refine S_aload_0 (q := 1) dX9_rowCount_0 rfl ?_
  refine S_getR (q := 4) dX9_rowCount_1 fl_X9_12 (by first | assumption | rfl) (by rfl) rfl ?_
  refine S_getI (q := 7) dX9_rowCount_4 fl_X9_115 (by first | assumption | rfl) (by rfl) rfl ?_
  exact S_iret rfl dX9_rowCount_7 rfl rfl (RES.same hC (by rw [g0]; rfl))
set_option maxHeartbeats 4000000 in
set_option maxRecDepth 100000 in
theorem k_X9_columnCount {Z : Lay} {l : Launch} {G : Gd} {b0 : Nat} {M : Mem} {A : Ab}  (hC : CR M A) (hk : A.ok)  : Ct l G b0 yX9_columnCount cX9_columnCount 1 (some .int) (rmZ 0 0) (LYZ Z) (LYZ Z) M [.ref (b0 + 0)] (fun v M' => RES M (o_cols A) v M') := by
  obtain ⟨⟨g0, g1, g2, gcu, gce⟩, hru, hbl, hbd, hsn, hss, ⟨nx, hnx, hx1, hx2, hx3⟩, ⟨htl, htx⟩, ⟨hfl, hfo⟩, htb⟩ := id hC
  have hP := hk.P
  have hr1 := hP.r1
  have hr8 := hP.r8
  have hc1 := hP.c1
  have hc8 := hP.c8
  have hk1 := hP.k1
  have hk3 := hP.k3
  have h64 := rc64 hr8 hc8
  have hH8 := hk.H8
  have hN : A.N = A.P.r + A.P.c := rfl
  refine Ct.of [some (.ref (b0 + 0))] (by decide) (Nat.le_of_ble_eq_true rfl) rfl rfl ?_
  refine S_aload_0 (q := 1) dX9_columnCount_0 rfl ?_
  refine S_getR (q := 4) dX9_columnCount_1 fl_X9_12 (by first | assumption | rfl) (by rfl) rfl ?_
  refine S_getI (q := 7) dX9_columnCount_4 fl_X9_118 (by first | assumption | rfl) (by rfl) rfl ?_
  exact S_iret rfl dX9_columnCount_7 rfl rfl (RES.same hC (by rw [g1]; rfl))
set_option maxHeartbeats 4000000 in
set_option maxRecDepth 100000 in
theorem k_X9_candidates {Z : Lay} {l : Launch} {G : Gd} {b0 : Nat} {M : Mem} {A : Ab} {x z : Int32}  (hC : CR M A) (hk : A.ok)  : Ct l G b0 yX9_candidates cX9_candidates 3 (some .int) (rmZ 2 44) (LYZ Z) (LYZ Z) M [.ref (b0 + 0), .int x, .int z] (fun v M' => RES M (o_cand A x z) v M') := by
  obtain ⟨⟨g0, g1, g2, gcu, gce⟩, hru, hbl, hbd, hsn, hss, ⟨nx, hnx, hx1, hx2, hx3⟩, ⟨htl, htx⟩, ⟨hfl, hfo⟩, htb⟩ := id hC
  have hP := hk.P
  have hr1 := hP.r1
  have hr8 := hP.r8
  have hc1 := hP.c1
  have hc8 := hP.c8
  have hk1 := hP.k1
  have hk3 := hP.k3
  have h64 := rc64 hr8 hc8
  have hH8 := hk.H8
  have hN : A.N = A.P.r + A.P.c := rfl
  refine Ct.of [some (.ref (b0 + 0)), some (.int x), some (.int z)] (by decide) (Nat.le_of_ble_eq_true rfl) rfl rfl ?_
  refine S_aload_0 (q := 1) dX9_candidates_0 rfl ?_
  refine S_getR (q := 4) dX9_candidates_1 fl_X9_12 (by first | assumption | rfl) (by rfl) rfl ?_
  refine S_iload_1 (q := 5) dX9_candidates_4 rfl ?_
  refine S_iload_2 (q := 6) dX9_candidates_5 rfl ?_
  refine S_callV2i (q := 9) dX9_candidates_6 lk_X9_162 (by first | assumption | rfl) rfl rfl (k_X1_hasCell (gO_1 (Z := Z)) g0 g1 hr8 hc8 hr1 hc1) rfl rfl (Nat.le_of_ble_eq_true rfl) ⟨Nat.le_of_ble_eq_true rfl, Nat.le_of_ble_eq_true rfl⟩ ⟨Nat.le_of_ble_eq_true rfl, Nat.le_of_ble_eq_true rfl⟩ rfl (fun v6 M6 hv6 => ?_)
  obtain ⟨e6, rfl⟩ := hv6
  rw [e6]
  refine S_if_eq (t := 32) (q := 12) dX9_candidates_9 (by decide) rfl (fun hb9 => ?_) (fun hb9 => ?_)
  · have hl := cl_no (A := A) (bI_0.mp hb9)
    refine S_iconst (q := 33) (-1) dX9_candidates_32 (by decide) rfl ?_
    exact S_iret rfl dX9_candidates_33 rfl rfl (RES.same hC (by unfold o_cand; rw [hl]))
  · obtain ⟨i, j, hi, hj, rfl, rfl, hl⟩ := cl_ok (A := A) hP (bI_n.mp hb9)
    have hij := cel_lt hi hj
    have hij64 : i * A.P.c + j < 64 := by omega
    refine S_aload_0 (q := 13) dX9_candidates_12 rfl ?_
    refine S_getR (q := 16) dX9_candidates_13 fl_X9_12 (by first | assumption | rfl) (by rfl) rfl ?_
    refine S_getR (q := 19) dX9_candidates_16 fl_X9_165 (by first | assumption | rfl) (by rfl) rfl ?_
    refine S_aload_0 (q := 20) dX9_candidates_19 rfl ?_
    refine S_getR (q := 23) dX9_candidates_20 fl_X9_12 (by first | assumption | rfl) (by rfl) rfl ?_
    refine S_iload_1 (q := 24) dX9_candidates_23 rfl ?_
    refine S_iload_2 (q := 25) dX9_candidates_24 rfl ?_
    refine S_callV2i (q := 28) dX9_candidates_25 lk_X9_169 (by first | assumption | rfl) rfl rfl (k_X1_cellAt (gO_1 (Z := Z)) g1) rfl rfl (Nat.le_of_ble_eq_true rfl) ⟨Nat.le_of_ble_eq_true rfl, Nat.le_of_ble_eq_true rfl⟩ ⟨Nat.le_of_ble_eq_true rfl, Nat.le_of_ble_eq_true rfl⟩ rfl (fun v25 M25 hv25 => ?_)
    obtain ⟨e25, rfl⟩ := hv25
    rw [e25]
    refine S_ialdV (i := i * A.P.c + j) (val := nI (A.f (i * A.P.c + j))) (q := 29) dX9_candidates_28 (by first | assumption | rfl) (by first | (simp only [nI_add, pk_mul, nI_1]; done) | rfl) (by omega) (by decide) ((gce _ hij).1) rfl ?_
    refine S_goto (t := 33) dX9_candidates_29 (by decide) ?_
    exact S_iret rfl dX9_candidates_33 rfl rfl (RES.same hC (by unfold o_cand; rw [hl]))
set_option maxHeartbeats 4000000 in
set_option maxRecDepth 100000 in
theorem k_X9_color {Z : Lay} {l : Launch} {G : Gd} {b0 : Nat} {M : Mem} {A : Ab} {x z : Int32}  (hC : CR M A) (hk : A.ok)  : Ct l G b0 yX9_color cX9_color 4 (some .int) (rmZ 2 44) (LYZ Z) (LYZ Z) M [.ref (b0 + 0), .int x, .int z] (fun v M' => RES M (o_color A x z) v M') := by
  obtain ⟨⟨g0, g1, g2, gcu, gce⟩, hru, hbl, hbd, hsn, hss, ⟨nx, hnx, hx1, hx2, hx3⟩, ⟨htl, htx⟩, ⟨hfl, hfo⟩, htb⟩ := id hC
  have hP := hk.P
  have hr1 := hP.r1
  have hr8 := hP.r8
  have hc1 := hP.c1
  have hc8 := hP.c8
  have hk1 := hP.k1
  have hk3 := hP.k3
  have h64 := rc64 hr8 hc8
  have hH8 := hk.H8
  have hN : A.N = A.P.r + A.P.c := rfl
  refine Ct.of [some (.ref (b0 + 0)), some (.int x), some (.int z), none] (by decide) (Nat.le_of_ble_eq_true rfl) rfl rfl ?_
  refine S_aload_0 (q := 1) dX9_color_0 rfl ?_
  refine S_getR (q := 4) dX9_color_1 fl_X9_12 (by first | assumption | rfl) (by rfl) rfl ?_
  refine S_iload_1 (q := 5) dX9_color_4 rfl ?_
  refine S_iload_2 (q := 6) dX9_color_5 rfl ?_
  refine S_callV2i (q := 9) dX9_color_6 lk_X9_162 (by first | assumption | rfl) rfl rfl (k_X1_hasCell (gO_1 (Z := Z)) g0 g1 hr8 hc8 hr1 hc1) rfl rfl (Nat.le_of_ble_eq_true rfl) ⟨Nat.le_of_ble_eq_true rfl, Nat.le_of_ble_eq_true rfl⟩ ⟨Nat.le_of_ble_eq_true rfl, Nat.le_of_ble_eq_true rfl⟩ rfl (fun v6 M6 hv6 => ?_)
  obtain ⟨e6, rfl⟩ := hv6
  rw [e6]
  refine S_if_ne (t := 14) (q := 12) dX9_color_9 (by decide) rfl (fun hb9 => ?_) (fun hb9 => ?_)
  · obtain ⟨i, j, hi, hj, rfl, rfl, hl⟩ := cl_ok (A := A) hP (bI_n.mp hb9)
    have hij := cel_lt hi hj
    have hij64 : i * A.P.c + j < 64 := by omega
    refine S_aload_0 (q := 15) dX9_color_14 rfl ?_
    refine S_getR (q := 18) dX9_color_15 fl_X9_12 (by first | assumption | rfl) (by rfl) rfl ?_
    refine S_iload_1 (q := 19) dX9_color_18 rfl ?_
    refine S_iload_2 (q := 20) dX9_color_19 rfl ?_
    refine S_callV2i (q := 23) dX9_color_20 lk_X9_169 (by first | assumption | rfl) rfl rfl (k_X1_cellAt (gO_1 (Z := Z)) g1) rfl rfl (Nat.le_of_ble_eq_true rfl) ⟨Nat.le_of_ble_eq_true rfl, Nat.le_of_ble_eq_true rfl⟩ ⟨Nat.le_of_ble_eq_true rfl, Nat.le_of_ble_eq_true rfl⟩ rfl (fun v20 M20 hv20 => ?_)
    obtain ⟨e20, rfl⟩ := hv20
    rw [e20]
    refine S_istore_3 (q := 24) dX9_color_23 rfl ?_
    refine S_aload_0 (q := 25) dX9_color_24 rfl ?_
    refine S_getR (q := 28) dX9_color_25 fl_X9_12 (by first | assumption | rfl) (by rfl) rfl ?_
    refine S_iload_3 (q := 29) dX9_color_28 rfl ?_
    refine S_callV1i (q := 32) dX9_color_29 lk_X9_172 (by first | assumption | rfl) rfl rfl (k_X1_isDecided (gO_1 (Z := Z)) hij64 ((gce _ hij).1) ((gce _ hij).2.2)) rfl rfl (Nat.le_of_ble_eq_true rfl) ⟨Nat.le_of_ble_eq_true rfl, Nat.le_of_ble_eq_true rfl⟩ ⟨Nat.le_of_ble_eq_true rfl, Nat.le_of_ble_eq_true rfl⟩ rfl (fun v29 M29 hv29 => ?_)
    obtain ⟨e29, rfl⟩ := hv29
    rw [e29]
    refine S_if_eq (t := 46) (q := 35) dX9_color_32 (by decide) rfl (fun hb32 => ?_) (fun hb32 => ?_)
    · have hd : ¬ pc4 (A.f (i * A.P.c + j)) = 1 := bI_0.mp hb32
      refine S_bipush (q := 48) (-6) dX9_color_46 (by decide) rfl ?_
      exact S_iret rfl dX9_color_48 rfl rfl (RES.same hC (by unfold o_color; rw [hl]; simp only [if_neg hd]))
    · have hd : pc4 (A.f (i * A.P.c + j)) = 1 := bI_n.mp hb32
      refine S_aload_0 (q := 36) dX9_color_35 rfl ?_
      refine S_getR (q := 39) dX9_color_36 fl_X9_12 (by first | assumption | rfl) (by rfl) rfl ?_
      refine S_iload_3 (q := 40) dX9_color_39 rfl ?_
      refine S_callV1i (q := 43) dX9_color_40 lk_X9_175 (by first | assumption | rfl) rfl rfl (k_X1_decidedColor (gO_1 (Z := Z)) hij64 ((gce _ hij).1) ((gce _ hij).2.2) (gce _ hij).2.1) rfl rfl (Nat.le_of_ble_eq_true rfl) ⟨Nat.le_of_ble_eq_true rfl, Nat.le_of_ble_eq_true rfl⟩ ⟨Nat.le_of_ble_eq_true rfl, Nat.le_of_ble_eq_true rfl⟩ rfl (fun v40 M40 hv40 => ?_)
      obtain ⟨e40, rfl⟩ := hv40
      rw [e40]
      refine S_goto (t := 48) dX9_color_43 (by decide) ?_
      exact S_iret rfl dX9_color_48 rfl rfl (RES.same hC (by unfold o_color; rw [hl]; simp only [if_pos hd]; try rfl))
  · have hl := cl_no (A := A) (bI_0.mp hb9)
    refine S_iconst (q := 13) (-1) dX9_color_12 (by decide) rfl ?_
    exact S_iret rfl dX9_color_13 rfl rfl (RES.same hC (by unfold o_color; rw [hl]))
set_option maxHeartbeats 4000000 in
set_option maxRecDepth 100000 in
theorem k_X9_candidateError {Z : Lay} {l : Launch} {G : Gd} {b0 : Nat} {M : Mem} {A : Ab} {x z k : Int32}  (hC : CR M A) (hk : A.ok)  : Ct l G b0 yX9_candidateError cX9_candidateError 4 (some .int) (rmZ 2 44) (LYZ Z) (LYZ Z) M [.ref (b0 + 0), .int x, .int z, .int k] (fun v M' => M' = M ∧ v = erV (A.cn x z k)) := by
  obtain ⟨⟨g0, g1, g2, gcu, gce⟩, hru, hbl, hbd, hsn, hss, ⟨nx, hnx, hx1, hx2, hx3⟩, ⟨htl, htx⟩, ⟨hfl, hfo⟩, htb⟩ := id hC
  have hP := hk.P
  have hr1 := hP.r1
  have hr8 := hP.r8
  have hc1 := hP.c1
  have hc8 := hP.c8
  have hk1 := hP.k1
  have hk3 := hP.k3
  have h64 := rc64 hr8 hc8
  have hH8 := hk.H8
  have hN : A.N = A.P.r + A.P.c := rfl
  refine Ct.of [some (.ref (b0 + 0)), some (.int x), some (.int z), some (.int k)] (by decide) (Nat.le_of_ble_eq_true rfl) rfl rfl ?_
  refine S_aload_0 (q := 1) dX9_candidateError_0 rfl ?_
  refine S_getR (q := 4) dX9_candidateError_1 fl_X9_12 (by first | assumption | rfl) (by rfl) rfl ?_
  refine S_iload_1 (q := 5) dX9_candidateError_4 rfl ?_
  refine S_iload_2 (q := 6) dX9_candidateError_5 rfl ?_
  refine S_callV2i (q := 9) dX9_candidateError_6 lk_X9_162 (by first | assumption | rfl) rfl rfl (k_X1_hasCell (gO_1 (Z := Z)) g0 g1 hr8 hc8 hr1 hc1) rfl rfl (Nat.le_of_ble_eq_true rfl) ⟨Nat.le_of_ble_eq_true rfl, Nat.le_of_ble_eq_true rfl⟩ ⟨Nat.le_of_ble_eq_true rfl, Nat.le_of_ble_eq_true rfl⟩ rfl (fun v6 M6 hv6 => ?_)
  obtain ⟨e6, rfl⟩ := hv6
  rw [e6]
  refine S_if_ne (t := 14) (q := 12) dX9_candidateError_9 (by decide) rfl (fun hb9 => ?_) (fun hb9 => ?_)
  · obtain ⟨i, j, hi, hj, rfl, rfl, hl⟩ := cl_ok (A := A) hP (bI_n.mp hb9)
    have hij := cel_lt hi hj
    have hij64 : i * A.P.c + j < 64 := by omega
    refine S_iload_3 (q := 15) dX9_candidateError_14 rfl ?_
    refine S_iconst (q := 16) (nI 0) dX9_candidateError_15 (by decide) rfl ?_
    refine S_aload_0 (q := 17) dX9_candidateError_16 rfl ?_
    refine S_getR (q := 20) dX9_candidateError_17 fl_X9_12 (by first | assumption | rfl) (by rfl) rfl ?_
    refine S_getI (q := 23) dX9_candidateError_20 fl_X9_121 (by first | assumption | rfl) (by rfl) rfl ?_
    rw [g2]
    refine S_callS3i (q := 26) dX9_candidateError_23 lk_X9_101 (k_X9_isWithin) rfl rfl (Nat.le_of_ble_eq_true rfl) ⟨Nat.le_of_ble_eq_true rfl, Nat.le_of_ble_eq_true rfl⟩ ⟨Nat.le_of_ble_eq_true rfl, Nat.le_of_ble_eq_true rfl⟩ rfl (fun v23 M23 hv23 => ?_)
    obtain ⟨e23, rfl⟩ := hv23
    rw [e23]
    refine S_if_ne (t := 32) (q := 29) dX9_candidateError_26 (by decide) rfl (fun hb26 => ?_) (fun hb26 => ?_)
    · obtain ⟨m, hm, rfl, hw⟩ := iw0 (show A.P.k < 2 ^ 31 by omega) (bI_n.mp hb26)
      refine S_aload_0 (q := 33) dX9_candidateError_32 rfl ?_
      refine S_getR (q := 36) dX9_candidateError_33 fl_X9_12 (by first | assumption | rfl) (by rfl) rfl ?_
      refine S_aload_0 (q := 37) dX9_candidateError_36 rfl ?_
      refine S_getR (q := 40) dX9_candidateError_37 fl_X9_12 (by first | assumption | rfl) (by rfl) rfl ?_
      refine S_iload_1 (q := 41) dX9_candidateError_40 rfl ?_
      refine S_iload_2 (q := 42) dX9_candidateError_41 rfl ?_
      refine S_callV2i (q := 45) dX9_candidateError_42 lk_X9_169 (by first | assumption | rfl) rfl rfl (k_X1_cellAt (gO_1 (Z := Z)) g1) rfl rfl (Nat.le_of_ble_eq_true rfl) ⟨Nat.le_of_ble_eq_true rfl, Nat.le_of_ble_eq_true rfl⟩ ⟨Nat.le_of_ble_eq_true rfl, Nat.le_of_ble_eq_true rfl⟩ rfl (fun v42 M42 hv42 => ?_)
      obtain ⟨e42, rfl⟩ := hv42
      rw [e42]
      refine S_iload_3 (q := 46) dX9_candidateError_45 rfl ?_
      refine S_callV2i (q := 49) dX9_candidateError_46 lk_X9_332 (by first | assumption | rfl) rfl rfl (k_X1_hasCandidate (gO_1 (Z := Z)) hij64 ((gce _ hij).1) ((gce _ hij).2.2) (show m < 32 by omega)) rfl rfl (Nat.le_of_ble_eq_true rfl) ⟨Nat.le_of_ble_eq_true rfl, Nat.le_of_ble_eq_true rfl⟩ ⟨Nat.le_of_ble_eq_true rfl, Nat.le_of_ble_eq_true rfl⟩ rfl (fun v46 M46 hv46 => ?_)
      obtain ⟨e46, rfl⟩ := hv46
      rw [e46]
      refine S_if_eq (t := 56) (q := 52) dX9_candidateError_49 (by decide) rfl (fun hb49 => ?_) (fun hb49 => ?_)
      · have hd := bI_0.mp hb49
        refine S_bipush (q := 58) (-5) dX9_candidateError_56 (by decide) rfl ?_
        exact S_iret rfl dX9_candidateError_58 rfl rfl (⟨rfl, by unfold Ab.cn; rw [hl]; simp only [hw, if_neg hd]; try rfl⟩)
      · have hd := bI_n.mp hb49
        refine S_iconst (q := 53) (nI 0) dX9_candidateError_52 (by decide) rfl ?_
        refine S_goto (t := 58) dX9_candidateError_53 (by decide) ?_
        exact S_iret rfl dX9_candidateError_58 rfl rfl (⟨rfl, by unfold Ab.cn; rw [hl]; simp only [hw, if_pos hd]; try rfl⟩)
    · have hw := iw_no (bI_0.mp hb26)
      refine S_bipush (q := 31) (-2) dX9_candidateError_29 (by decide) rfl ?_
      exact S_iret rfl dX9_candidateError_31 rfl rfl (⟨rfl, by unfold Ab.cn; rw [hl]; simp only [hw]; try rfl⟩)
  · have hl := cl_no (A := A) (bI_0.mp hb9)
    refine S_iconst (q := 13) (-1) dX9_candidateError_12 (by decide) rfl ?_
    exact S_iret rfl dX9_candidateError_13 rfl rfl (⟨rfl, by unfold Ab.cn; rw [hl]; rfl⟩)