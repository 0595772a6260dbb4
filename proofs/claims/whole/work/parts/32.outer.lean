/-! THE CLASS'S OWN METHODS -/
def RES (M : Mem) (q : Ab × Int32) (v : Int32) (M' : Mem) : Prop := CR M' q.1 ∧ (∀ a, 140 ≤ a → M' a = M a) ∧ v = q.2
theorem RES.same {M : Mem} {A : Ab} {q : Ab × Int32} {v : Int32} (hC : CR M A) (e : q = (A, v)) : RES M q v M := by subst e; exact ⟨hC, fun _ _ => rfl, rfl⟩
theorem RES.to {M M1 : Mem} {A : Ab} {q : Ab × Int32} {v : Int32} (hC : CR M1 A) (hf : ∀ a, 140 ≤ a → M1 a = M a) (e : q = (A, v)) : RES M q v M1 := by subst e; exact ⟨hC, hf, rfl⟩
theorem RES.scr {M M1 : Mem} {A : Ab} {q : Ab × Int32} {v : Int32} (hC : CR M A) (hf : ∀ a, (a < 7 ∨ (13 ≤ a ∧ a < 69) ∨ (125 ≤ a ∧ a < 129) ∨ 134 ≤ a) → M1 a = M a) (e : q = (A, v)) : RES M q v M1 := .to (hC.fr (fun a h => hf a (by omega))) (fun a h => hf a (by omega)) e
theorem ln_no {A : Ab} {x : Int32} (h : ¬ (0 ≤ x ∧ x < nI (A.P.r + A.P.c))) : A.ln x = none := ix_no h
theorem ln_ok {A : Ab} {x : Int32} (hP : A.P.ok) (h : 0 ≤ x ∧ x < nI (A.P.r + A.P.c)) : ∃ i, i < A.P.r + A.P.c ∧ x = nI i ∧ A.ln x = some i := ix_ok (by have := hP.r8; have := hP.c8; omega) h
def erV (s : Int32 ⊕ (Nat × Nat)) : Int32 := match s with
  | .inl e => e
  | .inr _ => 0
theorem iw0 {x : Int32} {b : Nat} (hb : b < 2 ^ 31) (h : nI 0 ≤ x ∧ x ≤ nI b) : ∃ j, j ≤ b ∧ x = nI j ∧ iw x 0 b = some j := by
  obtain ⟨j, _, h2, h3, h4⟩ := iw_ok (by decide) hb h
  exact ⟨j, h2, h3, h4⟩
theorem cn_0 {A : Ab} {x z k : Int32} (hP : A.P.ok) (h : erV (A.cn x z k) = 0) : ∃ i j m, i < A.P.r ∧ j < A.P.c ∧ m ≤ A.P.k ∧ x = nI i ∧ z = nI j ∧ k = nI m ∧ (A.f (i * A.P.c + j)).testBit m = true ∧ A.cn x z k = .inr (i * A.P.c + j, m) := by
  unfold Ab.cn at h ⊢
  by_cases h1 : (0 ≤ x ∧ x < nI A.P.r) ∧ (0 ≤ z ∧ z < nI A.P.c)
  · obtain ⟨i, j, hi, hj, e1, e2, e3⟩ := cl_ok hP h1
    rw [e3] at h ⊢
    simp only at h ⊢
    by_cases h2 : nI 0 ≤ k ∧ k ≤ nI A.P.k
    · obtain ⟨m, hm, e4, e5⟩ := iw0 (by have := hP.k3; omega) h2
      rw [e5] at h ⊢
      simp only at h ⊢
      by_cases h3 : (A.f (i * A.P.c + j)).testBit m = true
      · exact ⟨i, j, m, hi, hj, hm, e1, e2, e4, h3, by rw [if_pos h3]⟩
      · rw [if_neg h3] at h; exact absurd h (by decide)
    · rw [iw_no h2] at h; exact absurd (show (-2 : Int32) = 0 from h) (by decide)
  · rw [cl_no h1] at h; exact absurd (show (-1 : Int32) = 0 from h) (by decide)
theorem cn_n {A : Ab} {x z k : Int32} (h : ¬ erV (A.cn x z k) = 0) : A.cn x z k = .inl (erV (A.cn x z k)) := by
  cases e : A.cn x z k with
  | inl u => rfl
  | inr u => rw [e] at h; exact absurd rfl h
theorem cn2_n {A : Ab} {x z k : Int32} (h : ¬ erV (A.cn2 x z k) = 0) : A.cn2 x z k = .inl (erV (A.cn2 x z k)) := by
  cases e : A.cn2 x z k with
  | inl u => rfl
  | inr u => rw [e] at h; exact absurd rfl h
theorem cn2_0 {A : Ab} {x z k : Int32} (hP : A.P.ok) (h : erV (A.cn2 x z k) = 0) : ∃ i j m, i < A.P.r ∧ j < A.P.c ∧ m ≤ A.P.k ∧ x = nI i ∧ z = nI j ∧ k = nI m ∧ (A.f (i * A.P.c + j)).testBit m = true ∧ pc4 (A.f (i * A.P.c + j)) ≠ 1 ∧ A.cn2 x z k = .inr (i * A.P.c + j, m) := by
  unfold Ab.cn2 at h ⊢
  by_cases h1 : erV (A.cn x z k) = 0
  · obtain ⟨i, j, m, hi, hj, hm, e1, e2, e4, h3, h4⟩ := cn_0 hP h1
    rw [h4] at h ⊢
    simp only at h ⊢
    by_cases h5 : pc4 (A.f (i * A.P.c + j)) = 1
    · rw [if_pos h5] at h; exact absurd h (by decide)
    · exact ⟨i, j, m, hi, hj, hm, e1, e2, e4, h3, h5, by rw [if_neg h5]⟩
  · rw [cn_n h1] at h
    exact absurd h h1
theorem tst_at : ∀ t, t < 3 → ([some 134, some 136, some 138] : List (Option Nat))[t]? = some (some (134 + 2 * t)) := by decide
theorem tst_t : ∀ t, t < 3 → isT LAY (134 + 2 * t) := by
  intro t ht
  rcases (show t = 0 ∨ t = 1 ∨ t = 2 by omega) with rfl | rfl | rfl
  · exact tO_134
  · exact tO_136
  · exact tO_138
def tE (A : Ab) (x : Int32) : Int32 := match ix x 3 with
  | none => -2
  | some t => match A.tb t with
    | none => -11
    | some _ => 0
theorem tE_0 {A : Ab} {x : Int32} (h : tE A x = 0) : ∃ t ty n it, t < 3 ∧ x = nI t ∧ ix x 3 = some t ∧ A.tb t = some (ty, n, it) := by
  unfold tE at h
  by_cases h1 : 0 ≤ x ∧ x < nI 3
  · obtain ⟨t, ht, e1, e2⟩ := ix_ok (by decide) h1
    rw [e2] at h
    simp only at h
    cases e : A.tb t with
    | none => rw [e] at h; exact absurd (show (-11 : Int32) = 0 from h) (by decide)
    | some q => obtain ⟨ty, n, it⟩ := q; exact ⟨t, ty, n, it, ht, e1, e2, e⟩
  · rw [ix_no h1] at h; exact absurd (show (-2 : Int32) = 0 from h) (by decide)
def eE (A : Ab) (x y : Int32) : Int32 := match ix x 3 with
  | none => -2
  | some t => match A.tb t with
    | none => -11
    | some (_, n, _) => match ix y n with
      | none => -13
      | some _ => 0
theorem eE_0 {A : Ab} {x y : Int32} (hk : A.ok) (h : eE A x y = 0) : ∃ t ty n it j, t < 3 ∧ x = nI t ∧ j < n ∧ y = nI j ∧ ix x 3 = some t ∧ A.tb t = some (ty, n, it) ∧ ix y n = some j := by
  unfold eE at h
  by_cases h1 : 0 ≤ x ∧ x < nI 3
  · obtain ⟨t, ht, e1, e2⟩ := ix_ok (by decide) h1
    rw [e2] at h
    simp only at h
    cases e : A.tb t with
    | none => rw [e] at h; exact absurd (show (-11 : Int32) = 0 from h) (by decide)
    | some q =>
      obtain ⟨ty, n, it⟩ := q
      rw [e] at h
      simp only at h
      by_cases h2 : 0 ≤ y ∧ y < nI n
      · obtain ⟨j, hj, e3, e4⟩ := ix_ok (by have := (hk.tb _ _ _ _ e).2.1; omega) h2
        exact ⟨t, ty, n, it, j, ht, e1, hj, e3, e2, e, e4⟩
      · rw [ix_no h2] at h; exact absurd (show (-13 : Int32) = 0 from h) (by decide)
  · rw [ix_no h1] at h; exact absurd (show (-2 : Int32) = 0 from h) (by decide)
theorem rtab_n {A : Ab} {x y : Int32} (h : ¬ eE A x y = 0) : o_rtab A x y = (A, eE A x y) := by
  unfold o_rtab
  unfold eE at h ⊢
  cases e : ix x 3 with
  | none => rfl
  | some t =>
    rw [e] at h
    simp only at h ⊢
    cases e2 : A.tb t with
    | none => rfl
    | some q =>
      obtain ⟨ty, n, it⟩ := q
      rw [e2] at h
      simp only at h ⊢
      cases e3 : ix y n with
      | none => rfl
      | some j => rw [e3] at h; exact absurd rfl h
theorem wtab_n {A : Ab} {x y v : Int32} (h : ¬ eE A x y = 0) : o_wtab A x y v = (A, eE A x y) := by
  unfold o_wtab
  unfold eE at h ⊢
  cases e : ix x 3 with
  | none => rfl
  | some t =>
    rw [e] at h
    simp only at h ⊢
    cases e2 : A.tb t with
    | none => rfl
    | some q =>
      obtain ⟨ty, n, it⟩ := q
      rw [e2] at h
      simp only at h ⊢
      cases e3 : ix y n with
      | none => rfl
      | some j => rw [e3] at h; exact absurd rfl h
theorem exp_n {A : Ab} {x : Int32} (h : ¬ tE A x = 0) : o_exp A x = (A, tE A x) := by
  unfold o_exp
  unfold tE at h ⊢
  cases e : ix x 3 with
  | none => rfl
  | some t =>
    rw [e] at h
    simp only at h ⊢
    cases e2 : A.tb t with
    | none => rfl
    | some q => rw [e2] at h; exact absurd rfl h
theorem cmp_n {A : Ab} {x : Int32} (h : ¬ tE A x = 0) : o_cmp A x = (A, tE A x) := by
  unfold o_cmp
  unfold tE at h ⊢
  cases e : ix x 3 with
  | none => rfl
  | some t =>
    rw [e] at h
    simp only at h ⊢
    cases e2 : A.tb t with
    | none => rfl
    | some q => rw [e2] at h; exact absurd rfl h
set_option maxHeartbeats 4000000 in
set_option maxRecDepth 100000 in
theorem k_X9_rowCount {l : Launch} {G : Gd} {b0 : Nat} {M : Mem} {A : Ab}  (hC : CR M A) (hk : A.ok)  : Ct l G b0 yX9_rowCount cX9_rowCount 1 (some .int) (rmZ 0 0) LAY LAY M [.ref (b0 + 0)] (fun v M' => RES M (o_rows A) v M') := by
  obtain ⟨⟨g0, g1, g2, gcu, gce⟩, hru, hbl, hbd, hsn, hss, ⟨nx, hnx, hx1, hx2, hx3⟩, ⟨htl, htx⟩, ⟨hfl, hfo⟩, htb⟩ := id hC
  have hP := hk.P
  have hr1 := hP.r1
  have hr8 := hP.r8
  have hc1 := hP.c1
  have hc8 := hP.c8
  have hk1 := hP.k1
  have hk3 := hP.k3
  have h64 := rc64 hr8 hc8
  have hH8 := hk.H8
  have hN : A.N = A.P.r + A.P.c := rfl
  refine Ct.of [some (.ref (b0 + 0))] (by decide) (Nat.le_of_ble_eq_true rfl) rfl rfl ?_
  refine S_aload_0 (q := 1) dX9_rowCount_0 rfl ?_
  refine S_getR (q := 4) dX9_rowCount_1 fl_X9_12 (by first | assumption | rfl) (by rfl) rfl ?_
  refine S_getI (q := 7) dX9_rowCount_4 fl_X9_115 (by first | assumption | rfl) (by rfl) rfl ?_
  exact S_iret rfl dX9_rowCount_7 rfl rfl (RES.same hC (by rw [g0]; rfl))
set_option maxHeartbeats 4000000 in
set_option maxRecDepth 100000 in
theorem k_X9_columnCount {l : Launch} {G : Gd} {b0 : Nat} {M : Mem} {A : Ab}  (hC : CR M A) (hk : A.ok)  : Ct l G b0 yX9_columnCount cX9_columnCount 1 (some .int) (rmZ 0 0) LAY LAY M [.ref (b0 + 0)] (fun v M' => RES M (o_cols A) v M') := by
  obtain ⟨⟨g0, g1, g2, gcu, gce⟩, hru, hbl, hbd, hsn, hss, ⟨nx, hnx, hx1, hx2, hx3⟩, ⟨htl, htx⟩, ⟨hfl, hfo⟩, htb⟩ := id hC
  have hP := hk.P
  have hr1 := hP.r1
  have hr8 := hP.r8
  have hc1 := hP.c1
  have hc8 := hP.c8
  have hk1 := hP.k1
  have hk3 := hP.k3
  have h64 := rc64 hr8 hc8
  have hH8 := hk.H8
  have hN : A.N = A.P.r + A.P.c := rfl
  refine Ct.of [some (.ref (b0 + 0))] (by decide) (Nat.le_of_ble_eq_true rfl) rfl rfl ?_
  refine S_aload_0 (q := 1) dX9_columnCount_0 rfl ?_
  refine S_getR (q := 4) dX9_columnCount_1 fl_X9_12 (by first | assumption | rfl) (by rfl) rfl ?_
  refine S_getI (q := 7) dX9_columnCount_4 fl_X9_118 (by first | assumption | rfl) (by rfl) rfl ?_
  exact S_iret rfl dX9_columnCount_7 rfl rfl (RES.same hC (by rw [g1]; rfl))
set_option maxHeartbeats 4000000 in
set_option maxRecDepth 100000 in
theorem k_X9_colorCount {l : Launch} {G : Gd} {b0 : Nat} {M : Mem} {A : Ab}  (hC : CR M A) (hk : A.ok)  : Ct l G b0 yX9_colorCount cX9_colorCount 1 (some .int) (rmZ 0 0) LAY LAY M [.ref (b0 + 0)] (fun v M' => RES M (o_colors A) v M') := by
  obtain ⟨⟨g0, g1, g2, gcu, gce⟩, hru, hbl, hbd, hsn, hss, ⟨nx, hnx, hx1, hx2, hx3⟩, ⟨htl, htx⟩, ⟨hfl, hfo⟩, htb⟩ := id hC
  have hP := hk.P
  have hr1 := hP.r1
  have hr8 := hP.r8
  have hc1 := hP.c1
  have hc8 := hP.c8
  have hk1 := hP.k1
  have hk3 := hP.k3
  have h64 := rc64 hr8 hc8
  have hH8 := hk.H8
  have hN : A.N = A.P.r + A.P.c := rfl
  refine Ct.of [some (.ref (b0 + 0))] (by decide) (Nat.le_of_ble_eq_true rfl) rfl rfl ?_
  refine S_aload_0 (q := 1) dX9_colorCount_0 rfl ?_
  refine S_getR (q := 4) dX9_colorCount_1 fl_X9_12 (by first | assumption | rfl) (by rfl) rfl ?_
  refine S_getI (q := 7) dX9_colorCount_4 fl_X9_121 (by first | assumption | rfl) (by rfl) rfl ?_
  exact S_iret rfl dX9_colorCount_7 rfl rfl (RES.same hC (by rw [g2]; rfl))
set_option maxHeartbeats 4000000 in
set_option maxRecDepth 100000 in
theorem k_X9_contradictionLine {l : Launch} {G : Gd} {b0 : Nat} {M : Mem} {A : Ab}  (hC : CR M A) (hk : A.ok)  : Ct l G b0 yX9_contradictionLine cX9_contradictionLine 1 (some .int) (rmZ 0 0) LAY LAY M [.ref (b0 + 0)] (fun v M' => RES M (o_bl A) v M') := by
  obtain ⟨⟨g0, g1, g2, gcu, gce⟩, hru, hbl, hbd, hsn, hss, ⟨nx, hnx, hx1, hx2, hx3⟩, ⟨htl, htx⟩, ⟨hfl, hfo⟩, htb⟩ := id hC
  have hP := hk.P
  have hr1 := hP.r1
  have hr8 := hP.r8
  have hc1 := hP.c1
  have hc8 := hP.c8
  have hk1 := hP.k1
  have hk3 := hP.k3
  have h64 := rc64 hr8 hc8
  have hH8 := hk.H8
  have hN : A.N = A.P.r + A.P.c := rfl
  refine Ct.of [some (.ref (b0 + 0))] (by decide) (Nat.le_of_ble_eq_true rfl) rfl rfl ?_
  refine S_aload_0 (q := 1) dX9_contradictionLine_0 rfl ?_
  refine S_getI (q := 4) dX9_contradictionLine_1 fl_X9_65 (by first | assumption | rfl) (by rfl) rfl ?_
  exact S_iret rfl dX9_contradictionLine_4 rfl rfl (RES.same hC (by rw [hbl]; rfl))
set_option maxHeartbeats 4000000 in
set_option maxRecDepth 100000 in
theorem k_X9_contradictionDepth {l : Launch} {G : Gd} {b0 : Nat} {M : Mem} {A : Ab}  (hC : CR M A) (hk : A.ok)  : Ct l G b0 yX9_contradictionDepth cX9_contradictionDepth 1 (some .int) (rmZ 0 0) LAY LAY M [.ref (b0 + 0)] (fun v M' => RES M (o_bd A) v M') := by
  obtain ⟨⟨g0, g1, g2, gcu, gce⟩, hru, hbl, hbd, hsn, hss, ⟨nx, hnx, hx1, hx2, hx3⟩, ⟨htl, htx⟩, ⟨hfl, hfo⟩, htb⟩ := id hC
  have hP := hk.P
  have hr1 := hP.r1
  have hr8 := hP.r8
  have hc1 := hP.c1
  have hc8 := hP.c8
  have hk1 := hP.k1
  have hk3 := hP.k3
  have h64 := rc64 hr8 hc8
  have hH8 := hk.H8
  have hN : A.N = A.P.r + A.P.c := rfl
  refine Ct.of [some (.ref (b0 + 0))] (by decide) (Nat.le_of_ble_eq_true rfl) rfl rfl ?_
  refine S_aload_0 (q := 1) dX9_contradictionDepth_0 rfl ?_
  refine S_getI (q := 4) dX9_contradictionDepth_1 fl_X9_68 (by first | assumption | rfl) (by rfl) rfl ?_
  exact S_iret rfl dX9_contradictionDepth_4 rfl rfl (RES.same hC (by rw [hbd]; rfl))
set_option maxHeartbeats 4000000 in
set_option maxRecDepth 100000 in
theorem k_X9_undoCount {l : Launch} {G : Gd} {b0 : Nat} {M : Mem} {A : Ab}  (hC : CR M A) (hk : A.ok)  : Ct l G b0 yX9_undoCount cX9_undoCount 1 (some .int) (rmZ 0 0) LAY LAY M [.ref (b0 + 0)] (fun v M' => RES M (o_uc A) v M') := by
  obtain ⟨⟨g0, g1, g2, gcu, gce⟩, hru, hbl, hbd, hsn, hss, ⟨nx, hnx, hx1, hx2, hx3⟩, ⟨htl, htx⟩, ⟨hfl, hfo⟩, htb⟩ := id hC
  have hP := hk.P
  have hr1 := hP.r1
  have hr8 := hP.r8
  have hc1 := hP.c1
  have hc8 := hP.c8
  have hk1 := hP.k1
  have hk3 := hP.k3
  have h64 := rc64 hr8 hc8
  have hH8 := hk.H8
  have hN : A.N = A.P.r + A.P.c := rfl
  refine Ct.of [some (.ref (b0 + 0))] (by decide) (Nat.le_of_ble_eq_true rfl) rfl rfl ?_
  refine S_aload_0 (q := 1) dX9_undoCount_0 rfl ?_
  refine S_getR (q := 4) dX9_undoCount_1 fl_X9_29 (by first | assumption | rfl) (by rfl) rfl ?_
  refine S_getI (q := 7) dX9_undoCount_4 fl_X9_302 (by first | assumption | rfl) (by rfl) rfl ?_
  exact S_iret rfl dX9_undoCount_7 rfl rfl (RES.same hC (by rw [hx2]; rfl))
set_option maxHeartbeats 4000000 in
set_option maxRecDepth 100000 in
theorem k_X9_decidedCount {l : Launch} {G : Gd} {b0 : Nat} {M : Mem} {A : Ab}  (hC : CR M A) (hk : A.ok)  : Ct l G b0 yX9_decidedCount cX9_decidedCount 1 (some .int) (rmZ 3 63) LAY LAY M [.ref (b0 + 0)] (fun v M' => RES M (o_dec A) v M') := by
  obtain ⟨⟨g0, g1, g2, gcu, gce⟩, hru, hbl, hbd, hsn, hss, ⟨nx, hnx, hx1, hx2, hx3⟩, ⟨htl, htx⟩, ⟨hfl, hfo⟩, htb⟩ := id hC
  have hP := hk.P
  have hr1 := hP.r1
  have hr8 := hP.r8
  have hc1 := hP.c1
  have hc8 := hP.c8
  have hk1 := hP.k1
  have hk3 := hP.k3
  have h64 := rc64 hr8 hc8
  have hH8 := hk.H8
  have hN : A.N = A.P.r + A.P.c := rfl
  refine Ct.of [some (.ref (b0 + 0))] (by decide) (Nat.le_of_ble_eq_true rfl) rfl rfl ?_
  refine S_aload_0 (q := 1) dX9_decidedCount_0 rfl ?_
  refine S_getR (q := 4) dX9_decidedCount_1 fl_X9_12 (by first | assumption | rfl) (by rfl) rfl ?_
  refine S_callV0i (q := 7) dX9_decidedCount_4 lk_X9_190 (by first | assumption | rfl) rfl rfl (k_X1_decidedTotal gO_1 g0 g1 hr8 hc8 gce) rfl rfl (Nat.le_of_ble_eq_true rfl) ⟨Nat.le_of_ble_eq_true rfl, Nat.le_of_ble_eq_true rfl⟩ ⟨Nat.le_of_ble_eq_true rfl, Nat.le_of_ble_eq_true rfl⟩ rfl (fun v4 M4 hv4 => ?_)
  obtain ⟨e4, rfl⟩ := hv4
  rw [e4]
  exact S_iret rfl dX9_decidedCount_7 rfl rfl (RES.same hC rfl)
set_option maxHeartbeats 4000000 in
set_option maxRecDepth 100000 in
theorem k_X9_runCount {l : Launch} {G : Gd} {b0 : Nat} {M : Mem} {A : Ab} {x : Int32}  (hC : CR M A) (hk : A.ok)  : Ct l G b0 yX9_runCount cX9_runCount 2 (some .int) (rmZ 2 43) LAY LAY M [.ref (b0 + 0), .int x] (fun v M' => RES M (o_rc A x) v M') := by
  obtain ⟨⟨g0, g1, g2, gcu, gce⟩, hru, hbl, hbd, hsn, hss, ⟨nx, hnx, hx1, hx2, hx3⟩, ⟨htl, htx⟩, ⟨hfl, hfo⟩, htb⟩ := id hC
  have hP := hk.P
  have hr1 := hP.r1
  have hr8 := hP.r8
  have hc1 := hP.c1
  have hc8 := hP.c8
  have hk1 := hP.k1
  have hk3 := hP.k3
  have h64 := rc64 hr8 hc8
  have hH8 := hk.H8
  have hN : A.N = A.P.r + A.P.c := rfl
  refine Ct.of [some (.ref (b0 + 0)), some (.int x)] (by decide) (Nat.le_of_ble_eq_true rfl) rfl rfl ?_
  refine S_aload_0 (q := 1) dX9_runCount_0 rfl ?_
  refine S_getR (q := 4) dX9_runCount_1 fl_X9_12 (by first | assumption | rfl) (by rfl) rfl ?_
  refine S_iload_1 (q := 5) dX9_runCount_4 rfl ?_
  refine S_callV1i (q := 8) dX9_runCount_5 lk_X9_124 (by first | assumption | rfl) rfl rfl (k_X1_hasLine gO_1 g0 g1 hr8 hc8 hr1) rfl rfl (Nat.le_of_ble_eq_true rfl) ⟨Nat.le_of_ble_eq_true rfl, Nat.le_of_ble_eq_true rfl⟩ ⟨Nat.le_of_ble_eq_true rfl, Nat.le_of_ble_eq_true rfl⟩ rfl (fun v5 M5 hv5 => ?_)
  obtain ⟨e5, rfl⟩ := hv5
  rw [e5]
  refine S_if_eq (t := 25) (q := 11) dX9_runCount_8 (by decide) rfl (fun hb8 => ?_) (fun hb8 => ?_)
  · have hl := ln_no (A := A) (bI_0.mp hb8)
    refine S_iconst (q := 26) (-1) dX9_runCount_25 (by decide) rfl ?_
    exact S_iret rfl dX9_runCount_26 rfl rfl (RES.same hC (by unfold o_rc; rw [hl]))
  · obtain ⟨i, hi, rfl, hl⟩ := ln_ok (A := A) hP (bI_n.mp hb8)
    have hi16 : i < 16 := by omega
    refine S_aload_0 (q := 12) dX9_runCount_11 rfl ?_
    refine S_getR (q := 15) dX9_runCount_12 fl_X9_12 (by first | assumption | rfl) (by rfl) rfl ?_
    refine S_getR (q := 18) dX9_runCount_15 fl_X9_128 (by first | assumption | rfl) (by rfl) rfl ?_
    refine S_iload_1 (q := 19) dX9_runCount_18 rfl ?_
    refine S_callV1i (q := 22) dX9_runCount_19 lk_X9_141 (by first | assumption | rfl) rfl rfl (k_X0_runsOf gO_1.2.1 hi16) rfl rfl (Nat.le_of_ble_eq_true rfl) ⟨Nat.le_of_ble_eq_true rfl, Nat.le_of_ble_eq_true rfl⟩ ⟨Nat.le_of_ble_eq_true rfl, Nat.le_of_ble_eq_true rfl⟩ rfl (fun v19 M19 hv19 => ?_)
    obtain ⟨e19, rfl⟩ := hv19
    rw [e19]
    refine S_goto (t := 26) dX9_runCount_22 (by decide) ?_
    exact S_iret rfl dX9_runCount_26 rfl rfl (RES.same hC (by unfold o_rc; rw [hl, (gcu i hi16).1]))
set_option maxHeartbeats 4000000 in
set_option maxRecDepth 100000 in
theorem k_X9_hasRun {l : Launch} {G : Gd} {b0 : Nat} {M : Mem} {A : Ab} {x z : Int32}  (hC : CR M A) (hk : A.ok)  : Ct l G b0 yX9_hasRun cX9_hasRun 3 (some .boolean) (rmZ 2 43) LAY LAY M [.ref (b0 + 0), .int x, .int z] (fun v M' => M' = M ∧ ((v = nI 0 ∧ (A.ln x = none ∨ ∃ i, A.ln x = some i ∧ ix z (A.P.R i) = none)) ∨ (v = nI 1 ∧ ∃ i j, i < 16 ∧ j < A.P.R i ∧ x = nI i ∧ z = nI j ∧ A.ln x = some i ∧ ix z (A.P.R i) = some j))) := by
  obtain ⟨⟨g0, g1, g2, gcu, gce⟩, hru, hbl, hbd, hsn, hss, ⟨nx, hnx, hx1, hx2, hx3⟩, ⟨htl, htx⟩, ⟨hfl, hfo⟩, htb⟩ := id hC
  have hP := hk.P
  have hr1 := hP.r1
  have hr8 := hP.r8
  have hc1 := hP.c1
  have hc8 := hP.c8
  have hk1 := hP.k1
  have hk3 := hP.k3
  have h64 := rc64 hr8 hc8
  have hH8 := hk.H8
  have hN : A.N = A.P.r + A.P.c := rfl
  refine Ct.of [some (.ref (b0 + 0)), some (.int x), some (.int z)] (by decide) (Nat.le_of_ble_eq_true rfl) rfl rfl ?_
  refine S_aload_0 (q := 1) dX9_hasRun_0 rfl ?_
  refine S_getR (q := 4) dX9_hasRun_1 fl_X9_12 (by first | assumption | rfl) (by rfl) rfl ?_
  refine S_iload_1 (q := 5) dX9_hasRun_4 rfl ?_
  refine S_callV1i (q := 8) dX9_hasRun_5 lk_X9_124 (by first | assumption | rfl) rfl rfl (k_X1_hasLine gO_1 g0 g1 hr8 hc8 hr1) rfl rfl (Nat.le_of_ble_eq_true rfl) ⟨Nat.le_of_ble_eq_true rfl, Nat.le_of_ble_eq_true rfl⟩ ⟨Nat.le_of_ble_eq_true rfl, Nat.le_of_ble_eq_true rfl⟩ rfl (fun v5 M5 hv5 => ?_)
  obtain ⟨e5, rfl⟩ := hv5
  rw [e5]
  refine S_if_eq (t := 36) (q := 11) dX9_hasRun_8 (by decide) rfl (fun hb8 => ?_) (fun hb8 => ?_)
  · have hl := ln_no (A := A) (bI_0.mp hb8)
    refine S_iconst (q := 37) (nI 0) dX9_hasRun_36 (by decide) rfl ?_
    exact S_iret rfl dX9_hasRun_37 (by rfl) rfl (⟨rfl, .inl ⟨rfl, .inl hl⟩⟩)
  · obtain ⟨i, hi, rfl, hl⟩ := ln_ok (A := A) hP (bI_n.mp hb8)
    have hi16 : i < 16 := by omega
    refine S_iload_2 (q := 12) dX9_hasRun_11 rfl ?_
    refine S_iconst (q := 13) (nI 0) dX9_hasRun_12 (by decide) rfl ?_
    refine S_aload_0 (q := 14) dX9_hasRun_13 rfl ?_
    refine S_getR (q := 17) dX9_hasRun_14 fl_X9_12 (by first | assumption | rfl) (by rfl) rfl ?_
    refine S_getR (q := 20) dX9_hasRun_17 fl_X9_128 (by first | assumption | rfl) (by rfl) rfl ?_
    refine S_iload_1 (q := 21) dX9_hasRun_20 rfl ?_
    refine S_callV1i (q := 24) dX9_hasRun_21 lk_X9_141 (by first | assumption | rfl) rfl rfl (k_X0_runsOf gO_1.2.1 hi16) rfl rfl (Nat.le_of_ble_eq_true rfl) ⟨Nat.le_of_ble_eq_true rfl, Nat.le_of_ble_eq_true rfl⟩ ⟨Nat.le_of_ble_eq_true rfl, Nat.le_of_ble_eq_true rfl⟩ rfl (fun v21 M21 hv21 => ?_)
    obtain ⟨e21, rfl⟩ := hv21
    rw [e21]
    have hR8 := (gcu i hi16).2.1
    rw [(gcu i hi16).1]
    refine S_iconst (q := 25) (nI 1) dX9_hasRun_24 (by decide) rfl ?_
    refine S_isub (q := 26) dX9_hasRun_25 rfl ?_
    refine S_callS3i (q := 29) dX9_hasRun_26 lk_X9_101 (k_X9_isWithin) rfl rfl (Nat.le_of_ble_eq_true rfl) ⟨Nat.le_of_ble_eq_true rfl, Nat.le_of_ble_eq_true rfl⟩ ⟨Nat.le_of_ble_eq_true rfl, Nat.le_of_ble_eq_true rfl⟩ rfl (fun v26 M26 hv26 => ?_)
    obtain ⟨e26, rfl⟩ := hv26
    rw [e26]
    refine S_if_eq (t := 36) (q := 32) dX9_hasRun_29 (by decide) rfl (fun hb29 => ?_) (fun hb29 => ?_)
    · have hz := ix_no (fun y => bI_0.mp hb29 ((ix_iw (by omega)).mpr y))
      refine S_iconst (q := 37) (nI 0) dX9_hasRun_36 (by decide) rfl ?_
      exact S_iret rfl dX9_hasRun_37 (by rfl) rfl (⟨rfl, .inl ⟨rfl, .inr ⟨i, hl, hz⟩⟩⟩)
    · obtain ⟨j, hj, rfl, hz⟩ := ix_ok (show A.P.R i < 2 ^ 31 by omega) ((ix_iw (by omega)).mp (bI_n.mp hb29))
      refine S_iconst (q := 33) (nI 1) dX9_hasRun_32 (by decide) rfl ?_
      refine S_goto (t := 37) dX9_hasRun_33 (by decide) ?_
      exact S_iret rfl dX9_hasRun_37 (by rfl) rfl (⟨rfl, .inr ⟨rfl, i, j, hi16, hj, rfl, rfl, hl, hz⟩⟩)
set_option maxHeartbeats 4000000 in
set_option maxRecDepth 100000 in
theorem k_X9_runLength {l : Launch} {G : Gd} {b0 : Nat} {M : Mem} {A : Ab} {x z : Int32}  (hC : CR M A) (hk : A.ok)  : Ct l G b0 yX9_runLength cX9_runLength 3 (some .int) (rmZ 3 65) LAY LAY M [.ref (b0 + 0), .int x, .int z] (fun v M' => RES M (o_rl A x z) v M') := by
  obtain ⟨⟨g0, g1, g2, gcu, gce⟩, hru, hbl, hbd, hsn, hss, ⟨nx, hnx, hx1, hx2, hx3⟩, ⟨htl, htx⟩, ⟨hfl, hfo⟩, htb⟩ := id hC
  have hP := hk.P
  have hr1 := hP.r1
  have hr8 := hP.r8
  have hc1 := hP.c1
  have hc8 := hP.c8
  have hk1 := hP.k1
  have hk3 := hP.k3
  have h64 := rc64 hr8 hc8
  have hH8 := hk.H8
  have hN : A.N = A.P.r + A.P.c := rfl
  refine Ct.of [some (.ref (b0 + 0)), some (.int x), some (.int z)] (by decide) (Nat.le_of_ble_eq_true rfl) rfl rfl ?_
  refine S_aload_0 (q := 1) dX9_runLength_0 rfl ?_
  refine S_iload_1 (q := 2) dX9_runLength_1 rfl ?_
  refine S_iload_2 (q := 3) dX9_runLength_2 rfl ?_
  refine S_callV2i (q := 6) dX9_runLength_3 lk_X9_148 (by first | assumption | rfl) rfl rfl (k_X9_hasRun hC hk) rfl rfl (Nat.le_of_ble_eq_true rfl) ⟨Nat.le_of_ble_eq_true rfl, Nat.le_of_ble_eq_true rfl⟩ ⟨Nat.le_of_ble_eq_true rfl, Nat.le_of_ble_eq_true rfl⟩ rfl (fun v3 M3 hv3 => ?_)
  obtain ⟨e3, hv⟩ := hv3
  rw [e3]
  rcases hv with ⟨rfl, hv⟩ | ⟨rfl, i, j, hi16, hj, rfl, rfl, hl, hz⟩
  · refine S_if_eq (t := 24) (q := 9) dX9_runLength_6 (by decide) rfl (fun hb6 => ?_) (fun hb6 => absurd rfl hb6)
    refine S_iconst (q := 25) (-1) dX9_runLength_24 (by decide) rfl ?_
    refine S_iret rfl dX9_runLength_25 rfl rfl (RES.same hC ?_)
    rcases hv with h1 | ⟨i, h1, h2⟩
    · unfold o_rl; rw [h1]
    · unfold o_rl; rw [h1]; simp only [h2]
  refine S_if_eq (t := 24) (q := 9) dX9_runLength_6 (by decide) rfl (fun hb6 => ?_) (fun hb6 => ?_)
  · exact absurd hb6 (by decide)
  · refine S_aload_0 (q := 10) dX9_runLength_9 rfl ?_
    refine S_getR (q := 13) dX9_runLength_10 fl_X9_12 (by first | assumption | rfl) (by rfl) rfl ?_
    refine S_getR (q := 16) dX9_runLength_13 fl_X9_128 (by first | assumption | rfl) (by rfl) rfl ?_
    refine S_iload_1 (q := 17) dX9_runLength_16 rfl ?_
    refine S_iload_2 (q := 18) dX9_runLength_17 rfl ?_
    refine S_callV2i (q := 21) dX9_runLength_18 lk_X9_152 (by first | assumption | rfl) rfl rfl (k_X0_lengthOf gO_1.2.1 (show i * 8 + j < 128 by have := (gcu i hi16).2.1; omega)) rfl rfl (Nat.le_of_ble_eq_true rfl) ⟨Nat.le_of_ble_eq_true rfl, Nat.le_of_ble_eq_true rfl⟩ ⟨Nat.le_of_ble_eq_true rfl, Nat.le_of_ble_eq_true rfl⟩ rfl (fun v18 M18 hv18 => ?_)
    obtain ⟨e18, rfl⟩ := hv18
    rw [e18]
    refine S_goto (t := 25) dX9_runLength_21 (by decide) ?_
    exact S_iret rfl dX9_runLength_25 rfl rfl (RES.same hC (by unfold o_rl; rw [hl]; simp only [hz]; rw [((gcu i hi16).2.2 j hj).1]))
set_option maxHeartbeats 4000000 in
set_option maxRecDepth 100000 in
theorem k_X9_runColor {l : Launch} {G : Gd} {b0 : Nat} {M : Mem} {A : Ab} {x z : Int32}  (hC : CR M A) (hk : A.ok)  : Ct l G b0 yX9_runColor cX9_runColor 3 (some .int) (rmZ 3 65) LAY LAY M [.ref (b0 + 0), .int x, .int z] (fun v M' => RES M (o_rk A x z) v M') := by
  obtain ⟨⟨g0, g1, g2, gcu, gce⟩, hru, hbl, hbd, hsn, hss, ⟨nx, hnx, hx1, hx2, hx3⟩, ⟨htl, htx⟩, ⟨hfl, hfo⟩, htb⟩ := id hC
  have hP := hk.P
  have hr1 := hP.r1
  have hr8 := hP.r8
  have hc1 := hP.c1
  have hc8 := hP.c8
  have hk1 := hP.k1
  have hk3 := hP.k3
  have h64 := rc64 hr8 hc8
  have hH8 := hk.H8
  have hN : A.N = A.P.r + A.P.c := rfl
  refine Ct.of [some (.ref (b0 + 0)), some (.int x), some (.int z)] (by decide) (Nat.le_of_ble_eq_true rfl) rfl rfl ?_
  refine S_aload_0 (q := 1) dX9_runColor_0 rfl ?_
  refine S_iload_1 (q := 2) dX9_runColor_1 rfl ?_
  refine S_iload_2 (q := 3) dX9_runColor_2 rfl ?_
  refine S_callV2i (q := 6) dX9_runColor_3 lk_X9_148 (by first | assumption | rfl) rfl rfl (k_X9_hasRun hC hk) rfl rfl (Nat.le_of_ble_eq_true rfl) ⟨Nat.le_of_ble_eq_true rfl, Nat.le_of_ble_eq_true rfl⟩ ⟨Nat.le_of_ble_eq_true rfl, Nat.le_of_ble_eq_true rfl⟩ rfl (fun v3 M3 hv3 => ?_)
  obtain ⟨e3, hv⟩ := hv3
  rw [e3]
  rcases hv with ⟨rfl, hv⟩ | ⟨rfl, i, j, hi16, hj, rfl, rfl, hl, hz⟩
  · refine S_if_eq (t := 24) (q := 9) dX9_runColor_6 (by decide) rfl (fun hb6 => ?_) (fun hb6 => absurd rfl hb6)
    refine S_iconst (q := 25) (-1) dX9_runColor_24 (by decide) rfl ?_
    refine S_iret rfl dX9_runColor_25 rfl rfl (RES.same hC ?_)
    rcases hv with h1 | ⟨i, h1, h2⟩
    · unfold o_rk; rw [h1]
    · unfold o_rk; rw [h1]; simp only [h2]
  refine S_if_eq (t := 24) (q := 9) dX9_runColor_6 (by decide) rfl (fun hb6 => ?_) (fun hb6 => ?_)
  · exact absurd hb6 (by decide)
  · refine S_aload_0 (q := 10) dX9_runColor_9 rfl ?_
    refine S_getR (q := 13) dX9_runColor_10 fl_X9_12 (by first | assumption | rfl) (by rfl) rfl ?_
    refine S_getR (q := 16) dX9_runColor_13 fl_X9_128 (by first | assumption | rfl) (by rfl) rfl ?_
    refine S_iload_1 (q := 17) dX9_runColor_16 rfl ?_
    refine S_iload_2 (q := 18) dX9_runColor_17 rfl ?_
    refine S_callV2i (q := 21) dX9_runColor_18 lk_X9_156 (by first | assumption | rfl) rfl rfl (k_X0_colorOf gO_1.2.1 (show i * 8 + j < 128 by have := (gcu i hi16).2.1; omega)) rfl rfl (Nat.le_of_ble_eq_true rfl) ⟨Nat.le_of_ble_eq_true rfl, Nat.le_of_ble_eq_true rfl⟩ ⟨Nat.le_of_ble_eq_true rfl, Nat.le_of_ble_eq_true rfl⟩ rfl (fun v18 M18 hv18 => ?_)
    obtain ⟨e18, rfl⟩ := hv18
    rw [e18]
    refine S_goto (t := 25) dX9_runColor_21 (by decide) ?_
    exact S_iret rfl dX9_runColor_25 rfl rfl (RES.same hC (by unfold o_rk; rw [hl]; simp only [hz]; rw [((gcu i hi16).2.2 j hj).2.2.2.1]))
set_option maxHeartbeats 4000000 in
set_option maxRecDepth 100000 in
theorem k_X9_minimumLength {l : Launch} {G : Gd} {b0 : Nat} {M : Mem} {A : Ab} {x : Int32}  (hC : CR M A) (hk : A.ok)  : Ct l G b0 yX9_minimumLength cX9_minimumLength 2 (some .int) (rmZ 2 46) LAY LAY M [.ref (b0 + 0), .int x] (fun v M' => RES M (o_min A x) v M') := by
  obtain ⟨⟨g0, g1, g2, gcu, gce⟩, hru, hbl, hbd, hsn, hss, ⟨nx, hnx, hx1, hx2, hx3⟩, ⟨htl, htx⟩, ⟨hfl, hfo⟩, htb⟩ := id hC
  have hP := hk.P
  have hr1 := hP.r1
  have hr8 := hP.r8
  have hc1 := hP.c1
  have hc8 := hP.c8
  have hk1 := hP.k1
  have hk3 := hP.k3
  have h64 := rc64 hr8 hc8
  have hH8 := hk.H8
  have hN : A.N = A.P.r + A.P.c := rfl
  refine Ct.of [some (.ref (b0 + 0)), some (.int x)] (by decide) (Nat.le_of_ble_eq_true rfl) rfl rfl ?_
  refine S_aload_0 (q := 1) dX9_minimumLength_0 rfl ?_
  refine S_getR (q := 4) dX9_minimumLength_1 fl_X9_12 (by first | assumption | rfl) (by rfl) rfl ?_
  refine S_iload_1 (q := 5) dX9_minimumLength_4 rfl ?_
  refine S_callV1i (q := 8) dX9_minimumLength_5 lk_X9_124 (by first | assumption | rfl) rfl rfl (k_X1_hasLine gO_1 g0 g1 hr8 hc8 hr1) rfl rfl (Nat.le_of_ble_eq_true rfl) ⟨Nat.le_of_ble_eq_true rfl, Nat.le_of_ble_eq_true rfl⟩ ⟨Nat.le_of_ble_eq_true rfl, Nat.le_of_ble_eq_true rfl⟩ rfl (fun v5 M5 hv5 => ?_)
  obtain ⟨e5, rfl⟩ := hv5
  rw [e5]
  refine S_if_eq (t := 25) (q := 11) dX9_minimumLength_8 (by decide) rfl (fun hb8 => ?_) (fun hb8 => ?_)
  · have hl := ln_no (A := A) (bI_0.mp hb8)
    refine S_iconst (q := 26) (-1) dX9_minimumLength_25 (by decide) rfl ?_
    exact S_iret rfl dX9_minimumLength_26 rfl rfl (RES.same hC (by unfold o_min; rw [hl]))
  · obtain ⟨i, hi, rfl, hl⟩ := ln_ok (A := A) hP (bI_n.mp hb8)
    have hi16 : i < 16 := by omega
    refine S_aload_0 (q := 12) dX9_minimumLength_11 rfl ?_
    refine S_getR (q := 15) dX9_minimumLength_12 fl_X9_12 (by first | assumption | rfl) (by rfl) rfl ?_
    refine S_getR (q := 18) dX9_minimumLength_15 fl_X9_128 (by first | assumption | rfl) (by rfl) rfl ?_
    refine S_iload_1 (q := 19) dX9_minimumLength_18 rfl ?_
    refine S_callV1i (q := 22) dX9_minimumLength_19 lk_X9_159 (by first | assumption | rfl) rfl rfl (k_X0_cellsNeeded gO_1.2.1 hi16 (gcu i hi16)) rfl rfl (Nat.le_of_ble_eq_true rfl) ⟨Nat.le_of_ble_eq_true rfl, Nat.le_of_ble_eq_true rfl⟩ ⟨Nat.le_of_ble_eq_true rfl, Nat.le_of_ble_eq_true rfl⟩ rfl (fun v19 M19 hv19 => ?_)
    obtain ⟨e19, rfl⟩ := hv19
    rw [e19]
    refine S_goto (t := 26) dX9_minimumLength_22 (by decide) ?_
    exact S_iret rfl dX9_minimumLength_26 rfl rfl (RES.same hC (by unfold o_min; rw [hl]))
set_option maxHeartbeats 4000000 in
set_option maxRecDepth 100000 in
theorem k_X9_candidates {l : Launch} {G : Gd} {b0 : Nat} {M : Mem} {A : Ab} {x z : Int32}  (hC : CR M A) (hk : A.ok)  : Ct l G b0 yX9_candidates cX9_candidates 3 (some .int) (rmZ 2 44) LAY LAY M [.ref (b0 + 0), .int x, .int z] (fun v M' => RES M (o_cand A x z) v M') := by
  obtain ⟨⟨g0, g1, g2, gcu, gce⟩, hru, hbl, hbd, hsn, hss, ⟨nx, hnx, hx1, hx2, hx3⟩, ⟨htl, htx⟩, ⟨hfl, hfo⟩, htb⟩ := id hC
  have hP := hk.P
  have hr1 := hP.r1
  have hr8 := hP.r8
  have hc1 := hP.c1
  have hc8 := hP.c8
  have hk1 := hP.k1
  have hk3 := hP.k3
  have h64 := rc64 hr8 hc8
  have hH8 := hk.H8
  have hN : A.N = A.P.r + A.P.c := rfl
  refine Ct.of [some (.ref (b0 + 0)), some (.int x), some (.int z)] (by decide) (Nat.le_of_ble_eq_true rfl) rfl rfl ?_
  refine S_aload_0 (q := 1) dX9_candidates_0 rfl ?_
  refine S_getR (q := 4) dX9_candidates_1 fl_X9_12 (by first | assumption | rfl) (by rfl) rfl ?_
  refine S_iload_1 (q := 5) dX9_candidates_4 rfl ?_
  refine S_iload_2 (q := 6) dX9_candidates_5 rfl ?_
  refine S_callV2i (q := 9) dX9_candidates_6 lk_X9_162 (by first | assumption | rfl) rfl rfl (k_X1_hasCell gO_1 g0 g1 hr8 hc8 hr1 hc1) rfl rfl (Nat.le_of_ble_eq_true rfl) ⟨Nat.le_of_ble_eq_true rfl, Nat.le_of_ble_eq_true rfl⟩ ⟨Nat.le_of_ble_eq_true rfl, Nat.le_of_ble_eq_true rfl⟩ rfl (fun v6 M6 hv6 => ?_)
  obtain ⟨e6, rfl⟩ := hv6
  rw [e6]
  refine S_if_eq (t := 32) (q := 12) dX9_candidates_9 (by decide) rfl (fun hb9 => ?_) (fun hb9 => ?_)
  · have hl := cl_no (A := A) (bI_0.mp hb9)
    refine S_iconst (q := 33) (-1) dX9_candidates_32 (by decide) rfl ?_
    exact S_iret rfl dX9_candidates_33 rfl rfl (RES.same hC (by unfold o_cand; rw [hl]))
  · obtain ⟨i, j, hi, hj, rfl, rfl, hl⟩ := cl_ok (A := A) hP (bI_n.mp hb9)
    have hij := cel_lt hi hj
    have hij64 : i * A.P.c + j < 64 := by omega
    refine S_aload_0 (q := 13) dX9_candidates_12 rfl ?_
    refine S_getR (q := 16) dX9_candidates_13 fl_X9_12 (by first | assumption | rfl) (by rfl) rfl ?_
    refine S_getR (q := 19) dX9_candidates_16 fl_X9_165 (by first | assumption | rfl) (by rfl) rfl ?_
    refine S_aload_0 (q := 20) dX9_candidates_19 rfl ?_
    refine S_getR (q := 23) dX9_candidates_20 fl_X9_12 (by first | assumption | rfl) (by rfl) rfl ?_
    refine S_iload_1 (q := 24) dX9_candidates_23 rfl ?_
    refine S_iload_2 (q := 25) dX9_candidates_24 rfl ?_
    refine S_callV2i (q := 28) dX9_candidates_25 lk_X9_169 (by first | assumption | rfl) rfl rfl (k_X1_cellAt gO_1 g1) rfl rfl (Nat.le_of_ble_eq_true rfl) ⟨Nat.le_of_ble_eq_true rfl, Nat.le_of_ble_eq_true rfl⟩ ⟨Nat.le_of_ble_eq_true rfl, Nat.le_of_ble_eq_true rfl⟩ rfl (fun v25 M25 hv25 => ?_)
    obtain ⟨e25, rfl⟩ := hv25
    rw [e25]
    refine S_ialdV (i := i * A.P.c + j) (val := nI (A.f (i * A.P.c + j))) (q := 29) dX9_candidates_28 (by first | assumption | rfl) (by first | (simp only [nI_add, pk_mul, nI_1]; done) | rfl) (by omega) (by decide) ((gce _ hij).1) rfl ?_
    refine S_goto (t := 33) dX9_candidates_29 (by decide) ?_
    exact S_iret rfl dX9_candidates_33 rfl rfl (RES.same hC (by unfold o_cand; rw [hl]))
set_option maxHeartbeats 4000000 in
set_option maxRecDepth 100000 in
theorem k_X9_color {l : Launch} {G : Gd} {b0 : Nat} {M : Mem} {A : Ab} {x z : Int32}  (hC : CR M A) (hk : A.ok)  : Ct l G b0 yX9_color cX9_color 4 (some .int) (rmZ 2 44) LAY LAY M [.ref (b0 + 0), .int x, .int z] (fun v M' => RES M (o_color A x z) v M') := by
  obtain ⟨⟨g0, g1, g2, gcu, gce⟩, hru, hbl, hbd, hsn, hss, ⟨nx, hnx, hx1, hx2, hx3⟩, ⟨htl, htx⟩, ⟨hfl, hfo⟩, htb⟩ := id hC
  have hP := hk.P
  have hr1 := hP.r1
  have hr8 := hP.r8
  have hc1 := hP.c1
  have hc8 := hP.c8
  have hk1 := hP.k1
  have hk3 := hP.k3
  have h64 := rc64 hr8 hc8
  have hH8 := hk.H8
  have hN : A.N = A.P.r + A.P.c := rfl
  refine Ct.of [some (.ref (b0 + 0)), some (.int x), some (.int z), none] (by decide) (Nat.le_of_ble_eq_true rfl) rfl rfl ?_
  refine S_aload_0 (q := 1) dX9_color_0 rfl ?_
  refine S_getR (q := 4) dX9_color_1 fl_X9_12 (by first | assumption | rfl) (by rfl) rfl ?_
  refine S_iload_1 (q := 5) dX9_color_4 rfl ?_
  refine S_iload_2 (q := 6) dX9_color_5 rfl ?_
  refine S_callV2i (q := 9) dX9_color_6 lk_X9_162 (by first | assumption | rfl) rfl rfl (k_X1_hasCell gO_1 g0 g1 hr8 hc8 hr1 hc1) rfl rfl (Nat.le_of_ble_eq_true rfl) ⟨Nat.le_of_ble_eq_true rfl, Nat.le_of_ble_eq_true rfl⟩ ⟨Nat.le_of_ble_eq_true rfl, Nat.le_of_ble_eq_true rfl⟩ rfl (fun v6 M6 hv6 => ?_)
  obtain ⟨e6, rfl⟩ := hv6
  rw [e6]
  refine S_if_ne (t := 14) (q := 12) dX9_color_9 (by decide) rfl (fun hb9 => ?_) (fun hb9 => ?_)
  · obtain ⟨i, j, hi, hj, rfl, rfl, hl⟩ := cl_ok (A := A) hP (bI_n.mp hb9)
    have hij := cel_lt hi hj
    have hij64 : i * A.P.c + j < 64 := by omega
    refine S_aload_0 (q := 15) dX9_color_14 rfl ?_
    refine S_getR (q := 18) dX9_color_15 fl_X9_12 (by first | assumption | rfl) (by rfl) rfl ?_
    refine S_iload_1 (q := 19) dX9_color_18 rfl ?_
    refine S_iload_2 (q := 20) dX9_color_19 rfl ?_
    refine S_callV2i (q := 23) dX9_color_20 lk_X9_169 (by first | assumption | rfl) rfl rfl (k_X1_cellAt gO_1 g1) rfl rfl (Nat.le_of_ble_eq_true rfl) ⟨Nat.le_of_ble_eq_true rfl, Nat.le_of_ble_eq_true rfl⟩ ⟨Nat.le_of_ble_eq_true rfl, Nat.le_of_ble_eq_true rfl⟩ rfl (fun v20 M20 hv20 => ?_)
    obtain ⟨e20, rfl⟩ := hv20
    rw [e20]
    refine S_istore_3 (q := 24) dX9_color_23 rfl ?_
    refine S_aload_0 (q := 25) dX9_color_24 rfl ?_
    refine S_getR (q := 28) dX9_color_25 fl_X9_12 (by first | assumption | rfl) (by rfl) rfl ?_
    refine S_iload_3 (q := 29) dX9_color_28 rfl ?_
    refine S_callV1i (q := 32) dX9_color_29 lk_X9_172 (by first | assumption | rfl) rfl rfl (k_X1_isDecided gO_1 hij64 ((gce _ hij).1) ((gce _ hij).2.2)) rfl rfl (Nat.le_of_ble_eq_true rfl) ⟨Nat.le_of_ble_eq_true rfl, Nat.le_of_ble_eq_true rfl⟩ ⟨Nat.le_of_ble_eq_true rfl, Nat.le_of_ble_eq_true rfl⟩ rfl (fun v29 M29 hv29 => ?_)
    obtain ⟨e29, rfl⟩ := hv29
    rw [e29]
    refine S_if_eq (t := 46) (q := 35) dX9_color_32 (by decide) rfl (fun hb32 => ?_) (fun hb32 => ?_)
    · have hd : ¬ pc4 (A.f (i * A.P.c + j)) = 1 := bI_0.mp hb32
      refine S_bipush (q := 48) (-6) dX9_color_46 (by decide) rfl ?_
      exact S_iret rfl dX9_color_48 rfl rfl (RES.same hC (by unfold o_color; rw [hl]; simp only [if_neg hd]))
    · have hd : pc4 (A.f (i * A.P.c + j)) = 1 := bI_n.mp hb32
      refine S_aload_0 (q := 36) dX9_color_35 rfl ?_
      refine S_getR (q := 39) dX9_color_36 fl_X9_12 (by first | assumption | rfl) (by rfl) rfl ?_
      refine S_iload_3 (q := 40) dX9_color_39 rfl ?_
      refine S_callV1i (q := 43) dX9_color_40 lk_X9_175 (by first | assumption | rfl) rfl rfl (k_X1_decidedColor gO_1 hij64 ((gce _ hij).1) ((gce _ hij).2.2) (gce _ hij).2.1) rfl rfl (Nat.le_of_ble_eq_true rfl) ⟨Nat.le_of_ble_eq_true rfl, Nat.le_of_ble_eq_true rfl⟩ ⟨Nat.le_of_ble_eq_true rfl, Nat.le_of_ble_eq_true rfl⟩ rfl (fun v40 M40 hv40 => ?_)
      obtain ⟨e40, rfl⟩ := hv40
      rw [e40]
      refine S_goto (t := 48) dX9_color_43 (by decide) ?_
      exact S_iret rfl dX9_color_48 rfl rfl (RES.same hC (by unfold o_color; rw [hl]; simp only [if_pos hd]; try rfl))
  · have hl := cl_no (A := A) (bI_0.mp hb9)
    refine S_iconst (q := 13) (-1) dX9_color_12 (by decide) rfl ?_
    exact S_iret rfl dX9_color_13 rfl rfl (RES.same hC (by unfold o_color; rw [hl]))
set_option maxHeartbeats 4000000 in
set_option maxRecDepth 100000 in
theorem k_X9_candidateError {l : Launch} {G : Gd} {b0 : Nat} {M : Mem} {A : Ab} {x z k : Int32}  (hC : CR M A) (hk : A.ok)  : Ct l G b0 yX9_candidateError cX9_candidateError 4 (some .int) (rmZ 2 44) LAY LAY M [.ref (b0 + 0), .int x, .int z, .int k] (fun v M' => M' = M ∧ v = erV (A.cn x z k)) := by
  obtain ⟨⟨g0, g1, g2, gcu, gce⟩, hru, hbl, hbd, hsn, hss, ⟨nx, hnx, hx1, hx2, hx3⟩, ⟨htl, htx⟩, ⟨hfl, hfo⟩, htb⟩ := id hC
  have hP := hk.P
  have hr1 := hP.r1
  have hr8 := hP.r8
  have hc1 := hP.c1
  have hc8 := hP.c8
  have hk1 := hP.k1
  have hk3 := hP.k3
  have h64 := rc64 hr8 hc8
  have hH8 := hk.H8
  have hN : A.N = A.P.r + A.P.c := rfl
  refine Ct.of [some (.ref (b0 + 0)), some (.int x), some (.int z), some (.int k)] (by decide) (Nat.le_of_ble_eq_true rfl) rfl rfl ?_
  refine S_aload_0 (q := 1) dX9_candidateError_0 rfl ?_
  refine S_getR (q := 4) dX9_candidateError_1 fl_X9_12 (by first | assumption | rfl) (by rfl) rfl ?_
  refine S_iload_1 (q := 5) dX9_candidateError_4 rfl ?_
  refine S_iload_2 (q := 6) dX9_candidateError_5 rfl ?_
  refine S_callV2i (q := 9) dX9_candidateError_6 lk_X9_162 (by first | assumption | rfl) rfl rfl (k_X1_hasCell gO_1 g0 g1 hr8 hc8 hr1 hc1) rfl rfl (Nat.le_of_ble_eq_true rfl) ⟨Nat.le_of_ble_eq_true rfl, Nat.le_of_ble_eq_true rfl⟩ ⟨Nat.le_of_ble_eq_true rfl, Nat.le_of_ble_eq_true rfl⟩ rfl (fun v6 M6 hv6 => ?_)
  obtain ⟨e6, rfl⟩ := hv6
  rw [e6]
  refine S_if_ne (t := 14) (q := 12) dX9_candidateError_9 (by decide) rfl (fun hb9 => ?_) (fun hb9 => ?_)
  · obtain ⟨i, j, hi, hj, rfl, rfl, hl⟩ := cl_ok (A := A) hP (bI_n.mp hb9)
    have hij := cel_lt hi hj
    have hij64 : i * A.P.c + j < 64 := by omega
    refine S_iload_3 (q := 15) dX9_candidateError_14 rfl ?_
    refine S_iconst (q := 16) (nI 0) dX9_candidateError_15 (by decide) rfl ?_
    refine S_aload_0 (q := 17) dX9_candidateError_16 rfl ?_
    refine S_getR (q := 20) dX9_candidateError_17 fl_X9_12 (by first | assumption | rfl) (by rfl) rfl ?_
    refine S_getI (q := 23) dX9_candidateError_20 fl_X9_121 (by first | assumption | rfl) (by rfl) rfl ?_
    rw [g2]
    refine S_callS3i (q := 26) dX9_candidateError_23 lk_X9_101 (k_X9_isWithin) rfl rfl (Nat.le_of_ble_eq_true rfl) ⟨Nat.le_of_ble_eq_true rfl, Nat.le_of_ble_eq_true rfl⟩ ⟨Nat.le_of_ble_eq_true rfl, Nat.le_of_ble_eq_true rfl⟩ rfl (fun v23 M23 hv23 => ?_)
    obtain ⟨e23, rfl⟩ := hv23
    rw [e23]
    refine S_if_ne (t := 32) (q := 29) dX9_candidateError_26 (by decide) rfl (fun hb26 => ?_) (fun hb26 => ?_)
    · obtain ⟨m, hm, rfl, hw⟩ := iw0 (show A.P.k < 2 ^ 31 by omega) (bI_n.mp hb26)
      refine S_aload_0 (q := 33) dX9_candidateError_32 rfl ?_
      refine S_getR (q := 36) dX9_candidateError_33 fl_X9_12 (by first | assumption | rfl) (by rfl) rfl ?_
      refine S_aload_0 (q := 37) dX9_candidateError_36 rfl ?_
      refine S_getR (q := 40) dX9_candidateError_37 fl_X9_12 (by first | assumption | rfl) (by rfl) rfl ?_
      refine S_iload_1 (q := 41) dX9_candidateError_40 rfl ?_
      refine S_iload_2 (q := 42) dX9_candidateError_41 rfl ?_
      refine S_callV2i (q := 45) dX9_candidateError_42 lk_X9_169 (by first | assumption | rfl) rfl rfl (k_X1_cellAt gO_1 g1) rfl rfl (Nat.le_of_ble_eq_true rfl) ⟨Nat.le_of_ble_eq_true rfl, Nat.le_of_ble_eq_true rfl⟩ ⟨Nat.le_of_ble_eq_true rfl, Nat.le_of_ble_eq_true rfl⟩ rfl (fun v42 M42 hv42 => ?_)
      obtain ⟨e42, rfl⟩ := hv42
      rw [e42]
      refine S_iload_3 (q := 46) dX9_candidateError_45 rfl ?_
      refine S_callV2i (q := 49) dX9_candidateError_46 lk_X9_332 (by first | assumption | rfl) rfl rfl (k_X1_hasCandidate gO_1 hij64 ((gce _ hij).1) ((gce _ hij).2.2) (show m < 32 by omega)) rfl rfl (Nat.le_of_ble_eq_true rfl) ⟨Nat.le_of_ble_eq_true rfl, Nat.le_of_ble_eq_true rfl⟩ ⟨Nat.le_of_ble_eq_true rfl, Nat.le_of_ble_eq_true rfl⟩ rfl (fun v46 M46 hv46 => ?_)
      obtain ⟨e46, rfl⟩ := hv46
      rw [e46]
      refine S_if_eq (t := 56) (q := 52) dX9_candidateError_49 (by decide) rfl (fun hb49 => ?_) (fun hb49 => ?_)
      · have hd := bI_0.mp hb49
        refine S_bipush (q := 58) (-5) dX9_candidateError_56 (by decide) rfl ?_
        exact S_iret rfl dX9_candidateError_58 rfl rfl (⟨rfl, by unfold Ab.cn; rw [hl]; simp only [hw, if_neg hd]; try rfl⟩)
      · have hd := bI_n.mp hb49
        refine S_iconst (q := 53) (nI 0) dX9_candidateError_52 (by decide) rfl ?_
        refine S_goto (t := 58) dX9_candidateError_53 (by decide) ?_
        exact S_iret rfl dX9_candidateError_58 rfl rfl (⟨rfl, by unfold Ab.cn; rw [hl]; simp only [hw, if_pos hd]; try rfl⟩)
    · have hw := iw_no (bI_0.mp hb26)
      refine S_bipush (q := 31) (-2) dX9_candidateError_29 (by decide) rfl ?_
      exact S_iret rfl dX9_candidateError_31 rfl rfl (⟨rfl, by unfold Ab.cn; rw [hl]; simp only [hw]; try rfl⟩)
  · have hl := cl_no (A := A) (bI_0.mp hb9)
    refine S_iconst (q := 13) (-1) dX9_candidateError_12 (by decide) rfl ?_
    exact S_iret rfl dX9_candidateError_13 rfl rfl (⟨rfl, by unfold Ab.cn; rw [hl]; rfl⟩)
set_option maxHeartbeats 4000000 in
set_option maxRecDepth 100000 in
theorem k_X9_otherCandidatesError {l : Launch} {G : Gd} {b0 : Nat} {M : Mem} {A : Ab} {x z k : Int32}  (hC : CR M A) (hk : A.ok)  : Ct l G b0 yX9_otherCandidatesError cX9_otherCandidatesError 5 (some .int) (rmZ 3 67) LAY LAY M [.ref (b0 + 0), .int x, .int z, .int k] (fun v M' => M' = M ∧ v = erV (A.cn2 x z k)) := by
  obtain ⟨⟨g0, g1, g2, gcu, gce⟩, hru, hbl, hbd, hsn, hss, ⟨nx, hnx, hx1, hx2, hx3⟩, ⟨htl, htx⟩, ⟨hfl, hfo⟩, htb⟩ := id hC
  have hP := hk.P
  have hr1 := hP.r1
  have hr8 := hP.r8
  have hc1 := hP.c1
  have hc8 := hP.c8
  have hk1 := hP.k1
  have hk3 := hP.k3
  have h64 := rc64 hr8 hc8
  have hH8 := hk.H8
  have hN : A.N = A.P.r + A.P.c := rfl
  refine Ct.of [some (.ref (b0 + 0)), some (.int x), some (.int z), some (.int k), none] (by decide) (Nat.le_of_ble_eq_true rfl) rfl rfl ?_
  refine S_aload_0 (q := 1) dX9_otherCandidatesError_0 rfl ?_
  refine S_iload_1 (q := 2) dX9_otherCandidatesError_1 rfl ?_
  refine S_iload_2 (q := 3) dX9_otherCandidatesError_2 rfl ?_
  refine S_iload_3 (q := 4) dX9_otherCandidatesError_3 rfl ?_
  refine S_callV3i (q := 7) dX9_otherCandidatesError_4 lk_X9_178 (by first | assumption | rfl) rfl rfl (k_X9_candidateError hC hk) rfl rfl (Nat.le_of_ble_eq_true rfl) ⟨Nat.le_of_ble_eq_true rfl, Nat.le_of_ble_eq_true rfl⟩ ⟨Nat.le_of_ble_eq_true rfl, Nat.le_of_ble_eq_true rfl⟩ rfl (fun v4 M4 hv4 => ?_)
  obtain ⟨e4, rfl⟩ := hv4
  rw [e4]
  refine S_istore_4 (q := 9) dX9_otherCandidatesError_7 rfl ?_
  refine S_iload_4 (q := 11) dX9_otherCandidatesError_9 rfl ?_
  refine S_if_ne (t := 36) (q := 14) dX9_otherCandidatesError_11 (by decide) rfl (fun hb11 => ?_) (fun hb11 => ?_)
  · have hq := cn_n hb11
    refine S_iload_4 (q := 38) dX9_otherCandidatesError_36 rfl ?_
    exact S_iret rfl dX9_otherCandidatesError_38 rfl rfl (⟨rfl, by unfold Ab.cn2; rw [hq]⟩)
  · obtain ⟨i, j, m, hi, hj, hm, rfl, rfl, rfl, hd, hq⟩ := cn_0 hP hb11
    have hij := cel_lt hi hj
    have hij64 : i * A.P.c + j < 64 := by omega
    refine S_aload_0 (q := 15) dX9_otherCandidatesError_14 rfl ?_
    refine S_getR (q := 18) dX9_otherCandidatesError_15 fl_X9_12 (by first | assumption | rfl) (by rfl) rfl ?_
    refine S_aload_0 (q := 19) dX9_otherCandidatesError_18 rfl ?_
    refine S_getR (q := 22) dX9_otherCandidatesError_19 fl_X9_12 (by first | assumption | rfl) (by rfl) rfl ?_
    refine S_iload_1 (q := 23) dX9_otherCandidatesError_22 rfl ?_
    refine S_iload_2 (q := 24) dX9_otherCandidatesError_23 rfl ?_
    refine S_callV2i (q := 27) dX9_otherCandidatesError_24 lk_X9_169 (by first | assumption | rfl) rfl rfl (k_X1_cellAt gO_1 g1) rfl rfl (Nat.le_of_ble_eq_true rfl) ⟨Nat.le_of_ble_eq_true rfl, Nat.le_of_ble_eq_true rfl⟩ ⟨Nat.le_of_ble_eq_true rfl, Nat.le_of_ble_eq_true rfl⟩ rfl (fun v24 M24 hv24 => ?_)
    obtain ⟨e24, rfl⟩ := hv24
    rw [e24]
    refine S_callV1i (q := 30) dX9_otherCandidatesError_27 lk_X9_172 (by first | assumption | rfl) rfl rfl (k_X1_isDecided gO_1 hij64 ((gce _ hij).1) ((gce _ hij).2.2)) rfl rfl (Nat.le_of_ble_eq_true rfl) ⟨Nat.le_of_ble_eq_true rfl, Nat.le_of_ble_eq_true rfl⟩ ⟨Nat.le_of_ble_eq_true rfl, Nat.le_of_ble_eq_true rfl⟩ rfl (fun v27 M27 hv27 => ?_)
    obtain ⟨e27, rfl⟩ := hv27
    rw [e27]
    refine S_if_eq (t := 36) (q := 33) dX9_otherCandidatesError_30 (by decide) rfl (fun hb30 => ?_) (fun hb30 => ?_)
    · have h1 : ¬ pc4 (A.f (i * A.P.c + j)) = 1 := bI_0.mp hb30
      refine S_iload_4 (q := 38) dX9_otherCandidatesError_36 rfl ?_
      exact S_iret rfl dX9_otherCandidatesError_38 rfl rfl (⟨rfl, by unfold Ab.cn2; rw [hq]; simp only [if_neg h1]; try rfl⟩)
    · have h1 : pc4 (A.f (i * A.P.c + j)) = 1 := bI_n.mp hb30
      refine S_bipush (q := 35) (-5) dX9_otherCandidatesError_33 (by decide) rfl ?_
      exact S_iret rfl dX9_otherCandidatesError_35 rfl rfl (⟨rfl, by unfold Ab.cn2; rw [hq]; simp only [if_pos h1]; try rfl⟩)
set_option maxHeartbeats 4000000 in
set_option maxRecDepth 100000 in
theorem k_X9_hasTable {l : Launch} {G : Gd} {b0 : Nat} {M : Mem} {x : Int32} : Ct l G b0 yX9_hasTable cX9_hasTable 1 (some .boolean) (rmZ 1 22) LAY LAY M [.int x] (fun v M' => M' = M ∧ v = bI (0 ≤ x ∧ x < nI 3)) := by
  refine Ct.of [some (.int x)] (by decide) (Nat.le_of_ble_eq_true rfl) rfl rfl ?_
  refine S_iload_0 (q := 1) dX9_hasTable_0 rfl ?_
  refine S_iconst (q := 2) (nI 0) dX9_hasTable_1 (by decide) rfl ?_
  refine S_iconst (q := 3) (nI 2) dX9_hasTable_2 (by decide) rfl ?_
  refine S_callS3i (q := 6) dX9_hasTable_3 lk_X9_101 (k_X9_isWithin) rfl rfl (Nat.le_of_ble_eq_true rfl) ⟨Nat.le_of_ble_eq_true rfl, Nat.le_of_ble_eq_true rfl⟩ ⟨Nat.le_of_ble_eq_true rfl, Nat.le_of_ble_eq_true rfl⟩ rfl (fun v3 M3 hv3 => ?_)
  obtain ⟨e3, rfl⟩ := hv3
  rw [e3]
  exact S_iret rfl dX9_hasTable_6 bI_nar rfl (⟨rfl, bI_c (ix_iw (n := 3) (by decide))⟩)
set_option maxHeartbeats 4000000 in
set_option maxRecDepth 100000 in
theorem k_X9_tableError {l : Launch} {G : Gd} {b0 : Nat} {M : Mem} {A : Ab} {x : Int32}  (hC : CR M A) (hk : A.ok)  : Ct l G b0 yX9_tableError cX9_tableError 2 (some .int) (rmZ 2 42) LAY LAY M [.ref (b0 + 0), .int x] (fun v M' => M' = M ∧ v = tE A x) := by
  obtain ⟨⟨g0, g1, g2, gcu, gce⟩, hru, hbl, hbd, hsn, hss, ⟨nx, hnx, hx1, hx2, hx3⟩, ⟨htl, htx⟩, ⟨hfl, hfo⟩, htb⟩ := id hC
  have hP := hk.P
  have hr1 := hP.r1
  have hr8 := hP.r8
  have hc1 := hP.c1
  have hc8 := hP.c8
  have hk1 := hP.k1
  have hk3 := hP.k3
  have h64 := rc64 hr8 hc8
  have hH8 := hk.H8
  have hN : A.N = A.P.r + A.P.c := rfl
  refine Ct.of [some (.ref (b0 + 0)), some (.int x)] (by decide) (Nat.le_of_ble_eq_true rfl) rfl rfl ?_
  refine S_iload_1 (q := 1) dX9_tableError_0 rfl ?_
  refine S_callS1i (q := 4) dX9_tableError_1 lk_X9_305 (k_X9_hasTable) rfl rfl (Nat.le_of_ble_eq_true rfl) ⟨Nat.le_of_ble_eq_true rfl, Nat.le_of_ble_eq_true rfl⟩ ⟨Nat.le_of_ble_eq_true rfl, Nat.le_of_ble_eq_true rfl⟩ rfl (fun v1 M1 hv1 => ?_)
  obtain ⟨e1, rfl⟩ := hv1
  rw [e1]
  refine S_if_ne (t := 10) (q := 7) dX9_tableError_4 (by decide) rfl (fun hb4 => ?_) (fun hb4 => ?_)
  · obtain ⟨t, ht, rfl, hq⟩ := ix_ok (n := 3) (by decide) (bI_n.mp hb4)
    refine S_aload_0 (q := 11) dX9_tableError_10 rfl ?_
    refine S_getR (q := 14) dX9_tableError_11 fl_X9_93 (by first | assumption | rfl | exact (tst_t t ht).1) (by rfl) rfl ?_
    refine S_iload_1 (q := 15) dX9_tableError_14 rfl ?_
    refine S_aald (q := 16) dX9_tableError_15 (by first | assumption | rfl | exact (tst_t t ht).1) (by decide) (by exact vp_in_nI (N := 3) ht (by decide)) (by rw [nI_clamp (by omega)]; exact tst_at t ht) rfl ?_
    refine S_getI (q := 19) dX9_tableError_16 fl_X9_323 (by first | assumption | rfl | exact (tst_t t ht).1) (by rfl) rfl ?_
    refine S_iconst (q := 20) (-1) dX9_tableError_19 (by decide) rfl ?_
    refine S_icmp_ne (t := 28) (q := 23) dX9_tableError_20 (by decide) rfl (fun hb20 => ?_) (fun hb20 => ?_)
    · have hn : ∃ q, A.tb t = some q := by
        cases e : A.tb t with
        | none => exact absurd ((htb t ht).1 e) hb20
        | some q => exact ⟨q, rfl⟩
      obtain ⟨q, hn⟩ := hn
      refine S_iconst (q := 29) (nI 0) dX9_tableError_28 (by decide) rfl ?_
      exact S_iret rfl dX9_tableError_29 rfl rfl (⟨rfl, by unfold tE; rw [hq]; simp only [hn]; try rfl⟩)
    · have hn : A.tb t = none := by
        cases e : A.tb t with
        | none => rfl
        | some q =>
          obtain ⟨ty, n, it⟩ := q
          have h1 := ((htb t ht).2 ty n it e).1
          have h2 := (hk.tb t ty n it e).1
          rw [hb20] at h1
          exact absurd (congrArg Int32.toInt h1) (by rw [nI_toInt (by omega)]; have : (-1 : Int32).toInt = -1 := by decide
                                                     omega)
      refine S_bipush (q := 25) (-11) dX9_tableError_23 (by decide) rfl ?_
      refine S_goto (t := 29) dX9_tableError_25 (by decide) ?_
      exact S_iret rfl dX9_tableError_29 rfl rfl (⟨rfl, by unfold tE; rw [hq]; simp only [hn]⟩)
  · have hq := ix_no (bI_0.mp hb4)
    refine S_bipush (q := 9) (-2) dX9_tableError_7 (by decide) rfl ?_
    exact S_iret rfl dX9_tableError_9 rfl rfl (⟨rfl, by unfold tE; rw [hq]⟩)
set_option maxHeartbeats 4000000 in
set_option maxRecDepth 100000 in
theorem k_X9_elementError {l : Launch} {G : Gd} {b0 : Nat} {M : Mem} {A : Ab} {x y : Int32}  (hC : CR M A) (hk : A.ok)  : Ct l G b0 yX9_elementError cX9_elementError 4 (some .int) (rmZ 3 63) LAY LAY M [.ref (b0 + 0), .int x, .int y] (fun v M' => M' = M ∧ v = eE A x y) := by
  obtain ⟨⟨g0, g1, g2, gcu, gce⟩, hru, hbl, hbd, hsn, hss, ⟨nx, hnx, hx1, hx2, hx3⟩, ⟨htl, htx⟩, ⟨hfl, hfo⟩, htb⟩ := id hC
  have hP := hk.P
  have hr1 := hP.r1
  have hr8 := hP.r8
  have hc1 := hP.c1
  have hc8 := hP.c8
  have hk1 := hP.k1
  have hk3 := hP.k3
  have h64 := rc64 hr8 hc8
  have hH8 := hk.H8
  have hN : A.N = A.P.r + A.P.c := rfl
  refine Ct.of [some (.ref (b0 + 0)), some (.int x), some (.int y), none] (by decide) (Nat.le_of_ble_eq_true rfl) rfl rfl ?_
  refine S_aload_0 (q := 1) dX9_elementError_0 rfl ?_
  refine S_iload_1 (q := 2) dX9_elementError_1 rfl ?_
  refine S_callV1i (q := 5) dX9_elementError_2 lk_X9_320 (by first | assumption | rfl | exact (tst_t t ht).1) rfl rfl (k_X9_tableError hC hk) rfl rfl (Nat.le_of_ble_eq_true rfl) ⟨Nat.le_of_ble_eq_true rfl, Nat.le_of_ble_eq_true rfl⟩ ⟨Nat.le_of_ble_eq_true rfl, Nat.le_of_ble_eq_true rfl⟩ rfl (fun v2 M2 hv2 => ?_)
  obtain ⟨e2, rfl⟩ := hv2
  rw [e2]
  refine S_istore_3 (q := 6) dX9_elementError_5 rfl ?_
  refine S_iload_3 (q := 7) dX9_elementError_6 rfl ?_
  refine S_if_ne (t := 32) (q := 10) dX9_elementError_7 (by decide) rfl (fun hb7 => ?_) (fun hb7 => ?_)
  · have hq : eE A x y = tE A x := by
      unfold eE tE at *
      cases e : ix x 3 with
      | none => rfl
      | some t =>
        rw [e] at hb7
        simp only at hb7 ⊢
        cases e2 : A.tb t with
        | none => rfl
        | some q => rw [e2] at hb7; exact absurd rfl hb7
    refine S_iload_3 (q := 33) dX9_elementError_32 rfl ?_
    exact S_iret rfl dX9_elementError_33 rfl rfl (⟨rfl, hq.symm⟩)
  · obtain ⟨t, ty, n, it, ht, rfl, hq, hn⟩ := tE_0 hb7
    have h64n := (hk.tb t ty n it hn).2.1
    obtain ⟨q1, q2, q3⟩ := (htb t ht).2 ty n it hn
    refine S_iload_2 (q := 11) dX9_elementError_10 rfl ?_
    refine S_iconst (q := 12) (nI 0) dX9_elementError_11 (by decide) rfl ?_
    refine S_aload_0 (q := 13) dX9_elementError_12 rfl ?_
    refine S_getR (q := 16) dX9_elementError_13 fl_X9_93 (by first | assumption | rfl | exact (tst_t t ht).1) (by rfl) rfl ?_
    refine S_iload_1 (q := 17) dX9_elementError_16 rfl ?_
    refine S_aald (q := 18) dX9_elementError_17 (by first | assumption | rfl | exact (tst_t t ht).1) (by decide) (by exact vp_in_nI (N := 3) ht (by decide)) (by rw [nI_clamp (by omega)]; exact tst_at t ht) rfl ?_
    refine S_getI (q := 21) dX9_elementError_18 fl_X9_326 (by first | assumption | rfl | exact (tst_t t ht).1) (by rfl) rfl ?_
    rw [q2]
    refine S_iconst (q := 22) (nI 1) dX9_elementError_21 (by decide) rfl ?_
    refine S_isub (q := 23) dX9_elementError_22 rfl ?_
    refine S_callS3i (q := 26) dX9_elementError_23 lk_X9_101 (k_X9_isWithin) rfl rfl (Nat.le_of_ble_eq_true rfl) ⟨Nat.le_of_ble_eq_true rfl, Nat.le_of_ble_eq_true rfl⟩ ⟨Nat.le_of_ble_eq_true rfl, Nat.le_of_ble_eq_true rfl⟩ rfl (fun v23 M23 hv23 => ?_)
    obtain ⟨e23, rfl⟩ := hv23
    rw [e23]
    refine S_if_ne (t := 32) (q := 29) dX9_elementError_26 (by decide) rfl (fun hb26 => ?_) (fun hb26 => ?_)
    · obtain ⟨j, hj, rfl, hz⟩ := ix_ok (n := n) (by omega) ((ix_iw (by omega)).mp (bI_n.mp hb26))
      refine S_iload_3 (q := 33) dX9_elementError_32 rfl ?_
      exact S_iret rfl dX9_elementError_33 rfl rfl (⟨rfl, by unfold eE tE; rw [hq]; simp only [hn, hz]⟩)
    · have hz := ix_no (n := n) (fun y => bI_0.mp hb26 ((ix_iw (by omega)).mpr y))
      refine S_bipush (q := 31) (-13) dX9_elementError_29 (by decide) rfl ?_
      exact S_iret rfl dX9_elementError_31 rfl rfl (⟨rfl, by unfold eE; rw [hq]; simp only [hn, hz]⟩)
set_option maxHeartbeats 4000000 in
set_option maxRecDepth 100000 in
theorem k_X9_readTable {l : Launch} {G : Gd} {b0 : Nat} {M : Mem} {A : Ab} {x y : Int32}  (hC : CR M A) (hk : A.ok)  : Ct l G b0 yX9_readTable cX9_readTable 4 (some .int) (rmZ 4 86) LAY LAY M [.ref (b0 + 0), .int x, .int y] (fun v M' => RES M (o_rtab A x y) v M') := by
  obtain ⟨⟨g0, g1, g2, gcu, gce⟩, hru, hbl, hbd, hsn, hss, ⟨nx, hnx, hx1, hx2, hx3⟩, ⟨htl, htx⟩, ⟨hfl, hfo⟩, htb⟩ := id hC
  have hP := hk.P
  have hr1 := hP.r1
  have hr8 := hP.r8
  have hc1 := hP.c1
  have hc8 := hP.c8
  have hk1 := hP.k1
  have hk3 := hP.k3
  have h64 := rc64 hr8 hc8
  have hH8 := hk.H8
  have hN : A.N = A.P.r + A.P.c := rfl
  refine Ct.of [some (.ref (b0 + 0)), some (.int x), some (.int y), none] (by decide) (Nat.le_of_ble_eq_true rfl) rfl rfl ?_
  refine S_aload_0 (q := 1) dX9_readTable_0 rfl ?_
  refine S_iload_1 (q := 2) dX9_readTable_1 rfl ?_
  refine S_iload_2 (q := 3) dX9_readTable_2 rfl ?_
  refine S_callV2i (q := 6) dX9_readTable_3 lk_X9_311 (by first | assumption | rfl | exact (tst_t t ht).1 | exact (tst_t t ht).2) rfl rfl (k_X9_elementError hC hk) rfl rfl (Nat.le_of_ble_eq_true rfl) ⟨Nat.le_of_ble_eq_true rfl, Nat.le_of_ble_eq_true rfl⟩ ⟨Nat.le_of_ble_eq_true rfl, Nat.le_of_ble_eq_true rfl⟩ rfl (fun v3 M3 hv3 => ?_)
  obtain ⟨e3, rfl⟩ := hv3
  rw [e3]
  refine S_istore_3 (q := 7) dX9_readTable_6 rfl ?_
  refine S_iload_3 (q := 8) dX9_readTable_7 rfl ?_
  refine S_if_eq (t := 15) (q := 11) dX9_readTable_8 (by decide) rfl (fun hb8 => ?_) (fun hb8 => ?_)
  · obtain ⟨t, ty, n, it, j, ht, rfl, hj, rfl, hq, hn, hz⟩ := eE_0 hk hb8
    have h64n := (hk.tb t ty n it hn).2.1
    obtain ⟨q1, q2, q3⟩ := (htb t ht).2 ty n it hn
    refine S_aload_0 (q := 16) dX9_readTable_15 rfl ?_
    refine S_getR (q := 19) dX9_readTable_16 fl_X9_93 (by first | assumption | rfl | exact (tst_t t ht).1 | exact (tst_t t ht).2) (by rfl) rfl ?_
    refine S_iload_1 (q := 20) dX9_readTable_19 rfl ?_
    refine S_aald (q := 21) dX9_readTable_20 (by first | assumption | rfl | exact (tst_t t ht).1 | exact (tst_t t ht).2) (by decide) (by exact vp_in_nI (N := 3) ht (by decide)) (by rw [nI_clamp (by omega)]; exact tst_at t ht) rfl ?_
    refine S_getR (q := 24) dX9_readTable_21 fl_X9_317 (by first | assumption | rfl | exact (tst_t t ht).1 | exact (tst_t t ht).2) (by rfl) rfl ?_
    refine S_iload_2 (q := 25) dX9_readTable_24 rfl ?_
    refine S_ialdV (i := j) (val := it j) (q := 26) dX9_readTable_25 (by first | assumption | rfl | exact (tst_t t ht).1 | exact (tst_t t ht).2) (by first | (simp only [nI_add, pk_mul, nI_1]; done) | rfl) (by omega) (by decide) (by rw [show 134 + 2 * t + 1 = 135 + 2 * t by omega]; exact q3 j (by omega)) rfl ?_
    exact S_iret rfl dX9_readTable_26 rfl rfl (RES.same hC (by unfold o_rtab; rw [hq]; simp only [hn, hz]))
  · refine S_iload_3 (q := 12) dX9_readTable_11 rfl ?_
    refine S_goto (t := 26) dX9_readTable_12 (by decide) ?_
    exact S_iret rfl dX9_readTable_26 rfl rfl (RES.same hC (rtab_n hb8))
set_option maxHeartbeats 4000000 in
set_option maxRecDepth 100000 in
theorem k_X9_averageCandidates {l : Launch} {G : Gd} {b0 : Nat} {M : Mem} {A : Ab} {x : Int32}  (hC : CR M A) (hk : A.ok)  : Ct l G b0 yX9_averageCandidates cX9_averageCandidates 6 (some .int) (rmZ 2 43) LAY LAY M [.ref (b0 + 0), .int x] (fun v M' => RES M (o_avg A x) v M') := by
  obtain ⟨⟨g0, g1, g2, gcu, gce⟩, hru, hbl, hbd, hsn, hss, ⟨nx, hnx, hx1, hx2, hx3⟩, ⟨htl, htx⟩, ⟨hfl, hfo⟩, htb⟩ := id hC
  have hP := hk.P
  have hr1 := hP.r1
  have hr8 := hP.r8
  have hc1 := hP.c1
  have hc8 := hP.c8
  have hk1 := hP.k1
  have hk3 := hP.k3
  have h64 := rc64 hr8 hc8
  have hH8 := hk.H8
  have hN : A.N = A.P.r + A.P.c := rfl
  refine Ct.of [some (.ref (b0 + 0)), some (.int x), none, none, none, none] (by decide) (Nat.le_of_ble_eq_true rfl) rfl rfl ?_
  refine S_aload_0 (q := 1) dX9_averageCandidates_0 rfl ?_
  refine S_getR (q := 4) dX9_averageCandidates_1 fl_X9_12 (by first | assumption | rfl) (by rfl) rfl ?_
  refine S_iload_1 (q := 5) dX9_averageCandidates_4 rfl ?_
  refine S_callV1i (q := 8) dX9_averageCandidates_5 lk_X9_124 (by first | assumption | rfl) rfl rfl (k_X1_hasLine gO_1 g0 g1 hr8 hc8 hr1) rfl rfl (Nat.le_of_ble_eq_true rfl) ⟨Nat.le_of_ble_eq_true rfl, Nat.le_of_ble_eq_true rfl⟩ ⟨Nat.le_of_ble_eq_true rfl, Nat.le_of_ble_eq_true rfl⟩ rfl (fun v5 M5 hv5 => ?_)
  obtain ⟨e5, rfl⟩ := hv5
  rw [e5]
  refine S_if_ne (t := 13) (q := 11) dX9_averageCandidates_8 (by decide) rfl (fun hb8 => ?_) (fun hb8 => ?_)
  · obtain ⟨i0, hi0, rfl, hl⟩ := ln_ok (A := A) hP (bI_n.mp hb8)
    have hi16 : i0 < 16 := by omega
    have hl8 := lnLen_le (i := i0) hr8 hc8
    refine S_iconst (q := 14) (nI 0) dX9_averageCandidates_13 (by decide) rfl ?_
    refine S_istore_2 (q := 15) dX9_averageCandidates_14 rfl ?_
    refine S_iconst (q := 16) (nI 0) dX9_averageCandidates_15 (by decide) rfl ?_
    refine S_istore_3 (q := 17) dX9_averageCandidates_16 rfl ?_
    refine S_iconst (q := 18) (nI 0) dX9_averageCandidates_17 (by decide) rfl ?_
    refine S_istore_4 (q := 20) dX9_averageCandidates_18 rfl ?_
    suffices H : ∀ (d : Nat) (i : Nat), (lnLen A.P.r A.P.c i0) - i = d → i ≤ (lnLen A.P.r A.P.c i0) → S l G b0 yX9_averageCandidates cX9_averageCandidates 6 (some .int) (rmZ 2 43) LAY (fun v M' => RES M (o_avg A (nI i0)) v M') 0 0 0 0 LAY 20 [some (.ref (b0 + 0)), some (.int (nI i0)), some (.int (nI (unL A.P A.f i0 (i)))), some (.int (nI (unS A.P A.f i0 (i)))), some (.int (nI (i))), none] [] M from H _ 0 rfl (by omega)
    intro d
    induction d with
    | zero =>
      intro i hd hi
      have e : (lnLen A.P.r A.P.c i0) = i := by omega
      subst e
      have hu8 : unL A.P A.f i0 (lnLen A.P.r A.P.c i0) ≤ 8 := by unfold unL; exact Nat.le_trans (sm_le (b := 1) (fun j _ => by split <;> omega)) (by omega)
      have hs8 : unS A.P A.f i0 (lnLen A.P.r A.P.c i0) ≤ 32 := by unfold unS; exact Nat.le_trans (sm_le (b := 4) (fun j _ => by split <;> first | omega | exact pc4_le _)) (by omega)
      refine S_iload_4 (q := 22) dX9_averageCandidates_20 rfl ?_
      refine S_aload_0 (q := 23) dX9_averageCandidates_22 rfl ?_
      refine S_getR (q := 26) dX9_averageCandidates_23 fl_X9_12 (by first | assumption | rfl) (by rfl) rfl ?_
      refine S_iload_1 (q := 27) dX9_averageCandidates_26 rfl ?_
      refine S_callV1i (q := 30) dX9_averageCandidates_27 lk_X9_193 (by first | assumption | rfl) rfl rfl (k_X1_lineLength gO_1 g0 g1 hr8 hc8 hi16) rfl rfl (Nat.le_of_ble_eq_true rfl) ⟨Nat.le_of_ble_eq_true rfl, Nat.le_of_ble_eq_true rfl⟩ ⟨Nat.le_of_ble_eq_true rfl, Nat.le_of_ble_eq_true rfl⟩ rfl (fun v27 M27 hv27 => ?_)
      obtain ⟨e27, rfl⟩ := hv27
      rw [e27]
      refine S_icmp_ge (t := 82) (q := 33) dX9_averageCandidates_30 (by decide) rfl (fun hb30 => ?_) (fun hb30 => ?_)
      · refine S_iload_2 (q := 83) dX9_averageCandidates_82 rfl ?_
        refine S_if_ne (t := 91) (q := 86) dX9_averageCandidates_83 (by decide) rfl (fun hb83 => ?_) (fun hb83 => ?_)
        · have hu : ¬ unL A.P A.f i0 (lnLen A.P.r A.P.c i0) = 0 := fun e => hb83 (by rw [e]; rfl)
          refine S_iload_3 (q := 92) dX9_averageCandidates_91 rfl ?_
          refine S_bipush (q := 94) (nI 100) dX9_averageCandidates_92 (by decide) rfl ?_
          refine S_imul (q := 95) dX9_averageCandidates_94 rfl ?_
          refine S_iload_2 (q := 96) dX9_averageCandidates_95 rfl ?_
          refine S_idiv (q := 97) dX9_averageCandidates_96 hb83 rfl ?_
          exact S_iret rfl dX9_averageCandidates_97 rfl rfl (RES.same hC (by unfold o_avg; rw [hl]; simp only [if_neg hu]; rw [pk_mul, pk_div (by omega) (by omega) (by omega)]))
        · have hu : unL A.P A.f i0 (lnLen A.P.r A.P.c i0) = 0 := nI_inj (by omega) (by decide) hb83
          refine S_bipush (q := 88) (-8) dX9_averageCandidates_86 (by decide) rfl ?_
          refine S_goto (t := 97) dX9_averageCandidates_88 (by decide) ?_
          exact S_iret rfl dX9_averageCandidates_97 rfl rfl (RES.same hC (by unfold o_avg; rw [hl]; simp only [if_pos hu]))
      · exact absurd (Int32.le_refl _) hb30
    | succ d ih =>
      intro i hd hi
      have hlt : i < (lnLen A.P.r A.P.c i0) := by omega
      have hcel := lnCell_lt hi0 hlt
      have hcel64 : lnCell A.P.r A.P.c i0 i < 64 := by omega
      refine S_iload_4 (q := 22) dX9_averageCandidates_20 rfl ?_
      refine S_aload_0 (q := 23) dX9_averageCandidates_22 rfl ?_
      refine S_getR (q := 26) dX9_averageCandidates_23 fl_X9_12 (by first | assumption | rfl) (by rfl) rfl ?_
      refine S_iload_1 (q := 27) dX9_averageCandidates_26 rfl ?_
      refine S_callV1i (q := 30) dX9_averageCandidates_27 lk_X9_193 (by first | assumption | rfl) rfl rfl (k_X1_lineLength gO_1 g0 g1 hr8 hc8 hi16) rfl rfl (Nat.le_of_ble_eq_true rfl) ⟨Nat.le_of_ble_eq_true rfl, Nat.le_of_ble_eq_true rfl⟩ ⟨Nat.le_of_ble_eq_true rfl, Nat.le_of_ble_eq_true rfl⟩ rfl (fun v27 M27 hv27 => ?_)
      obtain ⟨e27, rfl⟩ := hv27
      rw [e27]
      refine S_icmp_ge (t := 82) (q := 33) dX9_averageCandidates_30 (by decide) rfl (fun hb30 => ?_) (fun hb30 => ?_)
      · exact absurd hb30 (nI_ge hlt (by omega))
      · refine S_aload_0 (q := 34) dX9_averageCandidates_33 rfl ?_
        refine S_getR (q := 37) dX9_averageCandidates_34 fl_X9_12 (by first | assumption | rfl) (by rfl) rfl ?_
        refine S_iload_1 (q := 38) dX9_averageCandidates_37 rfl ?_
        refine S_iload_4 (q := 40) dX9_averageCandidates_38 rfl ?_
        refine S_callV2i (q := 43) dX9_averageCandidates_40 lk_X9_196 (by first | assumption | rfl) rfl rfl (k_X1_lineCell gO_1 g0 g1 hr8 hc8 hi16) rfl rfl (Nat.le_of_ble_eq_true rfl) ⟨Nat.le_of_ble_eq_true rfl, Nat.le_of_ble_eq_true rfl⟩ ⟨Nat.le_of_ble_eq_true rfl, Nat.le_of_ble_eq_true rfl⟩ rfl (fun v40 M40 hv40 => ?_)
        obtain ⟨e40, rfl⟩ := hv40
        rw [e40]
        refine S_istore_5 (q := 45) dX9_averageCandidates_43 rfl ?_
        refine S_aload_0 (q := 46) dX9_averageCandidates_45 rfl ?_
        refine S_getR (q := 49) dX9_averageCandidates_46 fl_X9_12 (by first | assumption | rfl) (by rfl) rfl ?_
        refine S_iload_5 (q := 51) dX9_averageCandidates_49 rfl ?_
        refine S_callV1i (q := 54) dX9_averageCandidates_51 lk_X9_172 (by first | assumption | rfl) rfl rfl (k_X1_isDecided gO_1 hcel64 ((gce _ hcel).1) ((gce _ hcel).2.2)) rfl rfl (Nat.le_of_ble_eq_true rfl) ⟨Nat.le_of_ble_eq_true rfl, Nat.le_of_ble_eq_true rfl⟩ ⟨Nat.le_of_ble_eq_true rfl, Nat.le_of_ble_eq_true rfl⟩ rfl (fun v51 M51 hv51 => ?_)
        obtain ⟨e51, rfl⟩ := hv51
        rw [e51]
        refine S_if_ne (t := 76) (q := 57) dX9_averageCandidates_54 (by decide) rfl (fun hb54 => ?_) (fun hb54 => ?_)
        · have hd : pc4 (A.f (lnCell A.P.r A.P.c i0 i)) = 1 := bI_n.mp hb54
          have e1 : unL A.P A.f i0 (i + 1) = unL A.P A.f i0 i := by show _ + (if _ then _ else _) = _; rw [if_pos hd]; rfl
          have e2 : unS A.P A.f i0 (i + 1) = unS A.P A.f i0 i := by show _ + (if _ then _ else _) = _; rw [if_pos hd]; rfl
          refine S_iinc_4 (q := 79) (nI (i + 1)) dX9_averageCandidates_76 (inc1 _) rfl ?_
          refine S_goto (t := 20) dX9_averageCandidates_79 (by decide) ?_
          try rw [← e1, ← e2]
          refine S_fgt5 ?_
          exact ih (i + 1) (by omega) hlt
        · have hd : ¬ pc4 (A.f (lnCell A.P.r A.P.c i0 i)) = 1 := bI_0.mp hb54
          have e1 : unL A.P A.f i0 (i + 1) = unL A.P A.f i0 i + 1 := by show _ + (if _ then _ else _) = _; rw [if_neg hd]; rfl
          have e2 : unS A.P A.f i0 (i + 1) = unS A.P A.f i0 i + pc4 (A.f (lnCell A.P.r A.P.c i0 i)) := by show _ + (if _ then _ else _) = _; rw [if_neg hd]; rfl
          refine S_iinc_2 (q := 60) (nI (unL A.P A.f i0 i + 1)) dX9_averageCandidates_57 (inc1 _) rfl ?_
          refine S_iload_3 (q := 61) dX9_averageCandidates_60 rfl ?_
          refine S_aload_0 (q := 62) dX9_averageCandidates_61 rfl ?_
          refine S_getR (q := 65) dX9_averageCandidates_62 fl_X9_12 (by first | assumption | rfl) (by rfl) rfl ?_
          refine S_getR (q := 68) dX9_averageCandidates_65 fl_X9_165 (by first | assumption | rfl) (by rfl) rfl ?_
          refine S_iload_5 (q := 70) dX9_averageCandidates_68 rfl ?_
          refine S_ialdV (i := lnCell A.P.r A.P.c i0 i) (val := nI (A.f (lnCell A.P.r A.P.c i0 i))) (q := 71) dX9_averageCandidates_70 (by first | assumption | rfl) (by first | (simp only [nI_add, pk_mul, nI_1]; done) | rfl) (by omega) (by decide) ((gce _ hcel).1) rfl ?_
          refine S_callS1i (q := 74) dX9_averageCandidates_71 lk_X9_182 (k_J6_bitCount_0f7a4 ((gce _ hcel).2.2)) rfl rfl (Nat.le_of_ble_eq_true rfl) ⟨Nat.le_of_ble_eq_true rfl, Nat.le_of_ble_eq_true rfl⟩ ⟨Nat.le_of_ble_eq_true rfl, Nat.le_of_ble_eq_true rfl⟩ rfl (fun v71 M71 hv71 => ?_)
          obtain ⟨e71, rfl⟩ := hv71
          rw [e71]
          refine S_iadd (q := 75) dX9_averageCandidates_74 rfl ?_
          rw [nI_add]
          refine S_istore_3 (q := 76) dX9_averageCandidates_75 rfl ?_
          refine S_iinc_4 (q := 79) (nI (i + 1)) dX9_averageCandidates_76 (inc1 _) rfl ?_
          refine S_goto (t := 20) dX9_averageCandidates_79 (by decide) ?_
          try rw [← e1, ← e2]
          refine S_fgt5 ?_
          exact ih (i + 1) (by omega) hlt
  · have hl := ln_no (A := A) (bI_0.mp hb8)
    refine S_iconst (q := 12) (-1) dX9_averageCandidates_11 (by decide) rfl ?_
    exact S_iret rfl dX9_averageCandidates_12 rfl rfl (RES.same hC (by unfold o_avg; rw [hl]))
