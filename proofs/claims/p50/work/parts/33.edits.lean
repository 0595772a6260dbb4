/-- the grid is pushed -/
def PSH (M M1 : Mem) (A : Ab) : Prop := (∀ a, (a < 19 ∨ 69 ≤ a) → M1 a = M a) ∧ ∃ ny, ny < 8 ∧ M1 19 1 = nI ny ∧ M1 19 2 = nI A.ps.length ∧ ∀ s e, A.ps[s]? = some e → GR M1 (hst ((ny + 7 - s) % 8)) (hP A.P e) (hF e)
theorem PSH.of {M M1 : Mem} {A : Ab} {nx : Nat} (h : CR M A) (hk : A.ok) (n1 : nx < 8) (n4 : ∀ s e, A.H[s]? = some e → GR M (hst ((nx + 7 - s) % 8)) (hP A.P e) (hF e)) (hv : (∀ a, (a < hst nx ∨ hst nx + 6 ≤ a) → a ≠ 19 → M1 a = M a) ∧ CPY M M1 (hst nx) 1 ∧ M1 19 1 = nI ((nx + 1) % 8) ∧ M1 19 2 = nI (cnt8 A.H.length)) : PSH M M1 A :=
  ⟨fun a ha => hv.1 a (by unfold hst; omega) (by omega), h.pushed hk n1 n4 hv.1 hv.2.1 hv.2.2.1 hv.2.2.2⟩
theorem CR.ed {M M1 M2 : Mem} {A : Ab} {P : Pz} {f : Nat → Nat} (h : CR M A) (hp : PSH M M1 A) (hr : P.r = A.P.r) (hc : P.c = A.P.c) (hkk : P.k = A.P.k) (hf : ∀ a, (a < 1 ∨ 7 ≤ a) → M2 a = M1 a) (hg : GR M2 1 P f) : CR M2 (A.sG P f A.ps) := by
  obtain ⟨p1, ny, p2, p3, p4, p5⟩ := hp
  refine h.grid (fun a ha => by rw [hf a (by omega), p1 a (by omega)]) hg ⟨ny, p2, by rw [hf 19 (by omega)]; exact p3, by rw [hf 19 (by omega)]; exact p4, fun s e he => ?_⟩
  have e1 : hP P e = hP A.P e := by unfold hP Pz.wc; rw [hr, hc, hkk]
  rw [e1]
  exact (p5 s e he).fr (fun a a1 a2 => hf a (by have := hst_in ny s; omega))
theorem CLU.app {M : Mem} {c i x z : Nat} {P : Pz} (h : CLU M c P) (hi : i < 16) (hn : P.R i < 8) (hx1 : 1 ≤ x) (hx8 : x ≤ 8) (hz1 : 1 ≤ z) (hz3 : z ≤ 3) : CLU (up (up (up M (c + 2) (i * 8 + P.R i) (nI x)) (c + 3) (i * 8 + P.R i) (nI z)) (c + 1) i (nI (P.R i + 1))) c (P.wc (upf P.R i (P.R i + 1)) (fun a b => if a = i ∧ b = P.R i then x else P.len a b) (fun a b => if a = i ∧ b = P.R i then z else P.col a b)) := by
  intro a ha
  obtain ⟨h1, h2, h3⟩ := h a ha
  by_cases e : a = i
  · subst e
    refine ⟨by rw [up_s]; show _ = nI (upf P.R a (P.R a + 1) a); rw [upf_s], by show upf P.R a (P.R a + 1) a ≤ 8; rw [upf_s]; omega, fun j hj => ?_⟩
    have hj' : j < P.R a + 1 := by
      have : j < upf P.R a (P.R a + 1) a := hj
      rw [upf_s] at this
      exact this
    show up _ _ _ _ _ _ = nI (if a = a ∧ j = P.R a then x else P.len a j) ∧ 1 ≤ (if a = a ∧ j = P.R a then x else P.len a j) ∧ (if a = a ∧ j = P.R a then x else P.len a j) ≤ 8 ∧ up _ _ _ _ _ _ = nI (if a = a ∧ j = P.R a then z else P.col a j) ∧ 1 ≤ (if a = a ∧ j = P.R a then z else P.col a j) ∧ (if a = a ∧ j = P.R a then z else P.col a j) ≤ 3
    by_cases ej : j = P.R a
    · rw [if_pos ⟨rfl, ej⟩, if_pos ⟨rfl, ej⟩, ej]
      exact ⟨by rw [up_n (by omega), up_n (by omega), up_s], hx1, hx8, by rw [up_n (by omega), up_s], hz1, hz3⟩
    · rw [if_neg (fun y => ej y.2), if_neg (fun y => ej y.2)]
      obtain ⟨q1, q2, q3, q4, q5, q6⟩ := h3 j (by omega)
      exact ⟨by rw [up_n (by omega), up_n (by omega), up_eq, if_neg (by omega)]; exact q1, q2, q3, by rw [up_n (by omega), up_eq, if_neg (by omega), up_n (by omega)]; exact q4, q5, q6⟩
  · refine ⟨by rw [up_eq, if_neg (by omega), up_n (by omega), up_n (by omega)]; show _ = nI (upf P.R i (P.R i + 1) a); rw [upf_n e]; exact h1, by show upf P.R i (P.R i + 1) a ≤ 8; rw [upf_n e]; exact h2, fun j hj => ?_⟩
    have hj' : j < P.R a := by
      have : j < upf P.R i (P.R i + 1) a := hj
      rw [upf_n e] at this
      exact this
    show up _ _ _ _ _ _ = nI (if a = i ∧ j = P.R i then x else P.len a j) ∧ 1 ≤ (if a = i ∧ j = P.R i then x else P.len a j) ∧ (if a = i ∧ j = P.R i then x else P.len a j) ≤ 8 ∧ up _ _ _ _ _ _ = nI (if a = i ∧ j = P.R i then z else P.col a j) ∧ 1 ≤ (if a = i ∧ j = P.R i then z else P.col a j) ∧ (if a = i ∧ j = P.R i then z else P.col a j) ≤ 3
    rw [if_neg (fun y => e y.1), if_neg (fun y => e y.1)]
    obtain ⟨q1, q2, q3, q4, q5, q6⟩ := h3 j hj'
    exact ⟨by rw [up_n (by omega), up_n (by omega), up_eq, if_neg (by omega)]; exact q1, q2, q3, by rw [up_n (by omega), up_eq, if_neg (by omega), up_n (by omega)]; exact q4, q5, q6⟩
theorem CLU.emp {M : Mem} {c i : Nat} {P : Pz} (h : CLU M c P) : CLU (up M (c + 1) i (nI 0)) c (P.wc (upf P.R i 0) P.len P.col) := by
  intro a ha
  obtain ⟨h1, h2, h3⟩ := h a ha
  by_cases e : a = i
  · subst e
    refine ⟨by rw [up_s]; show _ = nI (upf P.R a 0 a); rw [upf_s], by show upf P.R a 0 a ≤ 8; rw [upf_s]; omega, fun j hj => ?_⟩
    have hj' : j < upf P.R a 0 a := hj
    rw [upf_s] at hj'
    exact absurd hj' (Nat.not_lt_zero j)
  · refine ⟨by rw [up_eq, if_neg (by omega)]; show _ = nI (upf P.R i 0 a); rw [upf_n e]; exact h1, by show upf P.R i 0 a ≤ 8; rw [upf_n e]; exact h2, fun j hj => ?_⟩
    have hj' : j < upf P.R i 0 a := hj
    rw [upf_n e] at hj'
    rw [up_n (by omega), up_n (by omega)]
    exact h3 j hj'
/-- other clues in a grid -/
theorem GR.clu {M M1 : Mem} {g : Nat} {P : Pz} {f : Nat → Nat} {R : Nat → Nat} {len col : Nat → Nat → Nat} (h : GR M g P f) (h0 : M1 g = M g) (h5 : M1 (g + 5) = M (g + 5)) (hc : CLU M1 (g + 1) (P.wc R len col)) : GR M1 g (P.wc R len col) f := ⟨by rw [h0]; exact h.1, by rw [h0]; exact h.2.1, by rw [h0]; exact h.2.2.1, hc, h.2.2.2.2.fr h5⟩
/-- another candidate set in a grid -/
theorem GR.cell {M : Mem} {g x v : Nat} {P : Pz} {f : Nat → Nat} (h : GR M g P f) (h1 : 1 ≤ v) (h2 : v < 16) : GR (up M (g + 5) x (nI v)) g P (upf f x v) := by
  obtain ⟨g0, g1, g2, g3, g4⟩ := h
  exact ⟨by rw [up_n (by omega)]; exact g0, by rw [up_n (by omega)]; exact g1, by rw [up_n (by omega)]; exact g2, g3.fr (up_n (by omega)) (up_n (by omega)) (up_n (by omega)), CE.up g4 h1 h2⟩
theorem GR.ce {M M1 : Mem} {g : Nat} {P : Pz} {f f1 : Nat → Nat} (h : GR M g P f) (hf : ∀ a, g ≤ a → a < g + 5 → M1 a = M a) (hc : CE M1 (g + 5) (P.r * P.c) f1) : GR M1 g P f1 := by
  obtain ⟨g0, g1, g2, g3, g4⟩ := h
  exact ⟨by rw [hf g (by omega) (by omega)]; exact g0, by rw [hf g (by omega) (by omega)]; exact g1, by rw [hf g (by omega) (by omega)]; exact g2, g3.fr (hf _ (by omega) (by omega)) (hf _ (by omega) (by omega)) (hf _ (by omega) (by omega)), hc⟩
theorem p2_16 {m : Nat} (h : m ≤ 3) : 1 ≤ 2 ^ m ∧ 2 ^ m < 16 := ⟨Nat.two_pow_pos m, by
  have : (2 : Nat) ^ m ≤ 2 ^ 3 := Nat.pow_le_pow_right (by decide) h
  omega⟩
set_option maxHeartbeats 4000000 in
set_option maxRecDepth 100000 in
theorem k_X9_keepOnly {Z : Lay} {l : Launch} {G : Gd} {b0 : Nat} {M : Mem} {A : Ab} {x z k : Int32}  (hC : CR M A) (hk : A.ok)  : Ct l G b0 yX9_keepOnly cX9_keepOnly 7 (some .int) (rmZ 4 123) (LYZ Z) (LYZ Z) M [.ref (b0 + 0), .int x, .int z, .int k] (fun v M' => RES M (o_keep A x z k) v M') := by
  obtain ⟨⟨g0, g1, g2, gcu, gce⟩, hru, hbl, hbd, hsn, hss, ⟨nx, hnx, hx1, hx2, hx3⟩, ⟨htl, htx⟩, ⟨hfl, hfo⟩, htb⟩ := id hC
  have hP := hk.P
  have hr1 := hP.r1
  have hr8 := hP.r8
  have hc1 := hP.c1
  have hc8 := hP.c8
  have hk1 := hP.k1
  have hk3 := hP.k3
  have h64 := rc64 hr8 hc8
  have hH8 := hk.H8
  have hN : A.N = A.P.r + A.P.c := rfl
  refine Ct.of [some (.ref (b0 + 0)), some (.int x), some (.int z), some (.int k), none, none, none] (by decide) (Nat.le_of_ble_eq_true rfl) rfl rfl ?_
  refine S_aload_0 (q := 1) dX9_keepOnly_0 rfl ?_
  refine S_iload_1 (q := 2) dX9_keepOnly_1 rfl ?_
  refine S_iload_2 (q := 3) dX9_keepOnly_2 rfl ?_
  refine S_iload_3 (q := 4) dX9_keepOnly_3 rfl ?_
  refine S_callV3i (q := 7) dX9_keepOnly_4 lk_X9_178 (by first | assumption | rfl) rfl rfl (k_X9_candidateError hC hk) rfl rfl (Nat.le_of_ble_eq_true rfl) ⟨Nat.le_of_ble_eq_true rfl, Nat.le_of_ble_eq_true rfl⟩ ⟨Nat.le_of_ble_eq_true rfl, Nat.le_of_ble_eq_true rfl⟩ rfl (fun v4 M4 hv4 => ?_)
  obtain ⟨e4, rfl⟩ := hv4
  rw [e4]
  refine S_istore_4 (q := 9) dX9_keepOnly_7 rfl ?_
  refine S_iload_4 (q := 11) dX9_keepOnly_9 rfl ?_
  refine S_if_eq (t := 17) (q := 14) dX9_keepOnly_11 (by decide) rfl (fun hb11 => ?_) (fun hb11 => ?_)
  · obtain ⟨i, j, m, hi, hj, hm, rfl, rfl, rfl, hd, hq⟩ := cn_0 hP hb11
    have hij := cel_lt hi hj
    have hij64 : i * A.P.c + j < 64 := by omega
    refine S_aload_0 (q := 18) dX9_keepOnly_17 rfl ?_
    refine S_getR (q := 21) dX9_keepOnly_18 fl_X9_12 (by first | assumption | rfl) (by rfl) rfl ?_
    refine S_iload_1 (q := 22) dX9_keepOnly_21 rfl ?_
    refine S_iload_2 (q := 23) dX9_keepOnly_22 rfl ?_
    refine S_callV2i (q := 26) dX9_keepOnly_23 lk_X9_169 (by first | assumption | rfl) rfl rfl (k_X1_cellAt (gO_1 (Z := Z)) g1) rfl rfl (Nat.le_of_ble_eq_true rfl) ⟨Nat.le_of_ble_eq_true rfl, Nat.le_of_ble_eq_true rfl⟩ ⟨Nat.le_of_ble_eq_true rfl, Nat.le_of_ble_eq_true rfl⟩ rfl (fun v23 M23 hv23 => ?_)
    obtain ⟨e23, rfl⟩ := hv23
    rw [e23]
    refine S_istore_5 (q := 28) dX9_keepOnly_26 rfl ?_
    refine S_aload_0 (q := 29) dX9_keepOnly_28 rfl ?_
    refine S_getR (q := 32) dX9_keepOnly_29 fl_X9_12 (by first | assumption | rfl) (by rfl) rfl ?_
    refine S_getR (q := 35) dX9_keepOnly_32 fl_X9_165 (by first | assumption | rfl) (by rfl) rfl ?_
    refine S_iload_5 (q := 37) dX9_keepOnly_35 rfl ?_
    refine S_ialdV (i := i * A.P.c + j) (val := nI (A.f (i * A.P.c + j))) (q := 38) dX9_keepOnly_37 (by first | assumption | rfl) (by first | (simp only [nI_add, pk_mul, nI_1]; done) | rfl) (by omega) (by decide) ((gce _ hij).1) rfl ?_
    refine S_callS1i (q := 41) dX9_keepOnly_38 lk_X9_182 (k_J6_bitCount_0f7a4 ((gce _ hij).2.2)) rfl rfl (Nat.le_of_ble_eq_true rfl) ⟨Nat.le_of_ble_eq_true rfl, Nat.le_of_ble_eq_true rfl⟩ ⟨Nat.le_of_ble_eq_true rfl, Nat.le_of_ble_eq_true rfl⟩ rfl (fun v38 M38 hv38 => ?_)
    obtain ⟨e38, rfl⟩ := hv38
    rw [e38]
    refine S_iconst (q := 42) (nI 1) dX9_keepOnly_41 (by decide) rfl ?_
    refine S_isub (q := 43) dX9_keepOnly_42 rfl ?_
    have hpc := pc4_1 _ (gce _ hij).2.2 (gce _ hij).2.1
    rw [pk_sub hpc]
    refine S_istore_6 (q := 45) dX9_keepOnly_43 rfl ?_
    refine S_aload_0 (q := 46) dX9_keepOnly_45 rfl ?_
    refine S_getR (q := 49) dX9_keepOnly_46 fl_X9_29 (by first | assumption | rfl) (by rfl) rfl ?_
    refine S_aload_0 (q := 50) dX9_keepOnly_49 rfl ?_
    refine S_getR (q := 53) dX9_keepOnly_50 fl_X9_12 (by first | assumption | rfl) (by rfl) rfl ?_
    refine S_callV1v (q := 56) dX9_keepOnly_53 lk_X9_134 (by first | assumption | rfl) rfl rfl (k_X2_push (gO_1 (Z := Z)) (.inl (by decide)) hx1 hnx hx2 hH8) rfl rfl (Nat.le_of_ble_eq_true rfl) ⟨Nat.le_of_ble_eq_true rfl, Nat.le_of_ble_eq_true rfl⟩ ⟨Nat.le_of_ble_eq_true rfl, Nat.le_of_ble_eq_true rfl⟩ rfl (fun v53 M53 hv53 => ?_)
    have hp := PSH.of hC hk hnx hx3 hv53
    have hpf := hp.1
    refine S_aload_0 (q := 57) dX9_keepOnly_56 rfl ?_
    refine S_getR (q := 60) dX9_keepOnly_57 fl_X9_12 (by first | assumption | rfl) (by rfl) rfl ?_
    refine S_getR (q := 63) dX9_keepOnly_60 fl_X9_165 (by first | assumption | rfl) (by rfl) rfl ?_
    refine S_iload_5 (q := 65) dX9_keepOnly_63 rfl ?_
    refine S_iconst (q := 66) (nI 1) dX9_keepOnly_65 (by decide) rfl ?_
    refine S_iload_3 (q := 67) dX9_keepOnly_66 rfl ?_
    refine S_ishl (q := 68) dX9_keepOnly_67 rfl ?_
    rw [nI_shl (show m < 32 by omega) (by rw [Nat.one_mul]; exact Nat.lt_trans (p2_16 (show m ≤ 3 by omega)).2 (by decide)), Nat.one_mul]
    refine S_iastE (i := i * A.P.c + j) (q := 69) dX9_keepOnly_68 (by first | assumption | rfl) (by first | (simp only [nI_add, pk_mul, nI_1]; done) | rfl) (by omega) (by decide) rfl ?_
    refine S_iload_6 (q := 71) dX9_keepOnly_69 rfl ?_
    exact S_iret rfl dX9_keepOnly_71 rfl rfl (RES.to (A := A.sG A.P (upf A.f (i * A.P.c + j) (2 ^ m)) A.ps) (hC.ed hp rfl rfl rfl (fun a ha => by rw [up_n (by omega)]) (GR.cell (hC.1.fr (M1 := M53) (fun a _ _ => hpf a (by omega))) (p2_16 (by omega)).1 (p2_16 (by omega)).2)) (fun a ha => by rw [up_n (by omega)]; exact hpf a (by omega)) (by unfold o_keep; rw [hq]))
  · have hq := cn_n hb11
    refine S_iload_4 (q := 16) dX9_keepOnly_14 rfl ?_
    exact S_iret rfl dX9_keepOnly_16 rfl rfl (RES.same hC (by unfold o_keep; rw [hq]; rfl))
set_option maxHeartbeats 4000000 in
set_option maxRecDepth 100000 in
theorem k_X9_commitWork {Z : Lay} {l : Launch} {G : Gd} {b0 : Nat} {M : Mem} {A : Ab} {f1 : Nat → Nat}  (hC : CR M A) (hk : A.ok) (hw : GR M 7 A.P f1)  : Ct l G b0 yX9_commitWork cX9_commitWork 1 none (rmZ 4 123) (LYZ Z) (LYZ Z) M [.ref (b0 + 0)] (fun v M' => CR M' (A.sG A.P f1 A.ps) ∧ ∀ a, 69 ≤ a → M' a = M a) := by
  obtain ⟨⟨g0, g1, g2, gcu, gce⟩, hru, hbl, hbd, hsn, hss, ⟨nx, hnx, hx1, hx2, hx3⟩, ⟨htl, htx⟩, ⟨hfl, hfo⟩, htb⟩ := id hC
  have hP := hk.P
  have hr1 := hP.r1
  have hr8 := hP.r8
  have hc1 := hP.c1
  have hc8 := hP.c8
  have hk1 := hP.k1
  have hk3 := hP.k3
  have h64 := rc64 hr8 hc8
  have hH8 := hk.H8
  have hN : A.N = A.P.r + A.P.c := rfl
  refine Ct.of [some (.ref (b0 + 0))] (by decide) (Nat.le_of_ble_eq_true rfl) rfl rfl ?_
  refine S_aload_0 (q := 1) dX9_commitWork_0 rfl ?_
  refine S_getR (q := 4) dX9_commitWork_1 fl_X9_29 (by first | assumption | rfl) (by rfl) rfl ?_
  refine S_aload_0 (q := 5) dX9_commitWork_4 rfl ?_
  refine S_getR (q := 8) dX9_commitWork_5 fl_X9_12 (by first | assumption | rfl) (by rfl) rfl ?_
  refine S_callV1v (q := 11) dX9_commitWork_8 lk_X9_134 (by first | assumption | rfl) rfl rfl (k_X2_push (gO_1 (Z := Z)) (.inl (by decide)) hx1 hnx hx2 hH8) rfl rfl (Nat.le_of_ble_eq_true rfl) ⟨Nat.le_of_ble_eq_true rfl, Nat.le_of_ble_eq_true rfl⟩ ⟨Nat.le_of_ble_eq_true rfl, Nat.le_of_ble_eq_true rfl⟩ rfl (fun v8 M8 hv8 => ?_)
  have hp := PSH.of hC hk hnx hx3 hv8
  have hpf := hp.1
  refine S_aload_0 (q := 12) dX9_commitWork_11 rfl ?_
  refine S_getR (q := 15) dX9_commitWork_12 fl_X9_12 (by first | assumption | rfl) (by rfl) rfl ?_
  refine S_aload_0 (q := 16) dX9_commitWork_15 rfl ?_
  refine S_getR (q := 19) dX9_commitWork_16 fl_X9_16 (by first | assumption | rfl) (by rfl) rfl ?_
  refine S_callV1v (q := 22) dX9_commitWork_19 lk_X9_209 (by first | assumption | rfl) rfl rfl (k_X1_copyFrom (gO_1 (Z := Z)) (gO_7 (Z := Z)) (by decide)) rfl rfl (Nat.le_of_ble_eq_true rfl) ⟨Nat.le_of_ble_eq_true rfl, Nat.le_of_ble_eq_true rfl⟩ ⟨Nat.le_of_ble_eq_true rfl, Nat.le_of_ble_eq_true rfl⟩ rfl (fun v19 M19 hv19 => ?_)
  exact S_ret (v := 0) rfl dX9_commitWork_22 rfl (⟨hC.ed hp rfl rfl rfl (fun a ha => hv19.1 a ha) (GR.cpy (hw.fr (M1 := M8) (fun a _ _ => hpf a (by omega))) hP hv19.2), fun a ha => by rw [hv19.1 a (by omega)]; exact hpf a (by omega)⟩)
set_option maxHeartbeats 4000000 in
set_option maxRecDepth 100000 in
theorem k_X9_remember {Z : Lay} {l : Launch} {G : Gd} {b0 : Nat} {M : Mem} {x z : Int32} : Ct l G b0 yX9_remember cX9_remember 3 (some .int) (rmZ 0 0) (LYZ Z) (LYZ Z) M [.ref (b0 + 0), .int x, .int z] (fun v M' => M' = up (up M 0 10 x) 0 11 z ∧ v = -4) := by
  refine Ct.of [some (.ref (b0 + 0)), some (.int x), some (.int z)] (by decide) (Nat.le_of_ble_eq_true rfl) rfl rfl ?_
  refine S_aload_0 (q := 1) dX9_remember_0 rfl ?_
  refine S_iload_1 (q := 2) dX9_remember_1 rfl ?_
  refine S_putI (q := 5) dX9_remember_2 fp_X9_65 (by first | assumption | rfl) (by rfl) rfl (by rfl) rfl ?_
  refine S_aload_0 (q := 6) dX9_remember_5 rfl ?_
  refine S_iload_2 (q := 7) dX9_remember_6 rfl ?_
  refine S_putI (q := 10) dX9_remember_7 fp_X9_68 (by first | assumption | rfl) (by rfl) rfl (by rfl) rfl ?_
  refine S_bipush (q := 12) (-4) dX9_remember_10 (by decide) rfl ?_
  exact S_iret rfl dX9_remember_12 rfl rfl (⟨rfl, rfl⟩)
set_option maxHeartbeats 4000000 in
set_option maxRecDepth 100000 in
theorem k_X9_forgetContradiction {Z : Lay} {l : Launch} {G : Gd} {b0 : Nat} {M : Mem} : Ct l G b0 yX9_forgetContradiction cX9_forgetContradiction 1 none (rmZ 0 0) (LYZ Z) (LYZ Z) M [.ref (b0 + 0)] (fun v M' => M' = up (up M 0 10 (-8)) 0 11 (-8)) := by
  refine Ct.of [some (.ref (b0 + 0))] (by decide) (Nat.le_of_ble_eq_true rfl) rfl rfl ?_
  refine S_aload_0 (q := 1) dX9_forgetContradiction_0 rfl ?_
  refine S_bipush (q := 3) (-8) dX9_forgetContradiction_1 (by decide) rfl ?_
  refine S_putI (q := 6) dX9_forgetContradiction_3 fp_X9_65 (by first | assumption | rfl) (by rfl) rfl (by rfl) rfl ?_
  refine S_aload_0 (q := 7) dX9_forgetContradiction_6 rfl ?_
  refine S_bipush (q := 9) (-8) dX9_forgetContradiction_7 (by decide) rfl ?_
  refine S_putI (q := 12) dX9_forgetContradiction_9 fp_X9_68 (by first | assumption | rfl) (by rfl) rfl (by rfl) rfl ?_
  exact S_ret (v := 0) rfl dX9_forgetContradiction_12 rfl (rfl)
set_option maxHeartbeats 4000000 in
set_option maxRecDepth 100000 in
theorem k_X9_propagate {Z : Lay} {l : Launch} {G : Gd} {b0 : Nat} {M : Mem} {A : Ab}  (hC : CR M A) (hk : A.ok)  : Ct l G b0 yX9_propagate cX9_propagate 1 (some .int) (rmZ 5 143) (LYZ Z) (LYZ Z) M [.ref (b0 + 0)] (fun v M' => RES M (o_prop A) v M') := by
  obtain ⟨⟨g0, g1, g2, gcu, gce⟩, hru, hbl, hbd, hsn, hss, ⟨nx, hnx, hx1, hx2, hx3⟩, ⟨htl, htx⟩, ⟨hfl, hfo⟩, htb⟩ := id hC
  have hP := hk.P
  have hr1 := hP.r1
  have hr8 := hP.r8
  have hc1 := hP.c1
  have hc8 := hP.c8
  have hk1 := hP.k1
  have hk3 := hP.k3
  have h64 := rc64 hr8 hc8
  have hH8 := hk.H8
  have hN : A.N = A.P.r + A.P.c := rfl
  refine Ct.of [some (.ref (b0 + 0))] (by decide) (Nat.le_of_ble_eq_true rfl) rfl rfl ?_
  refine S_aload_0 (q := 1) dX9_propagate_0 rfl ?_
  refine S_getR (q := 4) dX9_propagate_1 fl_X9_16 (by first | assumption | rfl) (by rfl) rfl ?_
  refine S_aload_0 (q := 5) dX9_propagate_4 rfl ?_
  refine S_getR (q := 8) dX9_propagate_5 fl_X9_12 (by first | assumption | rfl) (by rfl) rfl ?_
  refine S_callV1v (q := 11) dX9_propagate_8 lk_X9_209 (by first | assumption | rfl) rfl rfl (k_X1_copyFrom (gO_7 (Z := Z)) (gO_1 (Z := Z)) (by decide)) rfl rfl (Nat.le_of_ble_eq_true rfl) ⟨Nat.le_of_ble_eq_true rfl, Nat.le_of_ble_eq_true rfl⟩ ⟨Nat.le_of_ble_eq_true rfl, Nat.le_of_ble_eq_true rfl⟩ rfl (fun v8 M8 hv8 => ?_)
  have hw : GR M8 7 A.P A.f := GR.cpy hC.1 hP hv8.2
  have hC2 : CR M8 A := hC.fr (fun a ha => hv8.1 a (by omega))
  have hfr := hv8.1
  refine S_aload_0 (q := 12) dX9_propagate_11 rfl ?_
  refine S_getR (q := 15) dX9_propagate_12 fl_X9_43 (by first | assumption | rfl) (by rfl) rfl ?_
  refine S_aload_0 (q := 16) dX9_propagate_15 rfl ?_
  refine S_getR (q := 19) dX9_propagate_16 fl_X9_16 (by first | assumption | rfl) (by rfl) rfl ?_
  refine S_aload_0 (q := 20) dX9_propagate_19 rfl ?_
  refine S_getR (q := 23) dX9_propagate_20 fl_X9_16 (by first | assumption | rfl) (by rfl) rfl ?_
  refine S_callV0i (q := 26) dX9_propagate_23 lk_X9_225 (by first | assumption | rfl) rfl rfl (k_X1_allLines (gO_7 (Z := Z)) hw.1 hw.2.1 hr8 hc8) rfl rfl (Nat.le_of_ble_eq_true rfl) ⟨Nat.le_of_ble_eq_true rfl, Nat.le_of_ble_eq_true rfl⟩ ⟨Nat.le_of_ble_eq_true rfl, Nat.le_of_ble_eq_true rfl⟩ rfl (fun v23 M23 hv23 => ?_)
  obtain ⟨e23, rfl⟩ := hv23
  rw [e23]
  refine S_callV2i (q := 29) dX9_propagate_26 lk_X9_228 (by first | assumption | rfl) rfl rfl (k_X5_settle (pO_78 (Z := Z)) (gO_7 (Z := Z)) hP hw.1 hw.2.1 (by decide) hw.2.2.2.1 hw.2.2.2.2 (STB.all hP)) rfl rfl (Nat.le_of_ble_eq_true rfl) ⟨Nat.le_of_ble_eq_true rfl, Nat.le_of_ble_eq_true rfl⟩ ⟨Nat.le_of_ble_eq_true rfl, Nat.le_of_ble_eq_true rfl⟩ rfl (fun v26 M26 hv26 => ?_)
  obtain ⟨hs1, hs2, hs3⟩ := hv26
  have hC3 : CR M26 A := hC2.fr (fun a ha => hs1 a (by omega) (by omega))
  have hf3 : ∀ a, 140 ≤ a → M26 a = M a := fun a ha => by rw [hs1 a (by omega) (by omega)]; exact hfr a (by omega)
  refine S_if_ne (t := 45) (q := 32) dX9_propagate_29 (by decide) rfl (fun hb29 => ?_) (fun hb29 => ?_)
  · obtain ⟨g, n, hz⟩ : ∃ g n, spr A.P A.f = .inr (g, n) := by
      cases e : spr A.P A.f with
      | inl j => exact absurd (hs2 j e).1 hb29
      | inr q => exact ⟨q.1, q.2, rfl⟩
    have hw3 : GR M26 7 A.P g := hw.ce (fun a h1 h2 => hs1 a (by omega) (by omega)) (hs3 g n hz).2.1
    refine S_aload_0 (q := 46) dX9_propagate_45 rfl ?_
    refine S_callV0v (q := 49) dX9_propagate_46 lk_X9_219 (by first | assumption | rfl) rfl rfl (k_X9_commitWork hC3 hk hw3) rfl rfl (Nat.le_of_ble_eq_true rfl) ⟨Nat.le_of_ble_eq_true rfl, Nat.le_of_ble_eq_true rfl⟩ ⟨Nat.le_of_ble_eq_true rfl, Nat.le_of_ble_eq_true rfl⟩ rfl (fun v46 M46 hv46 => ?_)
    refine S_aload_0 (q := 50) dX9_propagate_49 rfl ?_
    refine S_getR (q := 53) dX9_propagate_50 fl_X9_43 (by first | assumption | rfl) (by rfl) rfl ?_
    refine S_getI (q := 56) dX9_propagate_53 fl_X9_234 (by first | assumption | rfl) (by rfl) rfl ?_
    rw [hv46.2 78 (by omega), (hs3 g n hz).2.2.2]
    exact S_iret rfl dX9_propagate_56 rfl rfl (RES.to hv46.1 (fun a ha => by rw [hv46.2 a (by omega)]; exact hf3 a ha) (by unfold o_prop; rw [hz]))
  · obtain ⟨j, hz⟩ : ∃ j, spr A.P A.f = .inl j := by
      cases e : spr A.P A.f with
      | inl j => exact ⟨j, rfl⟩
      | inr q => exact absurd ((hs3 q.1 q.2 e).1.symm.trans hb29) (by decide)
    refine S_aload_0 (q := 33) dX9_propagate_32 rfl ?_
    refine S_aload_0 (q := 34) dX9_propagate_33 rfl ?_
    refine S_getR (q := 37) dX9_propagate_34 fl_X9_43 (by first | assumption | rfl) (by rfl) rfl ?_
    refine S_getI (q := 40) dX9_propagate_37 fl_X9_231 (by first | assumption | rfl) (by rfl) rfl ?_
    rw [(hs2 j hz).2]
    refine S_iconst (q := 41) (nI 0) dX9_propagate_40 (by decide) rfl ?_
    refine S_callV2i (q := 44) dX9_propagate_41 lk_X9_216 (by first | assumption | rfl) rfl rfl (k_X9_remember) rfl rfl (Nat.le_of_ble_eq_true rfl) ⟨Nat.le_of_ble_eq_true rfl, Nat.le_of_ble_eq_true rfl⟩ ⟨Nat.le_of_ble_eq_true rfl, Nat.le_of_ble_eq_true rfl⟩ rfl (fun v41 M41 hv41 => ?_)
    obtain ⟨e41, rfl⟩ := hv41
    rw [e41]
    exact S_iret rfl dX9_propagate_44 rfl rfl (RES.to (A := A.sB (some (j, 0))) (CR.bad hC3 rfl rfl) (fun a ha => by rw [up_n (by omega), up_n (by omega)]; exact hf3 a ha) (by unfold o_prop; rw [hz]))