/-- the grid is pushed -/
def PSH (M M1 : Mem) (A : Ab) : Prop := (∀ a, (a < 19 ∨ 69 ≤ a) → M1 a = M a) ∧ ∃ ny, ny < 8 ∧ M1 19 1 = nI ny ∧ M1 19 2 = nI A.ps.length ∧ ∀ s e, A.ps[s]? = some e → GR M1 (hst ((ny + 7 - s) % 8)) (hP A.P e) (hF e)
theorem PSH.of {M M1 : Mem} {A : Ab} {nx : Nat} (h : CR M A) (hk : A.ok) (n1 : nx < 8) (n4 : ∀ s e, A.H[s]? = some e → GR M (hst ((nx + 7 - s) % 8)) (hP A.P e) (hF e)) (hv : (∀ a, (a < hst nx ∨ hst nx + 6 ≤ a) → a ≠ 19 → M1 a = M a) ∧ CPY M M1 (hst nx) 1 ∧ M1 19 1 = nI ((nx + 1) % 8) ∧ M1 19 2 = nI (cnt8 A.H.length)) : PSH M M1 A :=
  ⟨fun a ha => hv.1 a (by unfold hst; omega) (by omega), h.pushed hk n1 n4 hv.1 hv.2.1 hv.2.2.1 hv.2.2.2⟩
theorem CR.ed {M M1 M2 : Mem} {A : Ab} {P : Pz} {f : Nat → Nat} (h : CR M A) (hp : PSH M M1 A) (hr : P.r = A.P.r) (hc : P.c = A.P.c) (hkk : P.k = A.P.k) (hf : ∀ a, (a < 1 ∨ 7 ≤ a) → M2 a = M1 a) (hg : GR M2 1 P f) : CR M2 (A.sG P f A.ps) := by
  obtain ⟨p1, ny, p2, p3, p4, p5⟩ := hp
  refine h.grid (fun a ha => by rw [hf a (by omega), p1 a (by omega)]) hg ⟨ny, p2, by rw [hf 19 (by omega)]; exact p3, by rw [hf 19 (by omega)]; exact p4, fun s e he => ?_⟩
  have e1 : hP P e = hP A.P e := by unfold hP Pz.wc; rw [hr, hc, hkk]
  rw [e1]
  exact (p5 s e he).fr (fun a a1 a2 => hf a (by have := hst_in ny s; omega))
theorem CLU.app {M : Mem} {c i x z : Nat} {P : Pz} (h : CLU M c P) (hi : i < 16) (hn : P.R i < 8) (hx1 : 1 ≤ x) (hx8 : x ≤ 8) (hz1 : 1 ≤ z) (hz3 : z ≤ 3) : CLU (up (up (up M (c + 2) (i * 8 + P.R i) (nI x)) (c + 3) (i * 8 + P.R i) (nI z)) (c + 1) i (nI (P.R i + 1))) c (P.wc (upf P.R i (P.R i + 1)) (fun a b => if a = i ∧ b = P.R i then x else P.len a b) (fun a b => if a = i ∧ b = P.R i then z else P.col a b)) := by
  intro a ha
  obtain ⟨h1, h2, h3⟩ := h a ha
  by_cases e : a = i
  · subst e
    refine ⟨by rw [up_s]; show _ = nI (upf P.R a (P.R a + 1) a); rw [upf_s], by show upf P.R a (P.R a + 1) a ≤ 8; rw [upf_s]; omega, fun j hj => ?_⟩
    have hj' : j < P.R a + 1 := by
      have : j < upf P.R a (P.R a + 1) a := hj
      rw [upf_s] at this
      exact this
    show up _ _ _ _ _ _ = nI (if a = a ∧ j = P.R a then x else P.len a j) ∧ 1 ≤ (if a = a ∧ j = P.R a then x else P.len a j) ∧ (if a = a ∧ j = P.R a then x else P.len a j) ≤ 8 ∧ up _ _ _ _ _ _ = nI (if a = a ∧ j = P.R a then z else P.col a j) ∧ 1 ≤ (if a = a ∧ j = P.R a then z else P.col a j) ∧ (if a = a ∧ j = P.R a then z else P.col a j) ≤ 3
    by_cases ej : j = P.R a
    · rw [if_pos ⟨rfl, ej⟩, if_pos ⟨rfl, ej⟩, ej]
      exact ⟨by rw [up_n (by omega), up_n (by omega), up_s], hx1, hx8, by rw [up_n (by omega), up_s], hz1, hz3⟩
    · rw [if_neg (fun y => ej y.2), if_neg (fun y => ej y.2)]
      obtain ⟨q1, q2, q3, q4, q5, q6⟩ := h3 j (by omega)
      exact ⟨by rw [up_n (by omega), up_n (by omega), up_eq, if_neg (by omega)]; exact q1, q2, q3, by rw [up_n (by omega), up_eq, if_neg (by omega), up_n (by omega)]; exact q4, q5, q6⟩
  · refine ⟨by rw [up_eq, if_neg (by omega), up_n (by omega), up_n (by omega)]; show _ = nI (upf P.R i (P.R i + 1) a); rw [upf_n e]; exact h1, by show upf P.R i (P.R i + 1) a ≤ 8; rw [upf_n e]; exact h2, fun j hj => ?_⟩
    have hj' : j < P.R a := by
      have : j < upf P.R i (P.R i + 1) a := hj
      rw [upf_n e] at this
      exact this
    show up _ _ _ _ _ _ = nI (if a = i ∧ j = P.R i then x else P.len a j) ∧ 1 ≤ (if a = i ∧ j = P.R i then x else P.len a j) ∧ (if a = i ∧ j = P.R i then x else P.len a j) ≤ 8 ∧ up _ _ _ _ _ _ = nI (if a = i ∧ j = P.R i then z else P.col a j) ∧ 1 ≤ (if a = i ∧ j = P.R i then z else P.col a j) ∧ (if a = i ∧ j = P.R i then z else P.col a j) ≤ 3
    rw [if_neg (fun y => e y.1), if_neg (fun y => e y.1)]
    obtain ⟨q1, q2, q3, q4, q5, q6⟩ := h3 j hj'
    exact ⟨by rw [up_n (by omega), up_n (by omega), up_eq, if_neg (by omega)]; exact q1, q2, q3, by rw [up_n (by omega), up_eq, if_neg (by omega), up_n (by omega)]; exact q4, q5, q6⟩
theorem CLU.emp {M : Mem} {c i : Nat} {P : Pz} (h : CLU M c P) : CLU (up M (c + 1) i (nI 0)) c (P.wc (upf P.R i 0) P.len P.col) := by
  intro a ha
  obtain ⟨h1, h2, h3⟩ := h a ha
  by_cases e : a = i
  · subst e
    refine ⟨by rw [up_s]; show _ = nI (upf P.R a 0 a); rw [upf_s], by show upf P.R a 0 a ≤ 8; rw [upf_s]; omega, fun j hj => ?_⟩
    have hj' : j < upf P.R a 0 a := hj
    rw [upf_s] at hj'
    exact absurd hj' (Nat.not_lt_zero j)
  · refine ⟨by rw [up_eq, if_neg (by omega)]; show _ = nI (upf P.R i 0 a); rw [upf_n e]; exact h1, by show upf P.R i 0 a ≤ 8; rw [upf_n e]; exact h2, fun j hj => ?_⟩
    have hj' : j < upf P.R i 0 a := hj
    rw [upf_n e] at hj'
    rw [up_n (by omega), up_n (by omega)]
    exact h3 j hj'
/-- other clues in a grid -/
theorem GR.clu {M M1 : Mem} {g : Nat} {P : Pz} {f : Nat → Nat} {R : Nat → Nat} {len col : Nat → Nat → Nat} (h : GR M g P f) (h0 : M1 g = M g) (h5 : M1 (g + 5) = M (g + 5)) (hc : CLU M1 (g + 1) (P.wc R len col)) : GR M1 g (P.wc R len col) f := ⟨by rw [h0]; exact h.1, by rw [h0]; exact h.2.1, by rw [h0]; exact h.2.2.1, hc, h.2.2.2.2.fr h5⟩
/-- another candidate set in a grid -/
theorem GR.cell {M : Mem} {g x v : Nat} {P : Pz} {f : Nat → Nat} (h : GR M g P f) (h1 : 1 ≤ v) (h2 : v < 16) : GR (up M (g + 5) x (nI v)) g P (upf f x v) := by
  obtain ⟨g0, g1, g2, g3, g4⟩ := h
  exact ⟨by rw [up_n (by omega)]; exact g0, by rw [up_n (by omega)]; exact g1, by rw [up_n (by omega)]; exact g2, g3.fr (up_n (by omega)) (up_n (by omega)) (up_n (by omega)), CE.up g4 h1 h2⟩
theorem GR.ce {M M1 : Mem} {g : Nat} {P : Pz} {f f1 : Nat → Nat} (h : GR M g P f) (hf : ∀ a, g ≤ a → a < g + 5 → M1 a = M a) (hc : CE M1 (g + 5) (P.r * P.c) f1) : GR M1 g P f1 := by
  obtain ⟨g0, g1, g2, g3, g4⟩ := h
  exact ⟨by rw [hf g (by omega) (by omega)]; exact g0, by rw [hf g (by omega) (by omega)]; exact g1, by rw [hf g (by omega) (by omega)]; exact g2, g3.fr (hf _ (by omega) (by omega)) (hf _ (by omega) (by omega)) (hf _ (by omega) (by omega)), hc⟩
theorem p2_16 {m : Nat} (h : m ≤ 3) : 1 ≤ 2 ^ m ∧ 2 ^ m < 16 := ⟨Nat.two_pow_pos m, by
  have : (2 : Nat) ^ m ≤ 2 ^ 3 := Nat.pow_le_pow_right (by decide) h
  omega⟩
set_option maxHeartbeats 4000000 in
set_option maxRecDepth 100000 in
theorem k_X9_addRun {l : Launch} {G : Gd} {b0 : Nat} {M : Mem} {A : Ab} {x n k : Int32}  (hC : CR M A) (hk : A.ok)  : Ct l G b0 yX9_addRun cX9_addRun 4 (some .int) (rmZ 4 123) LAY LAY M [.ref (b0 + 0), .int x, .int n, .int k] (fun v M' => RES M (o_add A x n k) v M') := by
  obtain ⟨⟨g0, g1, g2, gcu, gce⟩, hru, hbl, hbd, hsn, hss, ⟨nx, hnx, hx1, hx2, hx3⟩, ⟨htl, htx⟩, ⟨hfl, hfo⟩, htb⟩ := id hC
  have hP := hk.P
  have hr1 := hP.r1
  have hr8 := hP.r8
  have hc1 := hP.c1
  have hc8 := hP.c8
  have hk1 := hP.k1
  have hk3 := hP.k3
  have h64 := rc64 hr8 hc8
  have hH8 := hk.H8
  have hN : A.N = A.P.r + A.P.c := rfl
  refine Ct.of [some (.ref (b0 + 0)), some (.int x), some (.int n), some (.int k)] (by decide) (Nat.le_of_ble_eq_true rfl) rfl rfl ?_
  refine S_aload_0 (q := 1) dX9_addRun_0 rfl ?_
  refine S_getR (q := 4) dX9_addRun_1 fl_X9_12 (by first | assumption | rfl) (by rfl) rfl ?_
  refine S_iload_1 (q := 5) dX9_addRun_4 rfl ?_
  refine S_callV1i (q := 8) dX9_addRun_5 lk_X9_124 (by first | assumption | rfl) rfl rfl (k_X1_hasLine gO_1 g0 g1 hr8 hc8 hr1) rfl rfl (Nat.le_of_ble_eq_true rfl) ⟨Nat.le_of_ble_eq_true rfl, Nat.le_of_ble_eq_true rfl⟩ ⟨Nat.le_of_ble_eq_true rfl, Nat.le_of_ble_eq_true rfl⟩ rfl (fun v5 M5 hv5 => ?_)
  obtain ⟨e5, rfl⟩ := hv5
  rw [e5]
  refine S_if_ne (t := 13) (q := 11) dX9_addRun_8 (by decide) rfl (fun hb8 => ?_) (fun hb8 => ?_)
  · obtain ⟨i, hi, rfl, hl⟩ := ln_ok (A := A) hP (bI_n.mp hb8)
    have hi16 : i < 16 := by omega
    refine S_iload_2 (q := 14) dX9_addRun_13 rfl ?_
    refine S_iconst (q := 15) (nI 1) dX9_addRun_14 (by decide) rfl ?_
    refine S_bipush (q := 17) (nI 8) dX9_addRun_15 (by decide) rfl ?_
    refine S_callS3i (q := 20) dX9_addRun_17 lk_X9_101 (k_X9_isWithin) rfl rfl (Nat.le_of_ble_eq_true rfl) ⟨Nat.le_of_ble_eq_true rfl, Nat.le_of_ble_eq_true rfl⟩ ⟨Nat.le_of_ble_eq_true rfl, Nat.le_of_ble_eq_true rfl⟩ rfl (fun v17 M17 hv17 => ?_)
    obtain ⟨e17, rfl⟩ := hv17
    rw [e17]
    refine S_if_eq (t := 38) (q := 23) dX9_addRun_20 (by decide) rfl (fun hb20 => ?_) (fun hb20 => ?_)
    · have hn := iw_no (bI_0.mp hb20)
      refine S_bipush (q := 40) (-2) dX9_addRun_38 (by decide) rfl ?_
      exact S_iret rfl dX9_addRun_40 rfl rfl (RES.same hC (by unfold o_add; rw [hl]; simp only [hn]))
    · obtain ⟨n, hn1, hn8, rfl, hn⟩ := iw_ok (by decide) (by decide) (bI_n.mp hb20)
      refine S_iload_3 (q := 24) dX9_addRun_23 rfl ?_
      refine S_iconst (q := 25) (nI 1) dX9_addRun_24 (by decide) rfl ?_
      refine S_aload_0 (q := 26) dX9_addRun_25 rfl ?_
      refine S_getR (q := 29) dX9_addRun_26 fl_X9_12 (by first | assumption | rfl) (by rfl) rfl ?_
      refine S_getI (q := 32) dX9_addRun_29 fl_X9_121 (by first | assumption | rfl) (by rfl) rfl ?_
      rw [g2]
      refine S_callS3i (q := 35) dX9_addRun_32 lk_X9_101 (k_X9_isWithin) rfl rfl (Nat.le_of_ble_eq_true rfl) ⟨Nat.le_of_ble_eq_true rfl, Nat.le_of_ble_eq_true rfl⟩ ⟨Nat.le_of_ble_eq_true rfl, Nat.le_of_ble_eq_true rfl⟩ rfl (fun v32 M32 hv32 => ?_)
      obtain ⟨e32, rfl⟩ := hv32
      rw [e32]
      refine S_if_ne (t := 41) (q := 38) dX9_addRun_35 (by decide) rfl (fun hb35 => ?_) (fun hb35 => ?_)
      · obtain ⟨m, hm1, hm2, rfl, hm⟩ := iw_ok (by decide) (show A.P.k < 2 ^ 31 by omega) (bI_n.mp hb35)
        refine S_aload_0 (q := 42) dX9_addRun_41 rfl ?_
        refine S_getR (q := 45) dX9_addRun_42 fl_X9_12 (by first | assumption | rfl) (by rfl) rfl ?_
        refine S_getR (q := 48) dX9_addRun_45 fl_X9_128 (by first | assumption | rfl) (by rfl) rfl ?_
        refine S_iload_1 (q := 49) dX9_addRun_48 rfl ?_
        refine S_callV1i (q := 52) dX9_addRun_49 lk_X9_131 (by first | assumption | rfl) rfl rfl (k_X0_isFull gO_1.2.1 hi16) rfl rfl (Nat.le_of_ble_eq_true rfl) ⟨Nat.le_of_ble_eq_true rfl, Nat.le_of_ble_eq_true rfl⟩ ⟨Nat.le_of_ble_eq_true rfl, Nat.le_of_ble_eq_true rfl⟩ rfl (fun v49 M49 hv49 => ?_)
        obtain ⟨e49, rfl⟩ := hv49
        rw [e49]
        rw [(gcu i hi16).1]
        refine S_if_eq (t := 58) (q := 55) dX9_addRun_52 (by decide) rfl (fun hb52 => ?_) (fun hb52 => ?_)
        · have hR8 : A.P.R i < 8 := Nat.lt_of_not_le (fun y => bI_0.mp hb52 ((nI_leI (by decide) (by have := (gcu i hi16).2.1; omega)).mpr y))
          refine S_aload_0 (q := 59) dX9_addRun_58 rfl ?_
          refine S_getR (q := 62) dX9_addRun_59 fl_X9_29 (by first | assumption | rfl) (by rfl) rfl ?_
          refine S_aload_0 (q := 63) dX9_addRun_62 rfl ?_
          refine S_getR (q := 66) dX9_addRun_63 fl_X9_12 (by first | assumption | rfl) (by rfl) rfl ?_
          refine S_callV1v (q := 69) dX9_addRun_66 lk_X9_134 (by first | assumption | rfl) rfl rfl (k_X2_push gO_1 (.inl (by decide)) hx1 hnx hx2 hH8) rfl rfl (Nat.le_of_ble_eq_true rfl) ⟨Nat.le_of_ble_eq_true rfl, Nat.le_of_ble_eq_true rfl⟩ ⟨Nat.le_of_ble_eq_true rfl, Nat.le_of_ble_eq_true rfl⟩ rfl (fun v66 M66 hv66 => ?_)
          have hp := PSH.of hC hk hnx hx3 hv66
          have hpf := hp.1
          refine S_aload_0 (q := 70) dX9_addRun_69 rfl ?_
          refine S_getR (q := 73) dX9_addRun_70 fl_X9_12 (by first | assumption | rfl) (by rfl) rfl ?_
          refine S_getR (q := 76) dX9_addRun_73 fl_X9_128 (by first | assumption | rfl) (by rfl) rfl ?_
          refine S_iload_1 (q := 77) dX9_addRun_76 rfl ?_
          refine S_iload_2 (q := 78) dX9_addRun_77 rfl ?_
          refine S_iload_3 (q := 79) dX9_addRun_78 rfl ?_
          refine S_callV3v (q := 82) dX9_addRun_79 lk_X9_138 (by first | assumption | rfl) rfl rfl (k_X0_append gO_1.2.1 hi16 (n := A.P.R i) (by rw [hpf 3 (by omega)]; exact (gcu i hi16).1) hR8) rfl rfl (Nat.le_of_ble_eq_true rfl) ⟨Nat.le_of_ble_eq_true rfl, Nat.le_of_ble_eq_true rfl⟩ ⟨Nat.le_of_ble_eq_true rfl, Nat.le_of_ble_eq_true rfl⟩ rfl (fun v79 M79 hv79 => ?_)
          subst hv79
          refine S_aload_0 (q := 83) dX9_addRun_82 rfl ?_
          refine S_getR (q := 86) dX9_addRun_83 fl_X9_12 (by first | assumption | rfl) (by rfl) rfl ?_
          refine S_getR (q := 89) dX9_addRun_86 fl_X9_128 (by first | assumption | rfl) (by rfl) rfl ?_
          refine S_iload_1 (q := 90) dX9_addRun_89 rfl ?_
          refine S_callV1i (q := 93) dX9_addRun_90 lk_X9_141 (by first | assumption | rfl) rfl rfl (k_X0_runsOf gO_1.2.1 hi16) rfl rfl (Nat.le_of_ble_eq_true rfl) ⟨Nat.le_of_ble_eq_true rfl, Nat.le_of_ble_eq_true rfl⟩ ⟨Nat.le_of_ble_eq_true rfl, Nat.le_of_ble_eq_true rfl⟩ rfl (fun v90 M90 hv90 => ?_)
          obtain ⟨e90, rfl⟩ := hv90
          rw [e90]
          exact S_iret rfl dX9_addRun_93 rfl rfl (RES.to (A := A.sG (A.P.wc (upf A.P.R i (A.P.R i + 1)) (fun a b => if a = i ∧ b = A.P.R i then n else A.P.len a b) (fun a b => if a = i ∧ b = A.P.R i then m else A.P.col a b)) A.f A.ps) (hC.ed hp rfl rfl rfl (fun a ha => by rw [up_n (by omega), up_n (by omega), up_n (by omega)]) (GR.clu (hC.1.fr (M1 := M66) (fun a _ _ => hpf a (by omega))) (by rw [up_n (by omega), up_n (by omega), up_n (by omega)]) (by rw [up_n (by omega), up_n (by omega), up_n (by omega)]) (CLU.app (gcu.fr (hpf _ (by omega)) (hpf _ (by omega)) (hpf _ (by omega))) hi16 hR8 hn1 hn8 hm1 (by omega)))) (fun a ha => by rw [up_n (by omega), up_n (by omega), up_n (by omega)]; exact hpf a (by omega)) (by unfold o_add; rw [hl]; simp only [hn, hm, if_neg (show ¬ A.P.R i = 8 by omega)]; rw [up_s]))
        · have hR8 : A.P.R i = 8 := Nat.le_antisymm (gcu i hi16).2.1 ((nI_leI (by decide) (by have := (gcu i hi16).2.1; omega)).mp (bI_n.mp hb52))
          refine S_bipush (q := 57) (-3) dX9_addRun_55 (by decide) rfl ?_
          exact S_iret rfl dX9_addRun_57 rfl rfl (RES.same hC (by unfold o_add; rw [hl]; simp only [hn, hm, if_pos hR8]))
      · have hm := iw_no (bI_0.mp hb35)
        refine S_bipush (q := 40) (-2) dX9_addRun_38 (by decide) rfl ?_
        exact S_iret rfl dX9_addRun_40 rfl rfl (RES.same hC (by unfold o_add; rw [hl]; simp only [hn, hm]))
  · have hl := ln_no (A := A) (bI_0.mp hb8)
    refine S_iconst (q := 12) (-1) dX9_addRun_11 (by decide) rfl ?_
    exact S_iret rfl dX9_addRun_12 rfl rfl (RES.same hC (by unfold o_add; rw [hl]))
set_option maxHeartbeats 4000000 in
set_option maxRecDepth 100000 in
theorem k_X9_clearClue {l : Launch} {G : Gd} {b0 : Nat} {M : Mem} {A : Ab} {x : Int32}  (hC : CR M A) (hk : A.ok)  : Ct l G b0 yX9_clearClue cX9_clearClue 3 (some .int) (rmZ 4 123) LAY LAY M [.ref (b0 + 0), .int x] (fun v M' => RES M (o_clr A x) v M') := by
  obtain ⟨⟨g0, g1, g2, gcu, gce⟩, hru, hbl, hbd, hsn, hss, ⟨nx, hnx, hx1, hx2, hx3⟩, ⟨htl, htx⟩, ⟨hfl, hfo⟩, htb⟩ := id hC
  have hP := hk.P
  have hr1 := hP.r1
  have hr8 := hP.r8
  have hc1 := hP.c1
  have hc8 := hP.c8
  have hk1 := hP.k1
  have hk3 := hP.k3
  have h64 := rc64 hr8 hc8
  have hH8 := hk.H8
  have hN : A.N = A.P.r + A.P.c := rfl
  refine Ct.of [some (.ref (b0 + 0)), some (.int x), none] (by decide) (Nat.le_of_ble_eq_true rfl) rfl rfl ?_
  refine S_aload_0 (q := 1) dX9_clearClue_0 rfl ?_
  refine S_getR (q := 4) dX9_clearClue_1 fl_X9_12 (by first | assumption | rfl) (by rfl) rfl ?_
  refine S_iload_1 (q := 5) dX9_clearClue_4 rfl ?_
  refine S_callV1i (q := 8) dX9_clearClue_5 lk_X9_124 (by first | assumption | rfl) rfl rfl (k_X1_hasLine gO_1 g0 g1 hr8 hc8 hr1) rfl rfl (Nat.le_of_ble_eq_true rfl) ⟨Nat.le_of_ble_eq_true rfl, Nat.le_of_ble_eq_true rfl⟩ ⟨Nat.le_of_ble_eq_true rfl, Nat.le_of_ble_eq_true rfl⟩ rfl (fun v5 M5 hv5 => ?_)
  obtain ⟨e5, rfl⟩ := hv5
  rw [e5]
  refine S_if_ne (t := 13) (q := 11) dX9_clearClue_8 (by decide) rfl (fun hb8 => ?_) (fun hb8 => ?_)
  · obtain ⟨i, hi, rfl, hl⟩ := ln_ok (A := A) hP (bI_n.mp hb8)
    have hi16 : i < 16 := by omega
    refine S_aload_0 (q := 14) dX9_clearClue_13 rfl ?_
    refine S_getR (q := 17) dX9_clearClue_14 fl_X9_12 (by first | assumption | rfl) (by rfl) rfl ?_
    refine S_getR (q := 20) dX9_clearClue_17 fl_X9_128 (by first | assumption | rfl) (by rfl) rfl ?_
    refine S_iload_1 (q := 21) dX9_clearClue_20 rfl ?_
    refine S_callV1i (q := 24) dX9_clearClue_21 lk_X9_141 (by first | assumption | rfl) rfl rfl (k_X0_runsOf gO_1.2.1 hi16) rfl rfl (Nat.le_of_ble_eq_true rfl) ⟨Nat.le_of_ble_eq_true rfl, Nat.le_of_ble_eq_true rfl⟩ ⟨Nat.le_of_ble_eq_true rfl, Nat.le_of_ble_eq_true rfl⟩ rfl (fun v21 M21 hv21 => ?_)
    obtain ⟨e21, rfl⟩ := hv21
    rw [e21]
    refine S_istore_2 (q := 25) dX9_clearClue_24 rfl ?_
    refine S_aload_0 (q := 26) dX9_clearClue_25 rfl ?_
    refine S_getR (q := 29) dX9_clearClue_26 fl_X9_29 (by first | assumption | rfl) (by rfl) rfl ?_
    refine S_aload_0 (q := 30) dX9_clearClue_29 rfl ?_
    refine S_getR (q := 33) dX9_clearClue_30 fl_X9_12 (by first | assumption | rfl) (by rfl) rfl ?_
    refine S_callV1v (q := 36) dX9_clearClue_33 lk_X9_134 (by first | assumption | rfl) rfl rfl (k_X2_push gO_1 (.inl (by decide)) hx1 hnx hx2 hH8) rfl rfl (Nat.le_of_ble_eq_true rfl) ⟨Nat.le_of_ble_eq_true rfl, Nat.le_of_ble_eq_true rfl⟩ ⟨Nat.le_of_ble_eq_true rfl, Nat.le_of_ble_eq_true rfl⟩ rfl (fun v33 M33 hv33 => ?_)
    have hp := PSH.of hC hk hnx hx3 hv33
    have hpf := hp.1
    refine S_aload_0 (q := 37) dX9_clearClue_36 rfl ?_
    refine S_getR (q := 40) dX9_clearClue_37 fl_X9_12 (by first | assumption | rfl) (by rfl) rfl ?_
    refine S_getR (q := 43) dX9_clearClue_40 fl_X9_128 (by first | assumption | rfl) (by rfl) rfl ?_
    refine S_iload_1 (q := 44) dX9_clearClue_43 rfl ?_
    refine S_callV1v (q := 47) dX9_clearClue_44 lk_X9_145 (by first | assumption | rfl) rfl rfl (k_X0_empty gO_1.2.1 hi16) rfl rfl (Nat.le_of_ble_eq_true rfl) ⟨Nat.le_of_ble_eq_true rfl, Nat.le_of_ble_eq_true rfl⟩ ⟨Nat.le_of_ble_eq_true rfl, Nat.le_of_ble_eq_true rfl⟩ rfl (fun v44 M44 hv44 => ?_)
    subst hv44
    refine S_iload_2 (q := 48) dX9_clearClue_47 rfl ?_
    exact S_iret rfl dX9_clearClue_48 rfl rfl (RES.to (A := A.sG (A.P.wc (upf A.P.R i 0) A.P.len A.P.col) A.f A.ps) (hC.ed hp rfl rfl rfl (fun a ha => by rw [up_n (by omega)]) (GR.clu (hC.1.fr (M1 := M33) (fun a _ _ => hpf a (by omega))) (by rw [up_n (by omega)]) (by rw [up_n (by omega)]) (CLU.emp (gcu.fr (hpf _ (by omega)) (hpf _ (by omega)) (hpf _ (by omega)))))) (fun a ha => by rw [up_n (by omega)]; exact hpf a (by omega)) (by unfold o_clr; rw [hl]; simp only; rw [(gcu i hi16).1]))
  · have hl := ln_no (A := A) (bI_0.mp hb8)
    refine S_iconst (q := 12) (-1) dX9_clearClue_11 (by decide) rfl ?_
    exact S_iret rfl dX9_clearClue_12 rfl rfl (RES.same hC (by unfold o_clr; rw [hl]))
set_option maxHeartbeats 4000000 in
set_option maxRecDepth 100000 in
theorem k_X9_keepOnly {l : Launch} {G : Gd} {b0 : Nat} {M : Mem} {A : Ab} {x z k : Int32}  (hC : CR M A) (hk : A.ok)  : Ct l G b0 yX9_keepOnly cX9_keepOnly 7 (some .int) (rmZ 4 123) LAY LAY M [.ref (b0 + 0), .int x, .int z, .int k] (fun v M' => RES M (o_keep A x z k) v M') := by
  obtain ⟨⟨g0, g1, g2, gcu, gce⟩, hru, hbl, hbd, hsn, hss, ⟨nx, hnx, hx1, hx2, hx3⟩, ⟨htl, htx⟩, ⟨hfl, hfo⟩, htb⟩ := id hC
  have hP := hk.P
  have hr1 := hP.r1
  have hr8 := hP.r8
  have hc1 := hP.c1
  have hc8 := hP.c8
  have hk1 := hP.k1
  have hk3 := hP.k3
  have h64 := rc64 hr8 hc8
  have hH8 := hk.H8
  have hN : A.N = A.P.r + A.P.c := rfl
  refine Ct.of [some (.ref (b0 + 0)), some (.int x), some (.int z), some (.int k), none, none, none] (by decide) (Nat.le_of_ble_eq_true rfl) rfl rfl ?_
  refine S_aload_0 (q := 1) dX9_keepOnly_0 rfl ?_
  refine S_iload_1 (q := 2) dX9_keepOnly_1 rfl ?_
  refine S_iload_2 (q := 3) dX9_keepOnly_2 rfl ?_
  refine S_iload_3 (q := 4) dX9_keepOnly_3 rfl ?_
  refine S_callV3i (q := 7) dX9_keepOnly_4 lk_X9_178 (by first | assumption | rfl) rfl rfl (k_X9_candidateError hC hk) rfl rfl (Nat.le_of_ble_eq_true rfl) ⟨Nat.le_of_ble_eq_true rfl, Nat.le_of_ble_eq_true rfl⟩ ⟨Nat.le_of_ble_eq_true rfl, Nat.le_of_ble_eq_true rfl⟩ rfl (fun v4 M4 hv4 => ?_)
  obtain ⟨e4, rfl⟩ := hv4
  rw [e4]
  refine S_istore_4 (q := 9) dX9_keepOnly_7 rfl ?_
  refine S_iload_4 (q := 11) dX9_keepOnly_9 rfl ?_
  refine S_if_eq (t := 17) (q := 14) dX9_keepOnly_11 (by decide) rfl (fun hb11 => ?_) (fun hb11 => ?_)
  · obtain ⟨i, j, m, hi, hj, hm, rfl, rfl, rfl, hd, hq⟩ := cn_0 hP hb11
    have hij := cel_lt hi hj
    have hij64 : i * A.P.c + j < 64 := by omega
    refine S_aload_0 (q := 18) dX9_keepOnly_17 rfl ?_
    refine S_getR (q := 21) dX9_keepOnly_18 fl_X9_12 (by first | assumption | rfl) (by rfl) rfl ?_
    refine S_iload_1 (q := 22) dX9_keepOnly_21 rfl ?_
    refine S_iload_2 (q := 23) dX9_keepOnly_22 rfl ?_
    refine S_callV2i (q := 26) dX9_keepOnly_23 lk_X9_169 (by first | assumption | rfl) rfl rfl (k_X1_cellAt gO_1 g1) rfl rfl (Nat.le_of_ble_eq_true rfl) ⟨Nat.le_of_ble_eq_true rfl, Nat.le_of_ble_eq_true rfl⟩ ⟨Nat.le_of_ble_eq_true rfl, Nat.le_of_ble_eq_true rfl⟩ rfl (fun v23 M23 hv23 => ?_)
    obtain ⟨e23, rfl⟩ := hv23
    rw [e23]
    refine S_istore_5 (q := 28) dX9_keepOnly_26 rfl ?_
    refine S_aload_0 (q := 29) dX9_keepOnly_28 rfl ?_
    refine S_getR (q := 32) dX9_keepOnly_29 fl_X9_12 (by first | assumption | rfl) (by rfl) rfl ?_
    refine S_getR (q := 35) dX9_keepOnly_32 fl_X9_165 (by first | assumption | rfl) (by rfl) rfl ?_
    refine S_iload_5 (q := 37) dX9_keepOnly_35 rfl ?_
    refine S_ialdV (i := i * A.P.c + j) (val := nI (A.f (i * A.P.c + j))) (q := 38) dX9_keepOnly_37 (by first | assumption | rfl) (by first | (simp only [nI_add, pk_mul, nI_1]; done) | rfl) (by omega) (by decide) ((gce _ hij).1) rfl ?_
    refine S_callS1i (q := 41) dX9_keepOnly_38 lk_X9_182 (k_J6_bitCount_0f7a4 ((gce _ hij).2.2)) rfl rfl (Nat.le_of_ble_eq_true rfl) ⟨Nat.le_of_ble_eq_true rfl, Nat.le_of_ble_eq_true rfl⟩ ⟨Nat.le_of_ble_eq_true rfl, Nat.le_of_ble_eq_true rfl⟩ rfl (fun v38 M38 hv38 => ?_)
    obtain ⟨e38, rfl⟩ := hv38
    rw [e38]
    refine S_iconst (q := 42) (nI 1) dX9_keepOnly_41 (by decide) rfl ?_
    refine S_isub (q := 43) dX9_keepOnly_42 rfl ?_
    have hpc := pc4_1 _ (gce _ hij).2.2 (gce _ hij).2.1
    rw [pk_sub hpc]
    refine S_istore_6 (q := 45) dX9_keepOnly_43 rfl ?_
    refine S_aload_0 (q := 46) dX9_keepOnly_45 rfl ?_
    refine S_getR (q := 49) dX9_keepOnly_46 fl_X9_29 (by first | assumption | rfl) (by rfl) rfl ?_
    refine S_aload_0 (q := 50) dX9_keepOnly_49 rfl ?_
    refine S_getR (q := 53) dX9_keepOnly_50 fl_X9_12 (by first | assumption | rfl) (by rfl) rfl ?_
    refine S_callV1v (q := 56) dX9_keepOnly_53 lk_X9_134 (by first | assumption | rfl) rfl rfl (k_X2_push gO_1 (.inl (by decide)) hx1 hnx hx2 hH8) rfl rfl (Nat.le_of_ble_eq_true rfl) ⟨Nat.le_of_ble_eq_true rfl, Nat.le_of_ble_eq_true rfl⟩ ⟨Nat.le_of_ble_eq_true rfl, Nat.le_of_ble_eq_true rfl⟩ rfl (fun v53 M53 hv53 => ?_)
    have hp := PSH.of hC hk hnx hx3 hv53
    have hpf := hp.1
    refine S_aload_0 (q := 57) dX9_keepOnly_56 rfl ?_
    refine S_getR (q := 60) dX9_keepOnly_57 fl_X9_12 (by first | assumption | rfl) (by rfl) rfl ?_
    refine S_getR (q := 63) dX9_keepOnly_60 fl_X9_165 (by first | assumption | rfl) (by rfl) rfl ?_
    refine S_iload_5 (q := 65) dX9_keepOnly_63 rfl ?_
    refine S_iconst (q := 66) (nI 1) dX9_keepOnly_65 (by decide) rfl ?_
    refine S_iload_3 (q := 67) dX9_keepOnly_66 rfl ?_
    refine S_ishl (q := 68) dX9_keepOnly_67 rfl ?_
    rw [nI_shl (show m < 32 by omega) (by rw [Nat.one_mul]; exact Nat.lt_trans (p2_16 (show m ≤ 3 by omega)).2 (by decide)), Nat.one_mul]
    refine S_iastE (i := i * A.P.c + j) (q := 69) dX9_keepOnly_68 (by first | assumption | rfl) (by first | (simp only [nI_add, pk_mul, nI_1]; done) | rfl) (by omega) (by decide) rfl ?_
    refine S_iload_6 (q := 71) dX9_keepOnly_69 rfl ?_
    exact S_iret rfl dX9_keepOnly_71 rfl rfl (RES.to (A := A.sG A.P (upf A.f (i * A.P.c + j) (2 ^ m)) A.ps) (hC.ed hp rfl rfl rfl (fun a ha => by rw [up_n (by omega)]) (GR.cell (hC.1.fr (M1 := M53) (fun a _ _ => hpf a (by omega))) (p2_16 (by omega)).1 (p2_16 (by omega)).2)) (fun a ha => by rw [up_n (by omega)]; exact hpf a (by omega)) (by unfold o_keep; rw [hq]))
  · have hq := cn_n hb11
    refine S_iload_4 (q := 16) dX9_keepOnly_14 rfl ?_
    exact S_iret rfl dX9_keepOnly_16 rfl rfl (RES.same hC (by unfold o_keep; rw [hq]; rfl))
set_option maxHeartbeats 4000000 in
set_option maxRecDepth 100000 in
theorem k_X9_eliminate {l : Launch} {G : Gd} {b0 : Nat} {M : Mem} {A : Ab} {x z k : Int32}  (hC : CR M A) (hk : A.ok)  : Ct l G b0 yX9_eliminate cX9_eliminate 6 (some .int) (rmZ 4 123) LAY LAY M [.ref (b0 + 0), .int x, .int z, .int k] (fun v M' => RES M (o_elim A x z k) v M') := by
  obtain ⟨⟨g0, g1, g2, gcu, gce⟩, hru, hbl, hbd, hsn, hss, ⟨nx, hnx, hx1, hx2, hx3⟩, ⟨htl, htx⟩, ⟨hfl, hfo⟩, htb⟩ := id hC
  have hP := hk.P
  have hr1 := hP.r1
  have hr8 := hP.r8
  have hc1 := hP.c1
  have hc8 := hP.c8
  have hk1 := hP.k1
  have hk3 := hP.k3
  have h64 := rc64 hr8 hc8
  have hH8 := hk.H8
  have hN : A.N = A.P.r + A.P.c := rfl
  refine Ct.of [some (.ref (b0 + 0)), some (.int x), some (.int z), some (.int k), none, none] (by decide) (Nat.le_of_ble_eq_true rfl) rfl rfl ?_
  refine S_aload_0 (q := 1) dX9_eliminate_0 rfl ?_
  refine S_iload_1 (q := 2) dX9_eliminate_1 rfl ?_
  refine S_iload_2 (q := 3) dX9_eliminate_2 rfl ?_
  refine S_iload_3 (q := 4) dX9_eliminate_3 rfl ?_
  refine S_callV3i (q := 7) dX9_eliminate_4 lk_X9_187 (by first | assumption | rfl) rfl rfl (k_X9_otherCandidatesError hC hk) rfl rfl (Nat.le_of_ble_eq_true rfl) ⟨Nat.le_of_ble_eq_true rfl, Nat.le_of_ble_eq_true rfl⟩ ⟨Nat.le_of_ble_eq_true rfl, Nat.le_of_ble_eq_true rfl⟩ rfl (fun v4 M4 hv4 => ?_)
  obtain ⟨e4, rfl⟩ := hv4
  rw [e4]
  refine S_istore_4 (q := 9) dX9_eliminate_7 rfl ?_
  refine S_iload_4 (q := 11) dX9_eliminate_9 rfl ?_
  refine S_if_eq (t := 17) (q := 14) dX9_eliminate_11 (by decide) rfl (fun hb11 => ?_) (fun hb11 => ?_)
  · obtain ⟨i, j, m, hi, hj, hm, rfl, rfl, rfl, hd, hd1, hq⟩ := cn2_0 hP hb11
    have hij := cel_lt hi hj
    have hij64 : i * A.P.c + j < 64 := by omega
    have hcl := clr_ok _ (gce _ hij).2.2 m (by omega) hd
    have hcl1 := clr_1 (gce _ hij).2.2 hd hd1
    refine S_aload_0 (q := 18) dX9_eliminate_17 rfl ?_
    refine S_getR (q := 21) dX9_eliminate_18 fl_X9_12 (by first | assumption | rfl) (by rfl) rfl ?_
    refine S_iload_1 (q := 22) dX9_eliminate_21 rfl ?_
    refine S_iload_2 (q := 23) dX9_eliminate_22 rfl ?_
    refine S_callV2i (q := 26) dX9_eliminate_23 lk_X9_169 (by first | assumption | rfl) rfl rfl (k_X1_cellAt gO_1 g1) rfl rfl (Nat.le_of_ble_eq_true rfl) ⟨Nat.le_of_ble_eq_true rfl, Nat.le_of_ble_eq_true rfl⟩ ⟨Nat.le_of_ble_eq_true rfl, Nat.le_of_ble_eq_true rfl⟩ rfl (fun v23 M23 hv23 => ?_)
    obtain ⟨e23, rfl⟩ := hv23
    rw [e23]
    refine S_istore_5 (q := 28) dX9_eliminate_26 rfl ?_
    refine S_aload_0 (q := 29) dX9_eliminate_28 rfl ?_
    refine S_getR (q := 32) dX9_eliminate_29 fl_X9_29 (by first | assumption | rfl) (by rfl) rfl ?_
    refine S_aload_0 (q := 33) dX9_eliminate_32 rfl ?_
    refine S_getR (q := 36) dX9_eliminate_33 fl_X9_12 (by first | assumption | rfl) (by rfl) rfl ?_
    refine S_callV1v (q := 39) dX9_eliminate_36 lk_X9_134 (by first | assumption | rfl) rfl rfl (k_X2_push gO_1 (.inl (by decide)) hx1 hnx hx2 hH8) rfl rfl (Nat.le_of_ble_eq_true rfl) ⟨Nat.le_of_ble_eq_true rfl, Nat.le_of_ble_eq_true rfl⟩ ⟨Nat.le_of_ble_eq_true rfl, Nat.le_of_ble_eq_true rfl⟩ rfl (fun v36 M36 hv36 => ?_)
    have hp := PSH.of hC hk hnx hx3 hv36
    have hpf := hp.1
    refine S_aload_0 (q := 40) dX9_eliminate_39 rfl ?_
    refine S_getR (q := 43) dX9_eliminate_40 fl_X9_12 (by first | assumption | rfl) (by rfl) rfl ?_
    refine S_getR (q := 46) dX9_eliminate_43 fl_X9_165 (by first | assumption | rfl) (by rfl) rfl ?_
    refine S_iload_5 (q := 48) dX9_eliminate_46 rfl ?_
    refine S_dup2 (q := 49) dX9_eliminate_48 rfl rfl rfl ?_
    refine S_ialdV (i := i * A.P.c + j) (val := nI (A.f (i * A.P.c + j))) (q := 50) dX9_eliminate_49 (by first | assumption | rfl) (by first | (simp only [nI_add, pk_mul, nI_1]; done) | rfl) (by omega) (by decide) (by rw [hpf 6 (by omega)]; exact (gce _ hij).1) rfl ?_
    refine S_iconst (q := 51) (nI 1) dX9_eliminate_50 (by decide) rfl ?_
    refine S_iload_3 (q := 52) dX9_eliminate_51 rfl ?_
    refine S_ishl (q := 53) dX9_eliminate_52 rfl ?_
    refine S_iconst (q := 54) (-1) dX9_eliminate_53 (by decide) rfl ?_
    refine S_ixor (q := 55) dX9_eliminate_54 rfl ?_
    rw [nI_shl (show m < 32 by omega) (by rw [Nat.one_mul]; exact Nat.lt_trans (p2_16 (show m ≤ 3 by omega)).2 (by decide)), Nat.one_mul]
    refine S_iand (q := 56) dX9_eliminate_55 rfl ?_
    rw [nI_clr (Nat.lt_trans (gce _ hij).2.2 (by decide)) (show m < 32 by omega)]
    refine S_iastE (i := i * A.P.c + j) (q := 57) dX9_eliminate_56 (by first | assumption | rfl) (by first | (simp only [nI_add, pk_mul, nI_1]; done) | rfl) (by omega) (by decide) rfl ?_
    refine S_aload_0 (q := 58) dX9_eliminate_57 rfl ?_
    refine S_getR (q := 61) dX9_eliminate_58 fl_X9_12 (by first | assumption | rfl) (by rfl) rfl ?_
    refine S_getR (q := 64) dX9_eliminate_61 fl_X9_165 (by first | assumption | rfl) (by rfl) rfl ?_
    refine S_iload_5 (q := 66) dX9_eliminate_64 rfl ?_
    refine S_ialdV (i := i * A.P.c + j) (val := nI (clr (A.f (i * A.P.c + j)) m)) (q := 67) dX9_eliminate_66 (by first | assumption | rfl) (by first | (simp only [nI_add, pk_mul, nI_1]; done) | rfl) (by omega) (by decide) up_s rfl ?_
    refine S_callS1i (q := 70) dX9_eliminate_67 lk_X9_182 (k_J6_bitCount_0f7a4 hcl.1) rfl rfl (Nat.le_of_ble_eq_true rfl) ⟨Nat.le_of_ble_eq_true rfl, Nat.le_of_ble_eq_true rfl⟩ ⟨Nat.le_of_ble_eq_true rfl, Nat.le_of_ble_eq_true rfl⟩ rfl (fun v67 M67 hv67 => ?_)
    obtain ⟨e67, rfl⟩ := hv67
    rw [e67]
    exact S_iret rfl dX9_eliminate_70 rfl rfl (RES.to (A := A.sG A.P (upf A.f (i * A.P.c + j) (clr (A.f (i * A.P.c + j)) m)) A.ps) (hC.ed hp rfl rfl rfl (fun a ha => by rw [up_n (by omega)]) (GR.cell (hC.1.fr (M1 := M36) (fun a _ _ => hpf a (by omega))) hcl1 hcl.1)) (fun a ha => by rw [up_n (by omega)]; exact hpf a (by omega)) (by unfold o_elim; rw [hq]; simp only; rw [show pc4 (A.f (i * A.P.c + j)) - 1 = pc4 (clr (A.f (i * A.P.c + j)) m) by omega]))
  · have hq := cn2_n hb11
    refine S_iload_4 (q := 16) dX9_eliminate_14 rfl ?_
    exact S_iret rfl dX9_eliminate_16 rfl rfl (RES.same hC (by unfold o_elim; rw [hq]; rfl))
set_option maxHeartbeats 4000000 in
set_option maxRecDepth 100000 in
theorem k_X9_commitWork {l : Launch} {G : Gd} {b0 : Nat} {M : Mem} {A : Ab} {f1 : Nat → Nat}  (hC : CR M A) (hk : A.ok) (hw : GR M 7 A.P f1)  : Ct l G b0 yX9_commitWork cX9_commitWork 1 none (rmZ 4 123) LAY LAY M [.ref (b0 + 0)] (fun v M' => CR M' (A.sG A.P f1 A.ps) ∧ ∀ a, 69 ≤ a → M' a = M a) := by
  obtain ⟨⟨g0, g1, g2, gcu, gce⟩, hru, hbl, hbd, hsn, hss, ⟨nx, hnx, hx1, hx2, hx3⟩, ⟨htl, htx⟩, ⟨hfl, hfo⟩, htb⟩ := id hC
  have hP := hk.P
  have hr1 := hP.r1
  have hr8 := hP.r8
  have hc1 := hP.c1
  have hc8 := hP.c8
  have hk1 := hP.k1
  have hk3 := hP.k3
  have h64 := rc64 hr8 hc8
  have hH8 := hk.H8
  have hN : A.N = A.P.r + A.P.c := rfl
  refine Ct.of [some (.ref (b0 + 0))] (by decide) (Nat.le_of_ble_eq_true rfl) rfl rfl ?_
  refine S_aload_0 (q := 1) dX9_commitWork_0 rfl ?_
  refine S_getR (q := 4) dX9_commitWork_1 fl_X9_29 (by first | assumption | rfl) (by rfl) rfl ?_
  refine S_aload_0 (q := 5) dX9_commitWork_4 rfl ?_
  refine S_getR (q := 8) dX9_commitWork_5 fl_X9_12 (by first | assumption | rfl) (by rfl) rfl ?_
  refine S_callV1v (q := 11) dX9_commitWork_8 lk_X9_134 (by first | assumption | rfl) rfl rfl (k_X2_push gO_1 (.inl (by decide)) hx1 hnx hx2 hH8) rfl rfl (Nat.le_of_ble_eq_true rfl) ⟨Nat.le_of_ble_eq_true rfl, Nat.le_of_ble_eq_true rfl⟩ ⟨Nat.le_of_ble_eq_true rfl, Nat.le_of_ble_eq_true rfl⟩ rfl (fun v8 M8 hv8 => ?_)
  have hp := PSH.of hC hk hnx hx3 hv8
  have hpf := hp.1
  refine S_aload_0 (q := 12) dX9_commitWork_11 rfl ?_
  refine S_getR (q := 15) dX9_commitWork_12 fl_X9_12 (by first | assumption | rfl) (by rfl) rfl ?_
  refine S_aload_0 (q := 16) dX9_commitWork_15 rfl ?_
  refine S_getR (q := 19) dX9_commitWork_16 fl_X9_16 (by first | assumption | rfl) (by rfl) rfl ?_
  refine S_callV1v (q := 22) dX9_commitWork_19 lk_X9_209 (by first | assumption | rfl) rfl rfl (k_X1_copyFrom gO_1 gO_7 (by decide)) rfl rfl (Nat.le_of_ble_eq_true rfl) ⟨Nat.le_of_ble_eq_true rfl, Nat.le_of_ble_eq_true rfl⟩ ⟨Nat.le_of_ble_eq_true rfl, Nat.le_of_ble_eq_true rfl⟩ rfl (fun v19 M19 hv19 => ?_)
  exact S_ret (v := 0) rfl dX9_commitWork_22 rfl (⟨hC.ed hp rfl rfl rfl (fun a ha => hv19.1 a ha) (GR.cpy (hw.fr (M1 := M8) (fun a _ _ => hpf a (by omega))) hP hv19.2), fun a ha => by rw [hv19.1 a (by omega)]; exact hpf a (by omega)⟩)
set_option maxHeartbeats 4000000 in
set_option maxRecDepth 100000 in
theorem k_X9_remember {l : Launch} {G : Gd} {b0 : Nat} {M : Mem} {x z : Int32} : Ct l G b0 yX9_remember cX9_remember 3 (some .int) (rmZ 0 0) LAY LAY M [.ref (b0 + 0), .int x, .int z] (fun v M' => M' = up (up M 0 10 x) 0 11 z ∧ v = -4) := by
  refine Ct.of [some (.ref (b0 + 0)), some (.int x), some (.int z)] (by decide) (Nat.le_of_ble_eq_true rfl) rfl rfl ?_
  refine S_aload_0 (q := 1) dX9_remember_0 rfl ?_
  refine S_iload_1 (q := 2) dX9_remember_1 rfl ?_
  refine S_putI (q := 5) dX9_remember_2 fp_X9_65 (by first | assumption | rfl) (by rfl) rfl (by rfl) rfl ?_
  refine S_aload_0 (q := 6) dX9_remember_5 rfl ?_
  refine S_iload_2 (q := 7) dX9_remember_6 rfl ?_
  refine S_putI (q := 10) dX9_remember_7 fp_X9_68 (by first | assumption | rfl) (by rfl) rfl (by rfl) rfl ?_
  refine S_bipush (q := 12) (-4) dX9_remember_10 (by decide) rfl ?_
  exact S_iret rfl dX9_remember_12 rfl rfl (⟨rfl, rfl⟩)
set_option maxHeartbeats 4000000 in
set_option maxRecDepth 100000 in
theorem k_X9_forgetContradiction {l : Launch} {G : Gd} {b0 : Nat} {M : Mem} : Ct l G b0 yX9_forgetContradiction cX9_forgetContradiction 1 none (rmZ 0 0) LAY LAY M [.ref (b0 + 0)] (fun v M' => M' = up (up M 0 10 (-8)) 0 11 (-8)) := by
  refine Ct.of [some (.ref (b0 + 0))] (by decide) (Nat.le_of_ble_eq_true rfl) rfl rfl ?_
  refine S_aload_0 (q := 1) dX9_forgetContradiction_0 rfl ?_
  refine S_bipush (q := 3) (-8) dX9_forgetContradiction_1 (by decide) rfl ?_
  refine S_putI (q := 6) dX9_forgetContradiction_3 fp_X9_65 (by first | assumption | rfl) (by rfl) rfl (by rfl) rfl ?_
  refine S_aload_0 (q := 7) dX9_forgetContradiction_6 rfl ?_
  refine S_bipush (q := 9) (-8) dX9_forgetContradiction_7 (by decide) rfl ?_
  refine S_putI (q := 12) dX9_forgetContradiction_9 fp_X9_68 (by first | assumption | rfl) (by rfl) rfl (by rfl) rfl ?_
  exact S_ret (v := 0) rfl dX9_forgetContradiction_12 rfl (rfl)
set_option maxHeartbeats 4000000 in
set_option maxRecDepth 100000 in
theorem k_X9_solveLine {l : Launch} {G : Gd} {b0 : Nat} {M : Mem} {A : Ab} {x : Int32}  (hC : CR M A) (hk : A.ok)  : Ct l G b0 yX9_solveLine cX9_solveLine 2 (some .int) (rmZ 5 143) LAY LAY M [.ref (b0 + 0), .int x] (fun v M' => RES M (o_solve A x) v M') := by
  obtain ⟨⟨g0, g1, g2, gcu, gce⟩, hru, hbl, hbd, hsn, hss, ⟨nx, hnx, hx1, hx2, hx3⟩, ⟨htl, htx⟩, ⟨hfl, hfo⟩, htb⟩ := id hC
  have hP := hk.P
  have hr1 := hP.r1
  have hr8 := hP.r8
  have hc1 := hP.c1
  have hc8 := hP.c8
  have hk1 := hP.k1
  have hk3 := hP.k3
  have h64 := rc64 hr8 hc8
  have hH8 := hk.H8
  have hN : A.N = A.P.r + A.P.c := rfl
  refine Ct.of [some (.ref (b0 + 0)), some (.int x)] (by decide) (Nat.le_of_ble_eq_true rfl) rfl rfl ?_
  refine S_aload_0 (q := 1) dX9_solveLine_0 rfl ?_
  refine S_getR (q := 4) dX9_solveLine_1 fl_X9_12 (by first | assumption | rfl) (by rfl) rfl ?_
  refine S_iload_1 (q := 5) dX9_solveLine_4 rfl ?_
  refine S_callV1i (q := 8) dX9_solveLine_5 lk_X9_124 (by first | assumption | rfl) rfl rfl (k_X1_hasLine gO_1 g0 g1 hr8 hc8 hr1) rfl rfl (Nat.le_of_ble_eq_true rfl) ⟨Nat.le_of_ble_eq_true rfl, Nat.le_of_ble_eq_true rfl⟩ ⟨Nat.le_of_ble_eq_true rfl, Nat.le_of_ble_eq_true rfl⟩ rfl (fun v5 M5 hv5 => ?_)
  obtain ⟨e5, rfl⟩ := hv5
  rw [e5]
  refine S_if_ne (t := 13) (q := 11) dX9_solveLine_8 (by decide) rfl (fun hb8 => ?_) (fun hb8 => ?_)
  · obtain ⟨i, hi, rfl, hl⟩ := ln_ok (A := A) hP (bI_n.mp hb8)
    have hi16 : i < 16 := by omega
    refine S_aload_0 (q := 14) dX9_solveLine_13 rfl ?_
    refine S_getR (q := 17) dX9_solveLine_14 fl_X9_16 (by first | assumption | rfl) (by rfl) rfl ?_
    refine S_aload_0 (q := 18) dX9_solveLine_17 rfl ?_
    refine S_getR (q := 21) dX9_solveLine_18 fl_X9_12 (by first | assumption | rfl) (by rfl) rfl ?_
    refine S_callV1v (q := 24) dX9_solveLine_21 lk_X9_209 (by first | assumption | rfl) rfl rfl (k_X1_copyFrom gO_7 gO_1 (by decide)) rfl rfl (Nat.le_of_ble_eq_true rfl) ⟨Nat.le_of_ble_eq_true rfl, Nat.le_of_ble_eq_true rfl⟩ ⟨Nat.le_of_ble_eq_true rfl, Nat.le_of_ble_eq_true rfl⟩ rfl (fun v21 M21 hv21 => ?_)
    have hw : GR M21 7 A.P A.f := GR.cpy hC.1 hP hv21.2
    have hC2 : CR M21 A := hC.fr (fun a ha => hv21.1 a (by omega))
    have hfr := hv21.1
    refine S_aload_0 (q := 25) dX9_solveLine_24 rfl ?_
    refine S_getR (q := 28) dX9_solveLine_25 fl_X9_36 (by first | assumption | rfl) (by rfl) rfl ?_
    refine S_aload_0 (q := 29) dX9_solveLine_28 rfl ?_
    refine S_getR (q := 32) dX9_solveLine_29 fl_X9_16 (by first | assumption | rfl) (by rfl) rfl ?_
    refine S_iload_1 (q := 33) dX9_solveLine_32 rfl ?_
    refine S_callV2i (q := 36) dX9_solveLine_33 lk_X9_212 (by first | assumption | rfl) rfl rfl (k_X3_solve lO_69 gO_7 hP hw.1 hw.2.1 hi (by decide) hw.2.2.2.2 (hw.2.2.2.1 i hi16)) rfl rfl (Nat.le_of_ble_eq_true rfl) ⟨Nat.le_of_ble_eq_true rfl, Nat.le_of_ble_eq_true rfl⟩ ⟨Nat.le_of_ble_eq_true rfl, Nat.le_of_ble_eq_true rfl⟩ rfl (fun v33 M33 hv33 => ?_)
    obtain ⟨hs1, rfl, hs3, hs4⟩ := hv33
    have hC3 : CR M33 A := hC2.fr (fun a ha => hs1 a (by omega) (by omega))
    have hf3 : ∀ a, 140 ≤ a → M33 a = M a := fun a ha => by rw [hs1 a (by omega) (by omega)]; exact hfr a (by omega)
    refine S_if_ne (t := 46) (q := 39) dX9_solveLine_36 (by decide) rfl (fun hb36 => ?_) (fun hb36 => ?_)
    · have hz : ¬ wyL A.P A.f i = 0 := bI_n.mp hb36
      have hw3 : GR M33 7 A.P (lnS A.P A.f i) := hw.ce (fun a h1 h2 => hs1 a (by omega) (by omega)) (hs4 hz).1
      refine S_aload_0 (q := 47) dX9_solveLine_46 rfl ?_
      refine S_callV0v (q := 50) dX9_solveLine_47 lk_X9_219 (by first | assumption | rfl) rfl rfl (k_X9_commitWork hC3 hk hw3) rfl rfl (Nat.le_of_ble_eq_true rfl) ⟨Nat.le_of_ble_eq_true rfl, Nat.le_of_ble_eq_true rfl⟩ ⟨Nat.le_of_ble_eq_true rfl, Nat.le_of_ble_eq_true rfl⟩ rfl (fun v47 M47 hv47 => ?_)
      refine S_aload_0 (q := 51) dX9_solveLine_50 rfl ?_
      refine S_getR (q := 54) dX9_solveLine_51 fl_X9_36 (by first | assumption | rfl) (by rfl) rfl ?_
      refine S_getI (q := 57) dX9_solveLine_54 fl_X9_222 (by first | assumption | rfl) (by rfl) rfl ?_
      rw [hv47.2 69 (by omega), (hs4 hz).2.1]
      exact S_iret rfl dX9_solveLine_57 rfl rfl (RES.to hv47.1 (fun a ha => by rw [hv47.2 a (by omega)]; exact hf3 a ha) (by unfold o_solve; rw [hl]; simp only [if_neg hz]))
    · have hz : wyL A.P A.f i = 0 := Decidable.not_not.mp (bI_0.mp hb36)
      refine S_aload_0 (q := 40) dX9_solveLine_39 rfl ?_
      refine S_iload_1 (q := 41) dX9_solveLine_40 rfl ?_
      refine S_iconst (q := 42) (nI 0) dX9_solveLine_41 (by decide) rfl ?_
      refine S_callV2i (q := 45) dX9_solveLine_42 lk_X9_216 (by first | assumption | rfl) rfl rfl (k_X9_remember) rfl rfl (Nat.le_of_ble_eq_true rfl) ⟨Nat.le_of_ble_eq_true rfl, Nat.le_of_ble_eq_true rfl⟩ ⟨Nat.le_of_ble_eq_true rfl, Nat.le_of_ble_eq_true rfl⟩ rfl (fun v42 M42 hv42 => ?_)
      obtain ⟨e42, rfl⟩ := hv42
      rw [e42]
      exact S_iret rfl dX9_solveLine_45 rfl rfl (RES.to (A := A.sB (some (i, 0))) (CR.bad hC3 rfl rfl) (fun a ha => by rw [up_n (by omega), up_n (by omega)]; exact hf3 a ha) (by unfold o_solve; rw [hl]; simp only [if_pos hz]))
  · have hl := ln_no (A := A) (bI_0.mp hb8)
    refine S_iconst (q := 12) (-1) dX9_solveLine_11 (by decide) rfl ?_
    exact S_iret rfl dX9_solveLine_12 rfl rfl (RES.same hC (by unfold o_solve; rw [hl]))
set_option maxHeartbeats 4000000 in
set_option maxRecDepth 100000 in
theorem k_X9_propagate {l : Launch} {G : Gd} {b0 : Nat} {M : Mem} {A : Ab}  (hC : CR M A) (hk : A.ok)  : Ct l G b0 yX9_propagate cX9_propagate 1 (some .int) (rmZ 5 143) LAY LAY M [.ref (b0 + 0)] (fun v M' => RES M (o_prop A) v M') := by
  obtain ⟨⟨g0, g1, g2, gcu, gce⟩, hru, hbl, hbd, hsn, hss, ⟨nx, hnx, hx1, hx2, hx3⟩, ⟨htl, htx⟩, ⟨hfl, hfo⟩, htb⟩ := id hC
  have hP := hk.P
  have hr1 := hP.r1
  have hr8 := hP.r8
  have hc1 := hP.c1
  have hc8 := hP.c8
  have hk1 := hP.k1
  have hk3 := hP.k3
  have h64 := rc64 hr8 hc8
  have hH8 := hk.H8
  have hN : A.N = A.P.r + A.P.c := rfl
  refine Ct.of [some (.ref (b0 + 0))] (by decide) (Nat.le_of_ble_eq_true rfl) rfl rfl ?_
  refine S_aload_0 (q := 1) dX9_propagate_0 rfl ?_
  refine S_getR (q := 4) dX9_propagate_1 fl_X9_16 (by first | assumption | rfl) (by rfl) rfl ?_
  refine S_aload_0 (q := 5) dX9_propagate_4 rfl ?_
  refine S_getR (q := 8) dX9_propagate_5 fl_X9_12 (by first | assumption | rfl) (by rfl) rfl ?_
  refine S_callV1v (q := 11) dX9_propagate_8 lk_X9_209 (by first | assumption | rfl) rfl rfl (k_X1_copyFrom gO_7 gO_1 (by decide)) rfl rfl (Nat.le_of_ble_eq_true rfl) ⟨Nat.le_of_ble_eq_true rfl, Nat.le_of_ble_eq_true rfl⟩ ⟨Nat.le_of_ble_eq_true rfl, Nat.le_of_ble_eq_true rfl⟩ rfl (fun v8 M8 hv8 => ?_)
  have hw : GR M8 7 A.P A.f := GR.cpy hC.1 hP hv8.2
  have hC2 : CR M8 A := hC.fr (fun a ha => hv8.1 a (by omega))
  have hfr := hv8.1
  refine S_aload_0 (q := 12) dX9_propagate_11 rfl ?_
  refine S_getR (q := 15) dX9_propagate_12 fl_X9_43 (by first | assumption | rfl) (by rfl) rfl ?_
  refine S_aload_0 (q := 16) dX9_propagate_15 rfl ?_
  refine S_getR (q := 19) dX9_propagate_16 fl_X9_16 (by first | assumption | rfl) (by rfl) rfl ?_
  refine S_aload_0 (q := 20) dX9_propagate_19 rfl ?_
  refine S_getR (q := 23) dX9_propagate_20 fl_X9_16 (by first | assumption | rfl) (by rfl) rfl ?_
  refine S_callV0i (q := 26) dX9_propagate_23 lk_X9_225 (by first | assumption | rfl) rfl rfl (k_X1_allLines gO_7 hw.1 hw.2.1 hr8 hc8) rfl rfl (Nat.le_of_ble_eq_true rfl) ⟨Nat.le_of_ble_eq_true rfl, Nat.le_of_ble_eq_true rfl⟩ ⟨Nat.le_of_ble_eq_true rfl, Nat.le_of_ble_eq_true rfl⟩ rfl (fun v23 M23 hv23 => ?_)
  obtain ⟨e23, rfl⟩ := hv23
  rw [e23]
  refine S_callV2i (q := 29) dX9_propagate_26 lk_X9_228 (by first | assumption | rfl) rfl rfl (k_X5_settle pO_78 gO_7 hP hw.1 hw.2.1 (by decide) hw.2.2.2.1 hw.2.2.2.2 (STB.all hP)) rfl rfl (Nat.le_of_ble_eq_true rfl) ⟨Nat.le_of_ble_eq_true rfl, Nat.le_of_ble_eq_true rfl⟩ ⟨Nat.le_of_ble_eq_true rfl, Nat.le_of_ble_eq_true rfl⟩ rfl (fun v26 M26 hv26 => ?_)
  obtain ⟨hs1, hs2, hs3⟩ := hv26
  have hC3 : CR M26 A := hC2.fr (fun a ha => hs1 a (by omega) (by omega))
  have hf3 : ∀ a, 140 ≤ a → M26 a = M a := fun a ha => by rw [hs1 a (by omega) (by omega)]; exact hfr a (by omega)
  refine S_if_ne (t := 45) (q := 32) dX9_propagate_29 (by decide) rfl (fun hb29 => ?_) (fun hb29 => ?_)
  · obtain ⟨g, n, hz⟩ : ∃ g n, spr A.P A.f = .inr (g, n) := by
      cases e : spr A.P A.f with
      | inl j => exact absurd (hs2 j e).1 hb29
      | inr q => exact ⟨q.1, q.2, rfl⟩
    have hw3 : GR M26 7 A.P g := hw.ce (fun a h1 h2 => hs1 a (by omega) (by omega)) (hs3 g n hz).2.1
    refine S_aload_0 (q := 46) dX9_propagate_45 rfl ?_
    refine S_callV0v (q := 49) dX9_propagate_46 lk_X9_219 (by first | assumption | rfl) rfl rfl (k_X9_commitWork hC3 hk hw3) rfl rfl (Nat.le_of_ble_eq_true rfl) ⟨Nat.le_of_ble_eq_true rfl, Nat.le_of_ble_eq_true rfl⟩ ⟨Nat.le_of_ble_eq_true rfl, Nat.le_of_ble_eq_true rfl⟩ rfl (fun v46 M46 hv46 => ?_)
    refine S_aload_0 (q := 50) dX9_propagate_49 rfl ?_
    refine S_getR (q := 53) dX9_propagate_50 fl_X9_43 (by first | assumption | rfl) (by rfl) rfl ?_
    refine S_getI (q := 56) dX9_propagate_53 fl_X9_234 (by first | assumption | rfl) (by rfl) rfl ?_
    rw [hv46.2 78 (by omega), (hs3 g n hz).2.2.2]
    exact S_iret rfl dX9_propagate_56 rfl rfl (RES.to hv46.1 (fun a ha => by rw [hv46.2 a (by omega)]; exact hf3 a ha) (by unfold o_prop; rw [hz]))
  · obtain ⟨j, hz⟩ : ∃ j, spr A.P A.f = .inl j := by
      cases e : spr A.P A.f with
      | inl j => exact ⟨j, rfl⟩
      | inr q => exact absurd ((hs3 q.1 q.2 e).1.symm.trans hb29) (by decide)
    refine S_aload_0 (q := 33) dX9_propagate_32 rfl ?_
    refine S_aload_0 (q := 34) dX9_propagate_33 rfl ?_
    refine S_getR (q := 37) dX9_propagate_34 fl_X9_43 (by first | assumption | rfl) (by rfl) rfl ?_
    refine S_getI (q := 40) dX9_propagate_37 fl_X9_231 (by first | assumption | rfl) (by rfl) rfl ?_
    rw [(hs2 j hz).2]
    refine S_iconst (q := 41) (nI 0) dX9_propagate_40 (by decide) rfl ?_
    refine S_callV2i (q := 44) dX9_propagate_41 lk_X9_216 (by first | assumption | rfl) rfl rfl (k_X9_remember) rfl rfl (Nat.le_of_ble_eq_true rfl) ⟨Nat.le_of_ble_eq_true rfl, Nat.le_of_ble_eq_true rfl⟩ ⟨Nat.le_of_ble_eq_true rfl, Nat.le_of_ble_eq_true rfl⟩ rfl (fun v41 M41 hv41 => ?_)
    obtain ⟨e41, rfl⟩ := hv41
    rw [e41]
    exact S_iret rfl dX9_propagate_44 rfl rfl (RES.to (A := A.sB (some (j, 0))) (CR.bad hC3 rfl rfl) (fun a ha => by rw [up_n (by omega), up_n (by omega)]; exact hf3 a ha) (by unfold o_prop; rw [hz]))
set_option maxHeartbeats 4000000 in
set_option maxRecDepth 100000 in
theorem k_X9_passCount {l : Launch} {G : Gd} {b0 : Nat} {M : Mem} {A : Ab}  (hC : CR M A) (hk : A.ok)  : Ct l G b0 yX9_passCount cX9_passCount 1 (some .int) (rmZ 5 121) LAY LAY M [.ref (b0 + 0)] (fun v M' => RES M (o_pass A) v M') := by
  obtain ⟨⟨g0, g1, g2, gcu, gce⟩, hru, hbl, hbd, hsn, hss, ⟨nx, hnx, hx1, hx2, hx3⟩, ⟨htl, htx⟩, ⟨hfl, hfo⟩, htb⟩ := id hC
  have hP := hk.P
  have hr1 := hP.r1
  have hr8 := hP.r8
  have hc1 := hP.c1
  have hc8 := hP.c8
  have hk1 := hP.k1
  have hk3 := hP.k3
  have h64 := rc64 hr8 hc8
  have hH8 := hk.H8
  have hN : A.N = A.P.r + A.P.c := rfl
  refine Ct.of [some (.ref (b0 + 0))] (by decide) (Nat.le_of_ble_eq_true rfl) rfl rfl ?_
  refine S_aload_0 (q := 1) dX9_passCount_0 rfl ?_
  refine S_getR (q := 4) dX9_passCount_1 fl_X9_16 (by first | assumption | rfl) (by rfl) rfl ?_
  refine S_aload_0 (q := 5) dX9_passCount_4 rfl ?_
  refine S_getR (q := 8) dX9_passCount_5 fl_X9_12 (by first | assumption | rfl) (by rfl) rfl ?_
  refine S_callV1v (q := 11) dX9_passCount_8 lk_X9_209 (by first | assumption | rfl) rfl rfl (k_X1_copyFrom gO_7 gO_1 (by decide)) rfl rfl (Nat.le_of_ble_eq_true rfl) ⟨Nat.le_of_ble_eq_true rfl, Nat.le_of_ble_eq_true rfl⟩ ⟨Nat.le_of_ble_eq_true rfl, Nat.le_of_ble_eq_true rfl⟩ rfl (fun v8 M8 hv8 => ?_)
  have hw : GR M8 7 A.P A.f := GR.cpy hC.1 hP hv8.2
  have hC2 : CR M8 A := hC.fr (fun a ha => hv8.1 a (by omega))
  have hfr := hv8.1
  refine S_aload_0 (q := 12) dX9_passCount_11 rfl ?_
  refine S_getR (q := 15) dX9_passCount_12 fl_X9_43 (by first | assumption | rfl) (by rfl) rfl ?_
  refine S_aload_0 (q := 16) dX9_passCount_15 rfl ?_
  refine S_getR (q := 19) dX9_passCount_16 fl_X9_16 (by first | assumption | rfl) (by rfl) rfl ?_
  refine S_aload_0 (q := 20) dX9_passCount_19 rfl ?_
  refine S_getR (q := 23) dX9_passCount_20 fl_X9_16 (by first | assumption | rfl) (by rfl) rfl ?_
  refine S_callV0i (q := 26) dX9_passCount_23 lk_X9_225 (by first | assumption | rfl) rfl rfl (k_X1_allLines gO_7 hw.1 hw.2.1 hr8 hc8) rfl rfl (Nat.le_of_ble_eq_true rfl) ⟨Nat.le_of_ble_eq_true rfl, Nat.le_of_ble_eq_true rfl⟩ ⟨Nat.le_of_ble_eq_true rfl, Nat.le_of_ble_eq_true rfl⟩ rfl (fun v23 M23 hv23 => ?_)
  obtain ⟨e23, rfl⟩ := hv23
  rw [e23]
  refine S_callV2i (q := 29) dX9_passCount_26 lk_X9_228 (by first | assumption | rfl) rfl rfl (k_X5_settle pO_78 gO_7 hP hw.1 hw.2.1 (by decide) hw.2.2.2.1 hw.2.2.2.2 (STB.all hP)) rfl rfl (Nat.le_of_ble_eq_true rfl) ⟨Nat.le_of_ble_eq_true rfl, Nat.le_of_ble_eq_true rfl⟩ ⟨Nat.le_of_ble_eq_true rfl, Nat.le_of_ble_eq_true rfl⟩ rfl (fun v26 M26 hv26 => ?_)
  obtain ⟨hs1, hs2, hs3⟩ := hv26
  have hC3 : CR M26 A := hC2.fr (fun a ha => hs1 a (by omega) (by omega))
  have hf3 : ∀ a, 140 ≤ a → M26 a = M a := fun a ha => by rw [hs1 a (by omega) (by omega)]; exact hfr a (by omega)
  refine S_if_eq (t := 42) (q := 32) dX9_passCount_29 (by decide) rfl (fun hb29 => ?_) (fun hb29 => ?_)
  · obtain ⟨j, hz⟩ : ∃ j, spr A.P A.f = .inl j := by
      cases e : spr A.P A.f with
      | inl j => exact ⟨j, rfl⟩
      | inr q => exact absurd ((hs3 q.1 q.2 e).1.symm.trans hb29) (by decide)
    refine S_bipush (q := 44) (-4) dX9_passCount_42 (by decide) rfl ?_
    exact S_iret rfl dX9_passCount_44 rfl rfl (RES.to hC3 hf3 (by unfold o_pass; rw [hz]))
  · obtain ⟨g, n, hz⟩ : ∃ g n, spr A.P A.f = .inr (g, n) := by
      cases e : spr A.P A.f with
      | inl j => exact absurd (hs2 j e).1 hb29
      | inr q => exact ⟨q.1, q.2, rfl⟩
    refine S_aload_0 (q := 33) dX9_passCount_32 rfl ?_
    refine S_getR (q := 36) dX9_passCount_33 fl_X9_43 (by first | assumption | rfl) (by rfl) rfl ?_
    refine S_getI (q := 39) dX9_passCount_36 fl_X9_235 (by first | assumption | rfl) (by rfl) rfl ?_
    rw [(hs3 g n hz).2.2.1]
    refine S_goto (t := 44) dX9_passCount_39 (by decide) ?_
    exact S_iret rfl dX9_passCount_44 rfl rfl (RES.to hC3 hf3 (by unfold o_pass; rw [hz]))
set_option maxHeartbeats 4000000 in
set_option maxRecDepth 100000 in
theorem k_X9_probe {l : Launch} {G : Gd} {b0 : Nat} {M : Mem} {A : Ab} {x z k : Int32}  (hC : CR M A) (hk : A.ok)  : Ct l G b0 yX9_probe cX9_probe 5 (some .int) (rmZ 5 121) LAY LAY M [.ref (b0 + 0), .int x, .int z, .int k] (fun v M' => RES M (o_probe A x z k) v M') := by
  obtain ⟨⟨g0, g1, g2, gcu, gce⟩, hru, hbl, hbd, hsn, hss, ⟨nx, hnx, hx1, hx2, hx3⟩, ⟨htl, htx⟩, ⟨hfl, hfo⟩, htb⟩ := id hC
  have hP := hk.P
  have hr1 := hP.r1
  have hr8 := hP.r8
  have hc1 := hP.c1
  have hc8 := hP.c8
  have hk1 := hP.k1
  have hk3 := hP.k3
  have h64 := rc64 hr8 hc8
  have hH8 := hk.H8
  have hN : A.N = A.P.r + A.P.c := rfl
  refine Ct.of [some (.ref (b0 + 0)), some (.int x), some (.int z), some (.int k), none] (by decide) (Nat.le_of_ble_eq_true rfl) rfl rfl ?_
  refine S_aload_0 (q := 1) dX9_probe_0 rfl ?_
  refine S_iload_1 (q := 2) dX9_probe_1 rfl ?_
  refine S_iload_2 (q := 3) dX9_probe_2 rfl ?_
  refine S_iload_3 (q := 4) dX9_probe_3 rfl ?_
  refine S_callV3i (q := 7) dX9_probe_4 lk_X9_187 (by first | assumption | rfl) rfl rfl (k_X9_otherCandidatesError hC hk) rfl rfl (Nat.le_of_ble_eq_true rfl) ⟨Nat.le_of_ble_eq_true rfl, Nat.le_of_ble_eq_true rfl⟩ ⟨Nat.le_of_ble_eq_true rfl, Nat.le_of_ble_eq_true rfl⟩ rfl (fun v4 M4 hv4 => ?_)
  obtain ⟨e4, rfl⟩ := hv4
  rw [e4]
  refine S_istore_4 (q := 9) dX9_probe_7 rfl ?_
  refine S_iload_4 (q := 11) dX9_probe_9 rfl ?_
  refine S_if_eq (t := 17) (q := 14) dX9_probe_11 (by decide) rfl (fun hb11 => ?_) (fun hb11 => ?_)
  · obtain ⟨i, j, m, hi, hj, hm, rfl, rfl, rfl, hd, hd1, hq⟩ := cn2_0 hP hb11
    have hij := cel_lt hi hj
    have hij64 : i * A.P.c + j < 64 := by omega
    refine S_aload_0 (q := 18) dX9_probe_17 rfl ?_
    refine S_getR (q := 21) dX9_probe_18 fl_X9_16 (by first | assumption | rfl) (by rfl) rfl ?_
    refine S_aload_0 (q := 22) dX9_probe_21 rfl ?_
    refine S_getR (q := 25) dX9_probe_22 fl_X9_12 (by first | assumption | rfl) (by rfl) rfl ?_
    refine S_callV1v (q := 28) dX9_probe_25 lk_X9_209 (by first | assumption | rfl) rfl rfl (k_X1_copyFrom gO_7 gO_1 (by decide)) rfl rfl (Nat.le_of_ble_eq_true rfl) ⟨Nat.le_of_ble_eq_true rfl, Nat.le_of_ble_eq_true rfl⟩ ⟨Nat.le_of_ble_eq_true rfl, Nat.le_of_ble_eq_true rfl⟩ rfl (fun v25 M25 hv25 => ?_)
    have hw0 : GR M25 7 A.P A.f := GR.cpy hC.1 hP hv25.2
    have hC2 : CR M25 A := hC.fr (fun a ha => hv25.1 a (by omega))
    have hfr := hv25.1
    refine S_aload_0 (q := 29) dX9_probe_28 rfl ?_
    refine S_getR (q := 32) dX9_probe_29 fl_X9_16 (by first | assumption | rfl) (by rfl) rfl ?_
    refine S_getR (q := 35) dX9_probe_32 fl_X9_165 (by first | assumption | rfl) (by rfl) rfl ?_
    refine S_aload_0 (q := 36) dX9_probe_35 rfl ?_
    refine S_getR (q := 39) dX9_probe_36 fl_X9_16 (by first | assumption | rfl) (by rfl) rfl ?_
    refine S_iload_1 (q := 40) dX9_probe_39 rfl ?_
    refine S_iload_2 (q := 41) dX9_probe_40 rfl ?_
    refine S_callV2i (q := 44) dX9_probe_41 lk_X9_169 (by first | assumption | rfl) rfl rfl (k_X1_cellAt gO_7 hw0.2.1) rfl rfl (Nat.le_of_ble_eq_true rfl) ⟨Nat.le_of_ble_eq_true rfl, Nat.le_of_ble_eq_true rfl⟩ ⟨Nat.le_of_ble_eq_true rfl, Nat.le_of_ble_eq_true rfl⟩ rfl (fun v41 M41 hv41 => ?_)
    obtain ⟨e41, rfl⟩ := hv41
    rw [e41]
    refine S_iconst (q := 45) (nI 1) dX9_probe_44 (by decide) rfl ?_
    refine S_iload_3 (q := 46) dX9_probe_45 rfl ?_
    refine S_ishl (q := 47) dX9_probe_46 rfl ?_
    rw [nI_shl (show m < 32 by omega) (by rw [Nat.one_mul]; exact Nat.lt_trans (p2_16 (show m ≤ 3 by omega)).2 (by decide)), Nat.one_mul]
    refine S_iastE (i := i * A.P.c + j) (q := 48) dX9_probe_47 (by first | assumption | rfl) (by first | (simp only [nI_add, pk_mul, nI_1]; done) | rfl) (by omega) (by decide) rfl ?_
    have hw : GR (up M25 12 (i * A.P.c + j) (nI (2 ^ m))) 7 A.P (upf A.f (i * A.P.c + j) (2 ^ m)) := hw0.cell (p2_16 (by omega)).1 (p2_16 (by omega)).2
    refine S_aload_0 (q := 49) dX9_probe_48 rfl ?_
    refine S_getR (q := 52) dX9_probe_49 fl_X9_43 (by first | assumption | rfl) (by rfl) rfl ?_
    refine S_aload_0 (q := 53) dX9_probe_52 rfl ?_
    refine S_getR (q := 56) dX9_probe_53 fl_X9_16 (by first | assumption | rfl) (by rfl) rfl ?_
    refine S_aload_0 (q := 57) dX9_probe_56 rfl ?_
    refine S_getR (q := 60) dX9_probe_57 fl_X9_16 (by first | assumption | rfl) (by rfl) rfl ?_
    refine S_callV0i (q := 63) dX9_probe_60 lk_X9_225 (by first | assumption | rfl) rfl rfl (k_X1_allLines gO_7 hw.1 hw.2.1 hr8 hc8) rfl rfl (Nat.le_of_ble_eq_true rfl) ⟨Nat.le_of_ble_eq_true rfl, Nat.le_of_ble_eq_true rfl⟩ ⟨Nat.le_of_ble_eq_true rfl, Nat.le_of_ble_eq_true rfl⟩ rfl (fun v60 M60 hv60 => ?_)
    obtain ⟨e60, rfl⟩ := hv60
    rw [e60]
    refine S_callV2i (q := 66) dX9_probe_63 lk_X9_228 (by first | assumption | rfl) rfl rfl (k_X5_settle pO_78 gO_7 hP hw.1 hw.2.1 (by decide) hw.2.2.2.1 hw.2.2.2.2 (STB.all hP)) rfl rfl (Nat.le_of_ble_eq_true rfl) ⟨Nat.le_of_ble_eq_true rfl, Nat.le_of_ble_eq_true rfl⟩ ⟨Nat.le_of_ble_eq_true rfl, Nat.le_of_ble_eq_true rfl⟩ rfl (fun v63 M63 hv63 => ?_)
    obtain ⟨hs1, hs2, hs3⟩ := hv63
    have hC3 : CR M63 A := hC2.fr (fun a ha => by rw [hs1 a (by omega) (by omega), up_n (by omega)])
    have hf3 : ∀ a, 140 ≤ a → M63 a = M a := fun a ha => by rw [hs1 a (by omega) (by omega), up_n (by omega)]; exact hfr a (by omega)
    refine S_if_eq (t := 73) (q := 69) dX9_probe_66 (by decide) rfl (fun hb66 => ?_) (fun hb66 => ?_)
    · obtain ⟨j1, hz⟩ : ∃ j1, spr A.P (upf A.f (i * A.P.c + j) (2 ^ m)) = .inl j1 := by
        cases e : spr A.P (upf A.f (i * A.P.c + j) (2 ^ m)) with
        | inl j => exact ⟨j, rfl⟩
        | inr q => exact absurd ((hs3 q.1 q.2 e).1.symm.trans hb66) (by decide)
      refine S_iconst (q := 74) (nI 1) dX9_probe_73 (by decide) rfl ?_
      exact S_iret rfl dX9_probe_74 rfl rfl (RES.to hC3 hf3 (by unfold o_probe; rw [hq]; simp only; rw [hz]))
    · obtain ⟨g, n, hz⟩ : ∃ g n, spr A.P (upf A.f (i * A.P.c + j) (2 ^ m)) = .inr (g, n) := by
        cases e : spr A.P (upf A.f (i * A.P.c + j) (2 ^ m)) with
        | inl j => exact absurd (hs2 j e).1 hb66
        | inr q => exact ⟨q.1, q.2, rfl⟩
      refine S_iconst (q := 70) (nI 0) dX9_probe_69 (by decide) rfl ?_
      refine S_goto (t := 74) dX9_probe_70 (by decide) ?_
      exact S_iret rfl dX9_probe_74 rfl rfl (RES.to hC3 hf3 (by unfold o_probe; rw [hq]; simp only; rw [hz]))
  · have hq := cn2_n hb11
    refine S_iload_4 (q := 16) dX9_probe_14 rfl ?_
    exact S_iret rfl dX9_probe_16 rfl rfl (RES.same hC (by unfold o_probe; rw [hq]; rfl))
