theorem RGr.at {M : Mem} {P : Pz} {f : Nat → Nat} {i j : Nat} (h : RGr M P f) (hi : i < P.r) (hj : j < P.c) : M 141 (8 * i + j) = nI (f (i * P.c + j)) ∧ 1 ≤ f (i * P.c + j) ∧ f (i * P.c + j) < 16 := by
  have := h.2.2.2.2.at hi hj
  rw [Nat.zero_add] at this
  exact this
theorem RHs.wc {M : Mem} {P P1 : Pz} {H : List HE} (h : RHs M P H) (hr : P1.r = P.r) (hc : P1.c = P.c) (hk : P1.k = P.k) : RHs M P1 H := ⟨h.1, fun s e he => by
  have e1 : hP P1 e = hP P e := by unfold hP Pz.wc; rw [hr, hc, hk]
  rw [e1]; exact h.2 s e he⟩
/-- what keep does -/
def KPT (M M1 : Mem) (A : Ab) : Prop := (∀ a, a ≠ 140 → (a < 145 ∨ 148 < a) → M1 a = M a) ∧ (∀ k, k ≠ 8 → M1 140 k = M 140 k) ∧ RHs M1 A.P A.ps
theorem RR.ed {M M1 M2 : Mem} {A : Ab} {P : Pz} {f : Nat → Nat} (h : RR M A) (hk : A.ok) (hv : KPT M M1 A) (hr : P.r = A.P.r) (hc : P.c = A.P.c) (hkk : P.k = A.P.k) (h0 : ∀ k, 3 ≤ k → M2 140 k = M1 140 k) (h1 : ∀ a, 145 ≤ a → M2 a = M1 a) (hg : RGr M2 P f) : RR M2 (A.sG P f A.ps) := by
  refine h.grid (fun k hk => by rw [h0 k (by omega), hv.2.1 k (by omega)]) (fun a ha => by rw [h1 a (by omega), hv.1 a (by omega) (by omega)]) hg ((RHs.fr hv.2.2 hk.ps.1 (h0 8 (by decide)) (fun a a1 a2 => h1 a a1)).wc hr hc hkk)
theorem RR.gb {M M1 : Mem} {A : Ab} {P : Pz} {f : Nat → Nat} {H : List HE} {b : Option (Nat × Nat)} (h : RR M A) (h0 : ∀ k, (k = 3 ∨ k = 20 ∨ k = 21 ∨ k = 35 ∨ k = 36 ∨ 40 ≤ k) → M1 140 k = M 140 k) (h1 : ∀ a, (a = 154 ∨ a = 155 ∨ 159 ≤ a) → M1 a = M a) (hg : RGr M1 P f) (hh : RHs M1 P H) (hb : Rbad M1 b) : RR M1 ((A.sG P f H).sB b) := by
  obtain ⟨a1, a2, a3, a4, a5, a6, a7, a8, a9⟩ := h
  exact ⟨hg, by rw [h0 3 (by omega)]; exact a2, hh, hb, a5.fr (h0 20 (by omega)) (h0 21 (by omega)), a6.fr (h0 35 (by omega)) (h1 154 (by omega)), a7.fr (h0 36 (by omega)) (h1 155 (by omega)), a8.fr (fun k a b => h0 k (by omega)) (fun a b c => h1 a (by omega)), a9.fr (fun a b c => h1 a (by omega))⟩
theorem RHs.nil {M : Mem} {P : Pz} (h : M 140 8 = nI 0) : RHs M P [] := ⟨h, fun s e he => by cases he⟩
/-- other clues -/
theorem RGr.clu {M M1 : Mem} {P : Pz} {f : Nat → Nat} {R : Nat → Nat} {len col : Nat → Nat → Nat} (h : RGr M P f) (h0 : ∀ k, k ≤ 2 → M1 140 k = M 140 k) (h5 : M1 141 = M 141) (hc : CLU M1 141 (P.wc R len col)) : RGr M1 (P.wc R len col) f := ⟨by rw [h0 0 (by decide)]; exact h.1, by rw [h0 1 (by decide)]; exact h.2.1, by rw [h0 2 (by decide)]; exact h.2.2.1, hc, fun x hx => by rw [h5]; exact h.2.2.2.2 x hx⟩
theorem RGr.ce {M M1 : Mem} {P : Pz} {f f1 : Nat → Nat} (h : RGr M P f) (h0 : ∀ k, k ≤ 2 → M1 140 k = M 140 k) (h1 : ∀ a, 142 ≤ a → a ≤ 144 → M1 a = M a) (hc : RCE M1 0 P f1) : RGr M1 P f1 := ⟨by rw [h0 0 (by decide)]; exact h.1, by rw [h0 1 (by decide)]; exact h.2.1, by rw [h0 2 (by decide)]; exact h.2.2.1, h.2.2.2.1.fr (h1 _ (by decide) (by decide)) (h1 _ (by decide) (by decide)) (h1 _ (by decide) (by decide)), hc⟩
theorem RGr.cell {M : Mem} {P : Pz} {f : Nat → Nat} {i j v : Nat} (h : RGr M P f) (hP : P.ok) (hi : i < P.r) (hj : j < P.c) (h1 : 1 ≤ v) (h2 : v < 16) : RGr (up M 141 (8 * i + j) (nI v)) P (upf f (i * P.c + j) v) := h.ce (fun k _ => by rw [up_n (by decide)]) (fun a a1 a2 => up_n (by omega)) (by
  have := RCE.up h.2.2.2.2 hP (cel_lt hi hj) h1 h2
  rw [gx_at hj, Nat.zero_add] at this
  exact this)
set_option maxHeartbeats 4000000 in
set_option maxRecDepth 100000 in
theorem k_X10_rowCount {l : Launch} {G : Gd} {b0 : Nat} {M : Mem} {A : Ab}  (hC : RR M A) (hk : A.ok)  : Ct l G b0 yX10_rowCount cX10_rowCount 1 (some .int) (rmZ 0 0) LAY LAY M [.ref (b0 + 140)] (fun v M' => RSR M (o_rows A) v M') := by
  obtain ⟨⟨g0, g1, g2, gcu, gce⟩, hru, hhi, hbad, hask, htx, hfo, hsn, htb⟩ := id hC
  have hP := hk.P
  have hr1 := hP.r1
  have hr8 := hP.r8
  have hc1 := hP.c1
  have hc8 := hP.c8
  have hk1 := hP.k1
  have hk3 := hP.k3
  have h64 := rc64 hr8 hc8
  have hH8 := hk.H8
  have hN : A.N = A.P.r + A.P.c := rfl
  refine Ct.of [some (.ref (b0 + 140))] (by decide) (Nat.le_of_ble_eq_true rfl) rfl rfl ?_
  refine S_aload_0 (q := 1) dX10_rowCount_0 rfl ?_
  refine S_getI (q := 4) dX10_rowCount_1 fl_X10_7 (by first | assumption | rfl) (by rfl) rfl ?_
  exact S_iret rfl dX10_rowCount_4 rfl rfl (RSR.same hC (by rw [g0]; rfl))
set_option maxHeartbeats 4000000 in
set_option maxRecDepth 100000 in
theorem k_X10_columnCount {l : Launch} {G : Gd} {b0 : Nat} {M : Mem} {A : Ab}  (hC : RR M A) (hk : A.ok)  : Ct l G b0 yX10_columnCount cX10_columnCount 1 (some .int) (rmZ 0 0) LAY LAY M [.ref (b0 + 140)] (fun v M' => RSR M (o_cols A) v M') := by
  obtain ⟨⟨g0, g1, g2, gcu, gce⟩, hru, hhi, hbad, hask, htx, hfo, hsn, htb⟩ := id hC
  have hP := hk.P
  have hr1 := hP.r1
  have hr8 := hP.r8
  have hc1 := hP.c1
  have hc8 := hP.c8
  have hk1 := hP.k1
  have hk3 := hP.k3
  have h64 := rc64 hr8 hc8
  have hH8 := hk.H8
  have hN : A.N = A.P.r + A.P.c := rfl
  refine Ct.of [some (.ref (b0 + 140))] (by decide) (Nat.le_of_ble_eq_true rfl) rfl rfl ?_
  refine S_aload_0 (q := 1) dX10_columnCount_0 rfl ?_
  refine S_getI (q := 4) dX10_columnCount_1 fl_X10_13 (by first | assumption | rfl) (by rfl) rfl ?_
  exact S_iret rfl dX10_columnCount_4 rfl rfl (RSR.same hC (by rw [g1]; rfl))
set_option maxHeartbeats 4000000 in
set_option maxRecDepth 100000 in
theorem k_X10_colorCount {l : Launch} {G : Gd} {b0 : Nat} {M : Mem} {A : Ab}  (hC : RR M A) (hk : A.ok)  : Ct l G b0 yX10_colorCount cX10_colorCount 1 (some .int) (rmZ 0 0) LAY LAY M [.ref (b0 + 140)] (fun v M' => RSR M (o_colors A) v M') := by
  obtain ⟨⟨g0, g1, g2, gcu, gce⟩, hru, hhi, hbad, hask, htx, hfo, hsn, htb⟩ := id hC
  have hP := hk.P
  have hr1 := hP.r1
  have hr8 := hP.r8
  have hc1 := hP.c1
  have hc8 := hP.c8
  have hk1 := hP.k1
  have hk3 := hP.k3
  have h64 := rc64 hr8 hc8
  have hH8 := hk.H8
  have hN : A.N = A.P.r + A.P.c := rfl
  refine Ct.of [some (.ref (b0 + 140))] (by decide) (Nat.le_of_ble_eq_true rfl) rfl rfl ?_
  refine S_aload_0 (q := 1) dX10_colorCount_0 rfl ?_
  refine S_getI (q := 4) dX10_colorCount_1 fl_X10_16 (by first | assumption | rfl) (by rfl) rfl ?_
  exact S_iret rfl dX10_colorCount_4 rfl rfl (RSR.same hC (by rw [g2]; rfl))
set_option maxHeartbeats 4000000 in
set_option maxRecDepth 100000 in
theorem k_X10_undoCount {l : Launch} {G : Gd} {b0 : Nat} {M : Mem} {A : Ab}  (hC : RR M A) (hk : A.ok)  : Ct l G b0 yX10_undoCount cX10_undoCount 1 (some .int) (rmZ 0 0) LAY LAY M [.ref (b0 + 140)] (fun v M' => RSR M (o_uc A) v M') := by
  obtain ⟨⟨g0, g1, g2, gcu, gce⟩, hru, hhi, hbad, hask, htx, hfo, hsn, htb⟩ := id hC
  have hP := hk.P
  have hr1 := hP.r1
  have hr8 := hP.r8
  have hc1 := hP.c1
  have hc8 := hP.c8
  have hk1 := hP.k1
  have hk3 := hP.k3
  have h64 := rc64 hr8 hc8
  have hH8 := hk.H8
  have hN : A.N = A.P.r + A.P.c := rfl
  refine Ct.of [some (.ref (b0 + 140))] (by decide) (Nat.le_of_ble_eq_true rfl) rfl rfl ?_
  refine S_aload_0 (q := 1) dX10_undoCount_0 rfl ?_
  refine S_getI (q := 4) dX10_undoCount_1 fl_X10_35 (by first | assumption | rfl) (by rfl) rfl ?_
  exact S_iret rfl dX10_undoCount_4 rfl rfl (RSR.same hC (by rw [hhi.1]; rfl))
set_option maxHeartbeats 4000000 in
set_option maxRecDepth 100000 in
theorem k_X10_contradictionLine {l : Launch} {G : Gd} {b0 : Nat} {M : Mem} {A : Ab}  (hC : RR M A) (hk : A.ok)  : Ct l G b0 yX10_contradictionLine cX10_contradictionLine 1 (some .int) (rmZ 0 0) LAY LAY M [.ref (b0 + 140)] (fun v M' => RSR M (o_bl A) v M') := by
  obtain ⟨⟨g0, g1, g2, gcu, gce⟩, hru, hhi, hbad, hask, htx, hfo, hsn, htb⟩ := id hC
  have hP := hk.P
  have hr1 := hP.r1
  have hr8 := hP.r8
  have hc1 := hP.c1
  have hc8 := hP.c8
  have hk1 := hP.k1
  have hk3 := hP.k3
  have h64 := rc64 hr8 hc8
  have hH8 := hk.H8
  have hN : A.N = A.P.r + A.P.c := rfl
  refine Ct.of [some (.ref (b0 + 140))] (by decide) (Nat.le_of_ble_eq_true rfl) rfl rfl ?_
  refine S_aload_0 (q := 1) dX10_contradictionLine_0 rfl ?_
  refine S_getI (q := 4) dX10_contradictionLine_1 fl_X10_50 (by first | assumption | rfl) (by rfl) rfl ?_
  refine S_if_ge (t := 12) (q := 7) dX10_contradictionLine_4 (by decide) rfl (fun hb4 => ?_) (fun hb4 => ?_)
  · obtain ⟨l, d, hb⟩ : ∃ l d, A.bad = some (l, d) := by
      cases e : A.bad with
      | none => rw [e] at hbad; rw [show M 140 13 = -1 from hbad] at hb4; exact absurd hb4 (by decide)
      | some q => exact ⟨q.1, q.2, rfl⟩
    rw [hb] at hbad
    refine S_aload_0 (q := 13) dX10_contradictionLine_12 rfl ?_
    refine S_getI (q := 16) dX10_contradictionLine_13 fl_X10_50 (by first | assumption | rfl) (by rfl) rfl ?_
    exact S_iret rfl dX10_contradictionLine_16 rfl rfl (RSR.same hC (by unfold o_bl; rw [hb, show M 140 13 = _ from hbad.1]; rfl))
  · have hb : A.bad = none := by
      cases e : A.bad with
      | none => rfl
      | some q =>
        rw [e] at hbad
        have h31 := (hk.bad q.1 q.2 e).1
        rw [show M 140 13 = nI q.1 from hbad.1] at hb4
        exact absurd (nI_pos' h31) hb4
    refine S_bipush (q := 9) (-8) dX10_contradictionLine_7 (by decide) rfl ?_
    refine S_goto (t := 16) dX10_contradictionLine_9 (by decide) ?_
    exact S_iret rfl dX10_contradictionLine_16 rfl rfl (RSR.same hC (by unfold o_bl; rw [hb]; rfl))
set_option maxHeartbeats 4000000 in
set_option maxRecDepth 100000 in
theorem k_X10_contradictionDepth {l : Launch} {G : Gd} {b0 : Nat} {M : Mem} {A : Ab}  (hC : RR M A) (hk : A.ok)  : Ct l G b0 yX10_contradictionDepth cX10_contradictionDepth 1 (some .int) (rmZ 0 0) LAY LAY M [.ref (b0 + 140)] (fun v M' => RSR M (o_bd A) v M') := by
  obtain ⟨⟨g0, g1, g2, gcu, gce⟩, hru, hhi, hbad, hask, htx, hfo, hsn, htb⟩ := id hC
  have hP := hk.P
  have hr1 := hP.r1
  have hr8 := hP.r8
  have hc1 := hP.c1
  have hc8 := hP.c8
  have hk1 := hP.k1
  have hk3 := hP.k3
  have h64 := rc64 hr8 hc8
  have hH8 := hk.H8
  have hN : A.N = A.P.r + A.P.c := rfl
  refine Ct.of [some (.ref (b0 + 140))] (by decide) (Nat.le_of_ble_eq_true rfl) rfl rfl ?_
  refine S_aload_0 (q := 1) dX10_contradictionDepth_0 rfl ?_
  refine S_getI (q := 4) dX10_contradictionDepth_1 fl_X10_50 (by first | assumption | rfl) (by rfl) rfl ?_
  refine S_if_ge (t := 12) (q := 7) dX10_contradictionDepth_4 (by decide) rfl (fun hb4 => ?_) (fun hb4 => ?_)
  · obtain ⟨l, d, hb⟩ : ∃ l d, A.bad = some (l, d) := by
      cases e : A.bad with
      | none => rw [e] at hbad; rw [show M 140 13 = -1 from hbad] at hb4; exact absurd hb4 (by decide)
      | some q => exact ⟨q.1, q.2, rfl⟩
    rw [hb] at hbad
    refine S_aload_0 (q := 13) dX10_contradictionDepth_12 rfl ?_
    refine S_getI (q := 16) dX10_contradictionDepth_13 fl_X10_53 (by first | assumption | rfl) (by rfl) rfl ?_
    exact S_iret rfl dX10_contradictionDepth_16 rfl rfl (RSR.same hC (by unfold o_bd; rw [hb, show M 140 14 = _ from hbad.2]; rfl))
  · have hb : A.bad = none := by
      cases e : A.bad with
      | none => rfl
      | some q =>
        rw [e] at hbad
        have h31 := (hk.bad q.1 q.2 e).1
        rw [show M 140 13 = nI q.1 from hbad.1] at hb4
        exact absurd (nI_pos' h31) hb4
    refine S_bipush (q := 9) (-8) dX10_contradictionDepth_7 (by decide) rfl ?_
    refine S_goto (t := 16) dX10_contradictionDepth_9 (by decide) ?_
    exact S_iret rfl dX10_contradictionDepth_16 rfl rfl (RSR.same hC (by unfold o_bd; rw [hb]; rfl))
set_option maxHeartbeats 4000000 in
set_option maxRecDepth 100000 in
theorem k_X10_runCount {l : Launch} {G : Gd} {b0 : Nat} {M : Mem} {A : Ab} {x : Int32}  (hC : RR M A) (hk : A.ok)  : Ct l G b0 yX10_runCount cX10_runCount 2 (some .int) (rmZ 2 44) LAY LAY M [.ref (b0 + 140), .int x] (fun v M' => RSR M (o_rc A x) v M') := by
  obtain ⟨⟨g0, g1, g2, gcu, gce⟩, hru, hhi, hbad, hask, htx, hfo, hsn, htb⟩ := id hC
  have hP := hk.P
  have hr1 := hP.r1
  have hr8 := hP.r8
  have hc1 := hP.c1
  have hc8 := hP.c8
  have hk1 := hP.k1
  have hk3 := hP.k3
  have h64 := rc64 hr8 hc8
  have hH8 := hk.H8
  have hN : A.N = A.P.r + A.P.c := rfl
  refine Ct.of [some (.ref (b0 + 140)), some (.int x)] (by decide) (Nat.le_of_ble_eq_true rfl) rfl rfl ?_
  refine S_aload_0 (q := 1) dX10_runCount_0 rfl ?_
  refine S_iload_1 (q := 2) dX10_runCount_1 rfl ?_
  refine S_callV1i (q := 5) dX10_runCount_2 lk_X10_180 (by first | assumption | rfl) rfl rfl (k_X10_isLine g0 g1 hr8 hc8 hr1 hc1) rfl rfl (Nat.le_of_ble_eq_true rfl) ⟨Nat.le_of_ble_eq_true rfl, Nat.le_of_ble_eq_true rfl⟩ ⟨Nat.le_of_ble_eq_true rfl, Nat.le_of_ble_eq_true rfl⟩ rfl (fun v2 M2 hv2 => ?_)
  obtain ⟨e2, rfl⟩ := hv2
  rw [e2]
  refine S_if_eq (t := 17) (q := 8) dX10_runCount_5 (by decide) rfl (fun hb5 => ?_) (fun hb5 => ?_)
  · have hl := ln_no (A := A) (bI_0.mp hb5)
    refine S_iconst (q := 18) (-1) dX10_runCount_17 (by decide) rfl ?_
    exact S_iret rfl dX10_runCount_18 rfl rfl (RSR.same hC (by unfold o_rc; rw [hl]))
  · obtain ⟨i, hi, rfl, hl⟩ := ln_ok (A := A) hP (bI_n.mp hb5)
    have hi16 : i < 16 := by omega
    refine S_aload_0 (q := 9) dX10_runCount_8 rfl ?_
    refine S_getR (q := 12) dX10_runCount_9 fl_X10_26 (by first | assumption | rfl) (by rfl) rfl ?_
    refine S_iload_1 (q := 13) dX10_runCount_12 rfl ?_
    refine S_ialdV (i := i) (val := nI (A.P.R i)) (q := 14) dX10_runCount_13 (by first | assumption | rfl) (by first | (simp only [nI_add, pk_mul, nI_1]; done) | rfl) (by omega) (by decide) (gcu i hi16).1 rfl ?_
    refine S_goto (t := 18) dX10_runCount_14 (by decide) ?_
    exact S_iret rfl dX10_runCount_18 rfl rfl (RSR.same hC (by unfold o_rc; rw [hl]))
set_option maxHeartbeats 4000000 in
set_option maxRecDepth 100000 in
theorem k_X10_isRun {l : Launch} {G : Gd} {b0 : Nat} {M : Mem} {A : Ab} {x z : Int32}  (hC : RR M A) (hk : A.ok)  : Ct l G b0 yX10_isRun cX10_isRun 3 (some .boolean) (rmZ 2 44) LAY LAY M [.ref (b0 + 140), .int x, .int z] (fun v M' => M' = M ∧ ((v = nI 0 ∧ (A.ln x = none ∨ ∃ i, A.ln x = some i ∧ ix z (A.P.R i) = none)) ∨ (v = nI 1 ∧ ∃ i j, i < 16 ∧ j < A.P.R i ∧ x = nI i ∧ z = nI j ∧ A.ln x = some i ∧ ix z (A.P.R i) = some j))) := by
  obtain ⟨⟨g0, g1, g2, gcu, gce⟩, hru, hhi, hbad, hask, htx, hfo, hsn, htb⟩ := id hC
  have hP := hk.P
  have hr1 := hP.r1
  have hr8 := hP.r8
  have hc1 := hP.c1
  have hc8 := hP.c8
  have hk1 := hP.k1
  have hk3 := hP.k3
  have h64 := rc64 hr8 hc8
  have hH8 := hk.H8
  have hN : A.N = A.P.r + A.P.c := rfl
  refine Ct.of [some (.ref (b0 + 140)), some (.int x), some (.int z)] (by decide) (Nat.le_of_ble_eq_true rfl) rfl rfl ?_
  refine S_aload_0 (q := 1) dX10_isRun_0 rfl ?_
  refine S_iload_1 (q := 2) dX10_isRun_1 rfl ?_
  refine S_callV1i (q := 5) dX10_isRun_2 lk_X10_180 (by first | assumption | rfl) rfl rfl (k_X10_isLine g0 g1 hr8 hc8 hr1 hc1) rfl rfl (Nat.le_of_ble_eq_true rfl) ⟨Nat.le_of_ble_eq_true rfl, Nat.le_of_ble_eq_true rfl⟩ ⟨Nat.le_of_ble_eq_true rfl, Nat.le_of_ble_eq_true rfl⟩ rfl (fun v2 M2 hv2 => ?_)
  obtain ⟨e2, rfl⟩ := hv2
  rw [e2]
  refine S_if_eq (t := 29) (q := 8) dX10_isRun_5 (by decide) rfl (fun hb5 => ?_) (fun hb5 => ?_)
  · have hl := ln_no (A := A) (bI_0.mp hb5)
    refine S_iconst (q := 30) (nI 0) dX10_isRun_29 (by decide) rfl ?_
    exact S_iret rfl dX10_isRun_30 (by rfl) rfl (⟨rfl, .inl ⟨rfl, .inl hl⟩⟩)
  · obtain ⟨i, hi, rfl, hl⟩ := ln_ok (A := A) hP (bI_n.mp hb5)
    have hi16 : i < 16 := by omega
    refine S_aload_0 (q := 9) dX10_isRun_8 rfl ?_
    refine S_iload_2 (q := 10) dX10_isRun_9 rfl ?_
    refine S_iconst (q := 11) (nI 0) dX10_isRun_10 (by decide) rfl ?_
    refine S_aload_0 (q := 12) dX10_isRun_11 rfl ?_
    refine S_getR (q := 15) dX10_isRun_12 fl_X10_26 (by first | assumption | rfl) (by rfl) rfl ?_
    refine S_iload_1 (q := 16) dX10_isRun_15 rfl ?_
    refine S_ialdV (i := i) (val := nI (A.P.R i)) (q := 17) dX10_isRun_16 (by first | assumption | rfl) (by first | (simp only [nI_add, pk_mul, nI_1]; done) | rfl) (by omega) (by decide) (gcu i hi16).1 rfl ?_
    refine S_iconst (q := 18) (nI 1) dX10_isRun_17 (by decide) rfl ?_
    refine S_isub (q := 19) dX10_isRun_18 rfl ?_
    refine S_callV3i (q := 22) dX10_isRun_19 lk_X10_172 (by first | assumption | rfl) rfl rfl (k_X10_within) rfl rfl (Nat.le_of_ble_eq_true rfl) ⟨Nat.le_of_ble_eq_true rfl, Nat.le_of_ble_eq_true rfl⟩ ⟨Nat.le_of_ble_eq_true rfl, Nat.le_of_ble_eq_true rfl⟩ rfl (fun v19 M19 hv19 => ?_)
    obtain ⟨e19, rfl⟩ := hv19
    rw [e19]
    refine S_if_eq (t := 29) (q := 25) dX10_isRun_22 (by decide) rfl (fun hb22 => ?_) (fun hb22 => ?_)
    · have hz := ix_no (fun y => bI_0.mp hb22 ((ix_iw (by have := (gcu i hi16).2.1; omega)).mpr y))
      refine S_iconst (q := 30) (nI 0) dX10_isRun_29 (by decide) rfl ?_
      exact S_iret rfl dX10_isRun_30 (by rfl) rfl (⟨rfl, .inl ⟨rfl, .inr ⟨i, hl, hz⟩⟩⟩)
    · obtain ⟨j, hj, rfl, hz⟩ := ix_ok (show A.P.R i < 2 ^ 31 by have := (gcu i hi16).2.1; omega) ((ix_iw (by have := (gcu i hi16).2.1; omega)).mp (bI_n.mp hb22))
      refine S_iconst (q := 26) (nI 1) dX10_isRun_25 (by decide) rfl ?_
      refine S_goto (t := 30) dX10_isRun_26 (by decide) ?_
      exact S_iret rfl dX10_isRun_30 (by rfl) rfl (⟨rfl, .inr ⟨rfl, i, j, hi16, hj, rfl, rfl, hl, hz⟩⟩)
set_option maxHeartbeats 4000000 in
set_option maxRecDepth 100000 in
theorem k_X10_runLength {l : Launch} {G : Gd} {b0 : Nat} {M : Mem} {A : Ab} {x z : Int32}  (hC : RR M A) (hk : A.ok)  : Ct l G b0 yX10_runLength cX10_runLength 3 (some .int) (rmZ 3 66) LAY LAY M [.ref (b0 + 140), .int x, .int z] (fun v M' => RSR M (o_rl A x z) v M') := by
  obtain ⟨⟨g0, g1, g2, gcu, gce⟩, hru, hhi, hbad, hask, htx, hfo, hsn, htb⟩ := id hC
  have hP := hk.P
  have hr1 := hP.r1
  have hr8 := hP.r8
  have hc1 := hP.c1
  have hc8 := hP.c8
  have hk1 := hP.k1
  have hk3 := hP.k3
  have h64 := rc64 hr8 hc8
  have hH8 := hk.H8
  have hN : A.N = A.P.r + A.P.c := rfl
  refine Ct.of [some (.ref (b0 + 140)), some (.int x), some (.int z)] (by decide) (Nat.le_of_ble_eq_true rfl) rfl rfl ?_
  refine S_aload_0 (q := 1) dX10_runLength_0 rfl ?_
  refine S_iload_1 (q := 2) dX10_runLength_1 rfl ?_
  refine S_iload_2 (q := 3) dX10_runLength_2 rfl ?_
  refine S_callV2i (q := 6) dX10_runLength_3 lk_X10_191 (by first | assumption | rfl) rfl rfl (k_X10_isRun hC hk) rfl rfl (Nat.le_of_ble_eq_true rfl) ⟨Nat.le_of_ble_eq_true rfl, Nat.le_of_ble_eq_true rfl⟩ ⟨Nat.le_of_ble_eq_true rfl, Nat.le_of_ble_eq_true rfl⟩ rfl (fun v3 M3 hv3 => ?_)
  obtain ⟨e3, hv⟩ := hv3
  rw [e3]
  rcases hv with ⟨rfl, hv⟩ | ⟨rfl, i, j, hi16, hj, rfl, rfl, hl, hz⟩
  · refine S_if_eq (t := 23) (q := 9) dX10_runLength_6 (by decide) rfl (fun hb6 => ?_) (fun hb6 => absurd rfl hb6)
    refine S_iconst (q := 24) (-1) dX10_runLength_23 (by decide) rfl ?_
    refine S_iret rfl dX10_runLength_24 rfl rfl (RSR.same hC ?_)
    rcases hv with h1 | ⟨i, h1, h2⟩
    · unfold o_rl; rw [h1]
    · unfold o_rl; rw [h1]; simp only [h2]
  refine S_if_eq (t := 23) (q := 9) dX10_runLength_6 (by decide) rfl (fun hb6 => ?_) (fun hb6 => ?_)
  · exact absurd hb6 (by decide)
  · refine S_aload_0 (q := 10) dX10_runLength_9 rfl ?_
    refine S_getR (q := 13) dX10_runLength_10 fl_X10_29 (by first | assumption | rfl) (by rfl) rfl ?_
    refine S_bipush (q := 15) (nI 8) dX10_runLength_13 (by decide) rfl ?_
    refine S_iload_1 (q := 16) dX10_runLength_15 rfl ?_
    refine S_imul (q := 17) dX10_runLength_16 rfl ?_
    refine S_iload_2 (q := 18) dX10_runLength_17 rfl ?_
    refine S_iadd (q := 19) dX10_runLength_18 rfl ?_
    refine S_ialdV (i := i * 8 + j) (val := nI (A.P.len i j)) (q := 20) dX10_runLength_19 (by first | assumption | rfl) (by rw [pk_mul, nI_add]; exact congrArg nI (by omega)) (by have := (gcu i hi16).2.1; omega) (by decide) ((gcu i hi16).2.2 j hj).1 rfl ?_
    refine S_goto (t := 24) dX10_runLength_20 (by decide) ?_
    exact S_iret rfl dX10_runLength_24 rfl rfl (RSR.same hC (by unfold o_rl; rw [hl]; simp only [hz]))
set_option maxHeartbeats 4000000 in
set_option maxRecDepth 100000 in
theorem k_X10_runColor {l : Launch} {G : Gd} {b0 : Nat} {M : Mem} {A : Ab} {x z : Int32}  (hC : RR M A) (hk : A.ok)  : Ct l G b0 yX10_runColor cX10_runColor 3 (some .int) (rmZ 3 66) LAY LAY M [.ref (b0 + 140), .int x, .int z] (fun v M' => RSR M (o_rk A x z) v M') := by
  obtain ⟨⟨g0, g1, g2, gcu, gce⟩, hru, hhi, hbad, hask, htx, hfo, hsn, htb⟩ := id hC
  have hP := hk.P
  have hr1 := hP.r1
  have hr8 := hP.r8
  have hc1 := hP.c1
  have hc8 := hP.c8
  have hk1 := hP.k1
  have hk3 := hP.k3
  have h64 := rc64 hr8 hc8
  have hH8 := hk.H8
  have hN : A.N = A.P.r + A.P.c := rfl
  refine Ct.of [some (.ref (b0 + 140)), some (.int x), some (.int z)] (by decide) (Nat.le_of_ble_eq_true rfl) rfl rfl ?_
  refine S_aload_0 (q := 1) dX10_runColor_0 rfl ?_
  refine S_iload_1 (q := 2) dX10_runColor_1 rfl ?_
  refine S_iload_2 (q := 3) dX10_runColor_2 rfl ?_
  refine S_callV2i (q := 6) dX10_runColor_3 lk_X10_191 (by first | assumption | rfl) rfl rfl (k_X10_isRun hC hk) rfl rfl (Nat.le_of_ble_eq_true rfl) ⟨Nat.le_of_ble_eq_true rfl, Nat.le_of_ble_eq_true rfl⟩ ⟨Nat.le_of_ble_eq_true rfl, Nat.le_of_ble_eq_true rfl⟩ rfl (fun v3 M3 hv3 => ?_)
  obtain ⟨e3, hv⟩ := hv3
  rw [e3]
  rcases hv with ⟨rfl, hv⟩ | ⟨rfl, i, j, hi16, hj, rfl, rfl, hl, hz⟩
  · refine S_if_eq (t := 23) (q := 9) dX10_runColor_6 (by decide) rfl (fun hb6 => ?_) (fun hb6 => absurd rfl hb6)
    refine S_iconst (q := 24) (-1) dX10_runColor_23 (by decide) rfl ?_
    refine S_iret rfl dX10_runColor_24 rfl rfl (RSR.same hC ?_)
    rcases hv with h1 | ⟨i, h1, h2⟩
    · unfold o_rk; rw [h1]
    · unfold o_rk; rw [h1]; simp only [h2]
  refine S_if_eq (t := 23) (q := 9) dX10_runColor_6 (by decide) rfl (fun hb6 => ?_) (fun hb6 => ?_)
  · exact absurd hb6 (by decide)
  · refine S_aload_0 (q := 10) dX10_runColor_9 rfl ?_
    refine S_getR (q := 13) dX10_runColor_10 fl_X10_32 (by first | assumption | rfl) (by rfl) rfl ?_
    refine S_bipush (q := 15) (nI 8) dX10_runColor_13 (by decide) rfl ?_
    refine S_iload_1 (q := 16) dX10_runColor_15 rfl ?_
    refine S_imul (q := 17) dX10_runColor_16 rfl ?_
    refine S_iload_2 (q := 18) dX10_runColor_17 rfl ?_
    refine S_iadd (q := 19) dX10_runColor_18 rfl ?_
    refine S_ialdV (i := i * 8 + j) (val := nI (A.P.col i j)) (q := 20) dX10_runColor_19 (by first | assumption | rfl) (by rw [pk_mul, nI_add]; exact congrArg nI (by omega)) (by have := (gcu i hi16).2.1; omega) (by decide) ((gcu i hi16).2.2 j hj).2.2.2.1 rfl ?_
    refine S_goto (t := 24) dX10_runColor_20 (by decide) ?_
    exact S_iret rfl dX10_runColor_24 rfl rfl (RSR.same hC (by unfold o_rk; rw [hl]; simp only [hz]))
set_option maxHeartbeats 4000000 in
set_option maxRecDepth 100000 in
theorem k_X10_candidates {l : Launch} {G : Gd} {b0 : Nat} {M : Mem} {A : Ab} {x z : Int32}  (hC : RR M A) (hk : A.ok)  : Ct l G b0 yX10_candidates cX10_candidates 3 (some .int) (rmZ 2 45) LAY LAY M [.ref (b0 + 140), .int x, .int z] (fun v M' => RSR M (o_cand A x z) v M') := by
  obtain ⟨⟨g0, g1, g2, gcu, gce⟩, hru, hhi, hbad, hask, htx, hfo, hsn, htb⟩ := id hC
  have hP := hk.P
  have hr1 := hP.r1
  have hr8 := hP.r8
  have hc1 := hP.c1
  have hc8 := hP.c8
  have hk1 := hP.k1
  have hk3 := hP.k3
  have h64 := rc64 hr8 hc8
  have hH8 := hk.H8
  have hN : A.N = A.P.r + A.P.c := rfl
  refine Ct.of [some (.ref (b0 + 140)), some (.int x), some (.int z)] (by decide) (Nat.le_of_ble_eq_true rfl) rfl rfl ?_
  refine S_aload_0 (q := 1) dX10_candidates_0 rfl ?_
  refine S_iload_1 (q := 2) dX10_candidates_1 rfl ?_
  refine S_iload_2 (q := 3) dX10_candidates_2 rfl ?_
  refine S_callV2i (q := 6) dX10_candidates_3 lk_X10_195 (by first | assumption | rfl) rfl rfl (k_X10_isCell g0 g1 hr8 hc8 hr1 hc1) rfl rfl (Nat.le_of_ble_eq_true rfl) ⟨Nat.le_of_ble_eq_true rfl, Nat.le_of_ble_eq_true rfl⟩ ⟨Nat.le_of_ble_eq_true rfl, Nat.le_of_ble_eq_true rfl⟩ rfl (fun v3 M3 hv3 => ?_)
  obtain ⟨e3, rfl⟩ := hv3
  rw [e3]
  refine S_if_eq (t := 23) (q := 9) dX10_candidates_6 (by decide) rfl (fun hb6 => ?_) (fun hb6 => ?_)
  · have hl := cl_no (A := A) (bI_0.mp hb6)
    refine S_iconst (q := 24) (-1) dX10_candidates_23 (by decide) rfl ?_
    exact S_iret rfl dX10_candidates_24 rfl rfl (RSR.same hC (by unfold o_cand; rw [hl]))
  · obtain ⟨i, j, hi, hj, rfl, rfl, hl⟩ := cl_ok (A := A) hP (bI_n.mp hb6)
    have hij := cel_lt hi hj
    have hg := RGr.at hC.1 hi hj
    have hij64 : 8 * i + j < 64 := by omega
    refine S_aload_0 (q := 10) dX10_candidates_9 rfl ?_
    refine S_getR (q := 13) dX10_candidates_10 fl_X10_22 (by first | assumption | rfl) (by rfl) rfl ?_
    refine S_bipush (q := 15) (nI 8) dX10_candidates_13 (by decide) rfl ?_
    refine S_iload_1 (q := 16) dX10_candidates_15 rfl ?_
    refine S_imul (q := 17) dX10_candidates_16 rfl ?_
    refine S_iload_2 (q := 18) dX10_candidates_17 rfl ?_
    refine S_iadd (q := 19) dX10_candidates_18 rfl ?_
    refine S_ialdV (i := 8 * i + j) (val := nI (A.f (i * A.P.c + j))) (q := 20) dX10_candidates_19 (by first | assumption | rfl) (by first | (simp only [nI_add, pk_mul, nI_1]; done) | rfl) (by omega) (by decide) hg.1 rfl ?_
    refine S_goto (t := 24) dX10_candidates_20 (by decide) ?_
    exact S_iret rfl dX10_candidates_24 rfl rfl (RSR.same hC (by unfold o_cand; rw [hl]))
set_option maxHeartbeats 4000000 in
set_option maxRecDepth 100000 in
theorem k_X10_color {l : Launch} {G : Gd} {b0 : Nat} {M : Mem} {A : Ab} {x z : Int32}  (hC : RR M A) (hk : A.ok)  : Ct l G b0 yX10_color cX10_color 3 (some .int) (rmZ 2 45) LAY LAY M [.ref (b0 + 140), .int x, .int z] (fun v M' => RSR M (o_color A x z) v M') := by
  obtain ⟨⟨g0, g1, g2, gcu, gce⟩, hru, hhi, hbad, hask, htx, hfo, hsn, htb⟩ := id hC
  have hP := hk.P
  have hr1 := hP.r1
  have hr8 := hP.r8
  have hc1 := hP.c1
  have hc8 := hP.c8
  have hk1 := hP.k1
  have hk3 := hP.k3
  have h64 := rc64 hr8 hc8
  have hH8 := hk.H8
  have hN : A.N = A.P.r + A.P.c := rfl
  refine Ct.of [some (.ref (b0 + 140)), some (.int x), some (.int z)] (by decide) (Nat.le_of_ble_eq_true rfl) rfl rfl ?_
  refine S_aload_0 (q := 1) dX10_color_0 rfl ?_
  refine S_iload_1 (q := 2) dX10_color_1 rfl ?_
  refine S_iload_2 (q := 3) dX10_color_2 rfl ?_
  refine S_callV2i (q := 6) dX10_color_3 lk_X10_195 (by first | assumption | rfl) rfl rfl (k_X10_isCell g0 g1 hr8 hc8 hr1 hc1) rfl rfl (Nat.le_of_ble_eq_true rfl) ⟨Nat.le_of_ble_eq_true rfl, Nat.le_of_ble_eq_true rfl⟩ ⟨Nat.le_of_ble_eq_true rfl, Nat.le_of_ble_eq_true rfl⟩ rfl (fun v3 M3 hv3 => ?_)
  obtain ⟨e3, rfl⟩ := hv3
  rw [e3]
  refine S_if_ne (t := 11) (q := 9) dX10_color_6 (by decide) rfl (fun hb6 => ?_) (fun hb6 => ?_)
  · obtain ⟨i, j, hi, hj, rfl, rfl, hl⟩ := cl_ok (A := A) hP (bI_n.mp hb6)
    have hij := cel_lt hi hj
    have hg := RGr.at hC.1 hi hj
    have hij64 : 8 * i + j < 64 := by omega
    refine S_aload_0 (q := 12) dX10_color_11 rfl ?_
    refine S_bipush (q := 14) (nI 8) dX10_color_12 (by decide) rfl ?_
    refine S_iload_1 (q := 15) dX10_color_14 rfl ?_
    refine S_imul (q := 16) dX10_color_15 rfl ?_
    refine S_iload_2 (q := 17) dX10_color_16 rfl ?_
    refine S_iadd (q := 18) dX10_color_17 rfl ?_
    rw [pk_mul, nI_add]
    refine S_callV1i (q := 21) dX10_color_18 lk_X10_198 (by first | assumption | rfl) rfl rfl (k_X10_isDecided (x := 8 * i + j) (by omega) hg.1 hg.2.1 hg.2.2) rfl rfl (Nat.le_of_ble_eq_true rfl) ⟨Nat.le_of_ble_eq_true rfl, Nat.le_of_ble_eq_true rfl⟩ ⟨Nat.le_of_ble_eq_true rfl, Nat.le_of_ble_eq_true rfl⟩ rfl (fun v18 M18 hv18 => ?_)
    obtain ⟨e18, rfl⟩ := hv18
    rw [e18]
    refine S_if_eq (t := 37) (q := 24) dX10_color_21 (by decide) rfl (fun hb21 => ?_) (fun hb21 => ?_)
    · have hd : ¬ pc4 (A.f (i * A.P.c + j)) = 1 := bI_0.mp hb21
      refine S_bipush (q := 39) (-6) dX10_color_37 (by decide) rfl ?_
      exact S_iret rfl dX10_color_39 rfl rfl (RSR.same hC (by unfold o_color; rw [hl]; simp only [if_neg hd]))
    · have hd : pc4 (A.f (i * A.P.c + j)) = 1 := bI_n.mp hb21
      refine S_aload_0 (q := 25) dX10_color_24 rfl ?_
      refine S_bipush (q := 27) (nI 8) dX10_color_25 (by decide) rfl ?_
      refine S_iload_1 (q := 28) dX10_color_27 rfl ?_
      refine S_imul (q := 29) dX10_color_28 rfl ?_
      refine S_iload_2 (q := 30) dX10_color_29 rfl ?_
      refine S_iadd (q := 31) dX10_color_30 rfl ?_
      rw [pk_mul, nI_add]
      refine S_callV1i (q := 34) dX10_color_31 lk_X10_201 (by first | assumption | rfl) rfl rfl (k_X10_colorAt (x := 8 * i + j) (by omega) hg.1 hd hg.2.2) rfl rfl (Nat.le_of_ble_eq_true rfl) ⟨Nat.le_of_ble_eq_true rfl, Nat.le_of_ble_eq_true rfl⟩ ⟨Nat.le_of_ble_eq_true rfl, Nat.le_of_ble_eq_true rfl⟩ rfl (fun v31 M31 hv31 => ?_)
      obtain ⟨e31, rfl⟩ := hv31
      rw [e31]
      refine S_goto (t := 39) dX10_color_34 (by decide) ?_
      exact S_iret rfl dX10_color_39 rfl rfl (RSR.same hC (by unfold o_color; rw [hl]; simp only [if_pos hd]))
  · have hl := cl_no (A := A) (bI_0.mp hb6)
    refine S_iconst (q := 10) (-1) dX10_color_9 (by decide) rfl ?_
    exact S_iret rfl dX10_color_10 rfl rfl (RSR.same hC (by unfold o_color; rw [hl]))
set_option maxHeartbeats 4000000 in
set_option maxRecDepth 100000 in
theorem k_X10_push {l : Launch} {G : Gd} {b0 : Nat} {M : Mem} {P : Pz} {i : Nat} {x z : Int32}  (gcu : CLU M 141 P) (hi : i < 16) (hn : P.R i < 8)  : Ct l G b0 yX10_push cX10_push 4 none (rmZ 0 0) LAY LAY M [.ref (b0 + 140), .int (nI i), .int x, .int z] (fun v M' => M' = up (up (up M 143 (i * 8 + P.R i) x) 144 (i * 8 + P.R i) z) 142 i (nI (P.R i + 1))) := by
  have hR := (gcu i hi).1
  refine Ct.of [some (.ref (b0 + 140)), some (.int (nI i)), some (.int x), some (.int z)] (by decide) (Nat.le_of_ble_eq_true rfl) rfl rfl ?_
  refine S_aload_0 (q := 1) dX10_push_0 rfl ?_
  refine S_getR (q := 4) dX10_push_1 fl_X10_29 (by first | assumption | rfl) (by rfl) rfl ?_
  refine S_bipush (q := 6) (nI 8) dX10_push_4 (by decide) rfl ?_
  refine S_iload_1 (q := 7) dX10_push_6 rfl ?_
  refine S_imul (q := 8) dX10_push_7 rfl ?_
  refine S_aload_0 (q := 9) dX10_push_8 rfl ?_
  refine S_getR (q := 12) dX10_push_9 fl_X10_26 (by first | assumption | rfl) (by rfl) rfl ?_
  refine S_iload_1 (q := 13) dX10_push_12 rfl ?_
  refine S_ialdV (i := i) (val := nI (P.R i)) (q := 14) dX10_push_13 (by first | assumption | rfl) (by first | (simp only [nI_add, pk_mul, nI_1]; done) | rfl) (by omega) (by decide) hR rfl ?_
  refine S_iadd (q := 15) dX10_push_14 rfl ?_
  refine S_iload_2 (q := 16) dX10_push_15 rfl ?_
  refine S_iastE (i := i * 8 + P.R i) (q := 17) dX10_push_16 (by first | assumption | rfl) (by rw [pk_mul, nI_add]; exact congrArg nI (by omega)) (by omega) (by decide) rfl ?_
  refine S_aload_0 (q := 18) dX10_push_17 rfl ?_
  refine S_getR (q := 21) dX10_push_18 fl_X10_32 (by first | assumption | rfl) (by rfl) rfl ?_
  refine S_bipush (q := 23) (nI 8) dX10_push_21 (by decide) rfl ?_
  refine S_iload_1 (q := 24) dX10_push_23 rfl ?_
  refine S_imul (q := 25) dX10_push_24 rfl ?_
  refine S_aload_0 (q := 26) dX10_push_25 rfl ?_
  refine S_getR (q := 29) dX10_push_26 fl_X10_26 (by first | assumption | rfl) (by rfl) rfl ?_
  refine S_iload_1 (q := 30) dX10_push_29 rfl ?_
  refine S_ialdV (i := i) (val := nI (P.R i)) (q := 31) dX10_push_30 (by first | assumption | rfl) (by first | (simp only [nI_add, pk_mul, nI_1]; done) | rfl) (by omega) (by decide) (by rw [up_n (by decide)]; exact hR) rfl ?_
  refine S_iadd (q := 32) dX10_push_31 rfl ?_
  refine S_iload_3 (q := 33) dX10_push_32 rfl ?_
  refine S_iastE (i := i * 8 + P.R i) (q := 34) dX10_push_33 (by first | assumption | rfl) (by rw [pk_mul, nI_add]; exact congrArg nI (by omega)) (by omega) (by decide) rfl ?_
  refine S_aload_0 (q := 35) dX10_push_34 rfl ?_
  refine S_getR (q := 38) dX10_push_35 fl_X10_26 (by first | assumption | rfl) (by rfl) rfl ?_
  refine S_iload_1 (q := 39) dX10_push_38 rfl ?_
  refine S_dup2 (q := 40) dX10_push_39 rfl rfl rfl ?_
  refine S_ialdV (i := i) (val := nI (P.R i)) (q := 41) dX10_push_40 (by first | assumption | rfl) (by first | (simp only [nI_add, pk_mul, nI_1]; done) | rfl) (by omega) (by decide) (by rw [up_n (by decide), up_n (by decide)]; exact hR) rfl ?_
  refine S_iconst (q := 42) (nI 1) dX10_push_41 (by decide) rfl ?_
  refine S_iadd (q := 43) dX10_push_42 rfl ?_
  rw [nI_add]
  refine S_iastE (i := i) (q := 44) dX10_push_43 (by first | assumption | rfl) (by first | (simp only [nI_add, pk_mul, nI_1]; done) | rfl) (by omega) (by decide) rfl ?_
  exact S_ret (v := 0) rfl dX10_push_44 rfl (rfl)
set_option maxHeartbeats 4000000 in
set_option maxRecDepth 100000 in
theorem k_X10_addRun {l : Launch} {G : Gd} {b0 : Nat} {M : Mem} {A : Ab} {x n k : Int32}  (hC : RR M A) (hk : A.ok)  : Ct l G b0 yX10_addRun cX10_addRun 4 (some .int) (rmZ 2 44) LAY LAY M [.ref (b0 + 140), .int x, .int n, .int k] (fun v M' => RSR M (o_add A x n k) v M') := by
  obtain ⟨⟨g0, g1, g2, gcu, gce⟩, hru, hhi, hbad, hask, htx, hfo, hsn, htb⟩ := id hC
  have hP := hk.P
  have hr1 := hP.r1
  have hr8 := hP.r8
  have hc1 := hP.c1
  have hc8 := hP.c8
  have hk1 := hP.k1
  have hk3 := hP.k3
  have h64 := rc64 hr8 hc8
  have hH8 := hk.H8
  have hN : A.N = A.P.r + A.P.c := rfl
  refine Ct.of [some (.ref (b0 + 140)), some (.int x), some (.int n), some (.int k)] (by decide) (Nat.le_of_ble_eq_true rfl) rfl rfl ?_
  refine S_aload_0 (q := 1) dX10_addRun_0 rfl ?_
  refine S_iload_1 (q := 2) dX10_addRun_1 rfl ?_
  refine S_callV1i (q := 5) dX10_addRun_2 lk_X10_180 (by first | assumption | rfl) rfl rfl (k_X10_isLine g0 g1 hr8 hc8 hr1 hc1) rfl rfl (Nat.le_of_ble_eq_true rfl) ⟨Nat.le_of_ble_eq_true rfl, Nat.le_of_ble_eq_true rfl⟩ ⟨Nat.le_of_ble_eq_true rfl, Nat.le_of_ble_eq_true rfl⟩ rfl (fun v2 M2 hv2 => ?_)
  obtain ⟨e2, rfl⟩ := hv2
  rw [e2]
  refine S_if_ne (t := 10) (q := 8) dX10_addRun_5 (by decide) rfl (fun hb5 => ?_) (fun hb5 => ?_)
  · obtain ⟨i, hi, rfl, hl⟩ := ln_ok (A := A) hP (bI_n.mp hb5)
    have hi16 : i < 16 := by omega
    refine S_aload_0 (q := 11) dX10_addRun_10 rfl ?_
    refine S_iload_2 (q := 12) dX10_addRun_11 rfl ?_
    refine S_iconst (q := 13) (nI 1) dX10_addRun_12 (by decide) rfl ?_
    refine S_bipush (q := 15) (nI 8) dX10_addRun_13 (by decide) rfl ?_
    refine S_callV3i (q := 18) dX10_addRun_15 lk_X10_172 (by first | assumption | rfl) rfl rfl (k_X10_within) rfl rfl (Nat.le_of_ble_eq_true rfl) ⟨Nat.le_of_ble_eq_true rfl, Nat.le_of_ble_eq_true rfl⟩ ⟨Nat.le_of_ble_eq_true rfl, Nat.le_of_ble_eq_true rfl⟩ rfl (fun v15 M15 hv15 => ?_)
    obtain ⟨e15, rfl⟩ := hv15
    rw [e15]
    refine S_if_eq (t := 34) (q := 21) dX10_addRun_18 (by decide) rfl (fun hb18 => ?_) (fun hb18 => ?_)
    · have hn := iw_no (bI_0.mp hb18)
      refine S_bipush (q := 36) (-2) dX10_addRun_34 (by decide) rfl ?_
      exact S_iret rfl dX10_addRun_36 rfl rfl (RSR.same hC (by unfold o_add; rw [hl]; simp only [hn]))
    · obtain ⟨n, hn1, hn8, rfl, hn⟩ := iw_ok (by decide) (by decide) (bI_n.mp hb18)
      refine S_aload_0 (q := 22) dX10_addRun_21 rfl ?_
      refine S_iload_3 (q := 23) dX10_addRun_22 rfl ?_
      refine S_iconst (q := 24) (nI 1) dX10_addRun_23 (by decide) rfl ?_
      refine S_aload_0 (q := 25) dX10_addRun_24 rfl ?_
      refine S_getI (q := 28) dX10_addRun_25 fl_X10_16 (by first | assumption | rfl) (by rfl) rfl ?_
      rw [g2]
      refine S_callV3i (q := 31) dX10_addRun_28 lk_X10_172 (by first | assumption | rfl) rfl rfl (k_X10_within) rfl rfl (Nat.le_of_ble_eq_true rfl) ⟨Nat.le_of_ble_eq_true rfl, Nat.le_of_ble_eq_true rfl⟩ ⟨Nat.le_of_ble_eq_true rfl, Nat.le_of_ble_eq_true rfl⟩ rfl (fun v28 M28 hv28 => ?_)
      obtain ⟨e28, rfl⟩ := hv28
      rw [e28]
      refine S_if_ne (t := 37) (q := 34) dX10_addRun_31 (by decide) rfl (fun hb31 => ?_) (fun hb31 => ?_)
      · obtain ⟨m, hm1, hm2, rfl, hm⟩ := iw_ok (by decide) (show A.P.k < 2 ^ 31 by omega) (bI_n.mp hb31)
        refine S_aload_0 (q := 38) dX10_addRun_37 rfl ?_
        refine S_getR (q := 41) dX10_addRun_38 fl_X10_26 (by first | assumption | rfl) (by rfl) rfl ?_
        refine S_iload_1 (q := 42) dX10_addRun_41 rfl ?_
        refine S_ialdV (i := i) (val := nI (A.P.R i)) (q := 43) dX10_addRun_42 (by first | assumption | rfl) (by first | (simp only [nI_add, pk_mul, nI_1]; done) | rfl) (by omega) (by decide) (gcu i hi16).1 rfl ?_
        refine S_bipush (q := 45) (nI 8) dX10_addRun_43 (by decide) rfl ?_
        refine S_icmp_ne (t := 51) (q := 48) dX10_addRun_45 (by decide) rfl (fun hb45 => ?_) (fun hb45 => ?_)
        · have hR8 : A.P.R i < 8 := by
            have h1 := (gcu i hi16).2.1
            have h2 : A.P.R i ≠ 8 := fun e => hb45 (by rw [e])
            omega
          refine S_aload_0 (q := 52) dX10_addRun_51 rfl ?_
          refine S_callV0v (q := 55) dX10_addRun_52 lk_X10_184 (by first | assumption | rfl) rfl rfl (k_X10_keep hC hk) rfl rfl (Nat.le_of_ble_eq_true rfl) ⟨Nat.le_of_ble_eq_true rfl, Nat.le_of_ble_eq_true rfl⟩ ⟨Nat.le_of_ble_eq_true rfl, Nat.le_of_ble_eq_true rfl⟩ rfl (fun v52 M52 hv52 => ?_)
          have hp : KPT M M52 A := hv52
          have hG : RGr M52 A.P A.f := hC.1.fr hP (fun k hk => hp.2.1 k (by omega)) (fun a a1 a2 => hp.1 a (by omega) (by omega)) (fun x _ => by rw [hp.1 141 (by decide) (by decide)])
          refine S_aload_0 (q := 56) dX10_addRun_55 rfl ?_
          refine S_iload_1 (q := 57) dX10_addRun_56 rfl ?_
          refine S_iload_2 (q := 58) dX10_addRun_57 rfl ?_
          refine S_iload_3 (q := 59) dX10_addRun_58 rfl ?_
          refine S_callV3v (q := 62) dX10_addRun_59 lk_X10_187 (by first | assumption | rfl) rfl rfl (k_X10_push hG.2.2.2.1 hi16 hR8) rfl rfl (Nat.le_of_ble_eq_true rfl) ⟨Nat.le_of_ble_eq_true rfl, Nat.le_of_ble_eq_true rfl⟩ ⟨Nat.le_of_ble_eq_true rfl, Nat.le_of_ble_eq_true rfl⟩ rfl (fun v59 M59 hv59 => ?_)
          subst hv59
          refine S_aload_0 (q := 63) dX10_addRun_62 rfl ?_
          refine S_getR (q := 66) dX10_addRun_63 fl_X10_26 (by first | assumption | rfl) (by rfl) rfl ?_
          refine S_iload_1 (q := 67) dX10_addRun_66 rfl ?_
          refine S_ialdV (i := i) (val := nI (A.P.R i + 1)) (q := 68) dX10_addRun_67 (by first | assumption | rfl) (by first | (simp only [nI_add, pk_mul, nI_1]; done) | rfl) (by omega) (by decide) up_s rfl ?_
          exact S_iret rfl dX10_addRun_68 rfl rfl (RSR.to (A := A.sG (A.P.wc (upf A.P.R i (A.P.R i + 1)) (fun a b => if a = i ∧ b = A.P.R i then n else A.P.len a b) (fun a b => if a = i ∧ b = A.P.R i then m else A.P.col a b)) A.f A.ps) (hC.ed hk hp rfl rfl rfl (fun k _ => by rw [up_n (by decide), up_n (by decide), up_n (by decide)]) (fun a ha => by rw [up_n (by omega), up_n (by omega), up_n (by omega)]) (hG.clu (fun k _ => by rw [up_n (by decide), up_n (by decide), up_n (by decide)]) (by rw [up_n (by decide), up_n (by decide), up_n (by decide)]) (CLU.app hG.2.2.2.1 hi16 hR8 hn1 hn8 hm1 (by omega)))) (fun a ha => by rw [up_n (by omega), up_n (by omega), up_n (by omega)]; exact hp.1 a (by omega) (by omega)) (by unfold o_add; rw [hl]; simp only [hn, hm, if_neg (show ¬ A.P.R i = 8 by omega)]))
        · have hR8 : A.P.R i = 8 := nI_inj (by have := (gcu i hi16).2.1; omega) (by decide) hb45
          refine S_bipush (q := 50) (-3) dX10_addRun_48 (by decide) rfl ?_
          exact S_iret rfl dX10_addRun_50 rfl rfl (RSR.same hC (by unfold o_add; rw [hl]; simp only [hn, hm, if_pos hR8]))
      · have hm := iw_no (bI_0.mp hb31)
        refine S_bipush (q := 36) (-2) dX10_addRun_34 (by decide) rfl ?_
        exact S_iret rfl dX10_addRun_36 rfl rfl (RSR.same hC (by unfold o_add; rw [hl]; simp only [hn, hm]))
  · have hl := ln_no (A := A) (bI_0.mp hb5)
    refine S_iconst (q := 9) (-1) dX10_addRun_8 (by decide) rfl ?_
    exact S_iret rfl dX10_addRun_9 rfl rfl (RSR.same hC (by unfold o_add; rw [hl]))
set_option maxHeartbeats 4000000 in
set_option maxRecDepth 100000 in
theorem k_X10_clearClue {l : Launch} {G : Gd} {b0 : Nat} {M : Mem} {A : Ab} {x : Int32}  (hC : RR M A) (hk : A.ok)  : Ct l G b0 yX10_clearClue cX10_clearClue 3 (some .int) (rmZ 2 44) LAY LAY M [.ref (b0 + 140), .int x] (fun v M' => RSR M (o_clr A x) v M') := by
  obtain ⟨⟨g0, g1, g2, gcu, gce⟩, hru, hhi, hbad, hask, htx, hfo, hsn, htb⟩ := id hC
  have hP := hk.P
  have hr1 := hP.r1
  have hr8 := hP.r8
  have hc1 := hP.c1
  have hc8 := hP.c8
  have hk1 := hP.k1
  have hk3 := hP.k3
  have h64 := rc64 hr8 hc8
  have hH8 := hk.H8
  have hN : A.N = A.P.r + A.P.c := rfl
  refine Ct.of [some (.ref (b0 + 140)), some (.int x), none] (by decide) (Nat.le_of_ble_eq_true rfl) rfl rfl ?_
  refine S_aload_0 (q := 1) dX10_clearClue_0 rfl ?_
  refine S_iload_1 (q := 2) dX10_clearClue_1 rfl ?_
  refine S_callV1i (q := 5) dX10_clearClue_2 lk_X10_180 (by first | assumption | rfl) rfl rfl (k_X10_isLine g0 g1 hr8 hc8 hr1 hc1) rfl rfl (Nat.le_of_ble_eq_true rfl) ⟨Nat.le_of_ble_eq_true rfl, Nat.le_of_ble_eq_true rfl⟩ ⟨Nat.le_of_ble_eq_true rfl, Nat.le_of_ble_eq_true rfl⟩ rfl (fun v2 M2 hv2 => ?_)
  obtain ⟨e2, rfl⟩ := hv2
  rw [e2]
  refine S_if_ne (t := 10) (q := 8) dX10_clearClue_5 (by decide) rfl (fun hb5 => ?_) (fun hb5 => ?_)
  · obtain ⟨i, hi, rfl, hl⟩ := ln_ok (A := A) hP (bI_n.mp hb5)
    have hi16 : i < 16 := by omega
    refine S_aload_0 (q := 11) dX10_clearClue_10 rfl ?_
    refine S_getR (q := 14) dX10_clearClue_11 fl_X10_26 (by first | assumption | rfl) (by rfl) rfl ?_
    refine S_iload_1 (q := 15) dX10_clearClue_14 rfl ?_
    refine S_ialdV (i := i) (val := nI (A.P.R i)) (q := 16) dX10_clearClue_15 (by first | assumption | rfl) (by first | (simp only [nI_add, pk_mul, nI_1]; done) | rfl) (by omega) (by decide) (gcu i hi16).1 rfl ?_
    refine S_istore_2 (q := 17) dX10_clearClue_16 rfl ?_
    refine S_aload_0 (q := 18) dX10_clearClue_17 rfl ?_
    refine S_callV0v (q := 21) dX10_clearClue_18 lk_X10_184 (by first | assumption | rfl) rfl rfl (k_X10_keep hC hk) rfl rfl (Nat.le_of_ble_eq_true rfl) ⟨Nat.le_of_ble_eq_true rfl, Nat.le_of_ble_eq_true rfl⟩ ⟨Nat.le_of_ble_eq_true rfl, Nat.le_of_ble_eq_true rfl⟩ rfl (fun v18 M18 hv18 => ?_)
    have hp : KPT M M18 A := hv18
    have hG : RGr M18 A.P A.f := hC.1.fr hP (fun k hk => hp.2.1 k (by omega)) (fun a a1 a2 => hp.1 a (by omega) (by omega)) (fun x _ => by rw [hp.1 141 (by decide) (by decide)])
    refine S_aload_0 (q := 22) dX10_clearClue_21 rfl ?_
    refine S_getR (q := 25) dX10_clearClue_22 fl_X10_26 (by first | assumption | rfl) (by rfl) rfl ?_
    refine S_iload_1 (q := 26) dX10_clearClue_25 rfl ?_
    refine S_iconst (q := 27) (nI 0) dX10_clearClue_26 (by decide) rfl ?_
    refine S_iastE (i := i) (q := 28) dX10_clearClue_27 (by first | assumption | rfl) (by first | (simp only [nI_add, pk_mul, nI_1]; done) | rfl) (by omega) (by decide) rfl ?_
    refine S_iload_2 (q := 29) dX10_clearClue_28 rfl ?_
    exact S_iret rfl dX10_clearClue_29 rfl rfl (RSR.to (A := A.sG (A.P.wc (upf A.P.R i 0) A.P.len A.P.col) A.f A.ps) (hC.ed hk hp rfl rfl rfl (fun k _ => by rw [up_n (by decide)]) (fun a ha => by rw [up_n (by omega)]) (hG.clu (fun k _ => by rw [up_n (by decide)]) (by rw [up_n (by decide)]) (CLU.emp hG.2.2.2.1))) (fun a ha => by rw [up_n (by omega)]; exact hp.1 a (by omega) (by omega)) (by unfold o_clr; rw [hl]))
  · have hl := ln_no (A := A) (bI_0.mp hb5)
    refine S_iconst (q := 9) (-1) dX10_clearClue_8 (by decide) rfl ?_
    exact S_iret rfl dX10_clearClue_9 rfl rfl (RSR.same hC (by unfold o_clr; rw [hl]))
set_option maxHeartbeats 4000000 in
set_option maxRecDepth 100000 in
theorem k_X10_keepOnly {l : Launch} {G : Gd} {b0 : Nat} {M : Mem} {A : Ab} {x z k : Int32}  (hC : RR M A) (hk : A.ok)  : Ct l G b0 yX10_keepOnly cX10_keepOnly 5 (some .int) (rmZ 2 45) LAY LAY M [.ref (b0 + 140), .int x, .int z, .int k] (fun v M' => RSR M (o_keep A x z k) v M') := by
  obtain ⟨⟨g0, g1, g2, gcu, gce⟩, hru, hhi, hbad, hask, htx, hfo, hsn, htb⟩ := id hC
  have hP := hk.P
  have hr1 := hP.r1
  have hr8 := hP.r8
  have hc1 := hP.c1
  have hc8 := hP.c8
  have hk1 := hP.k1
  have hk3 := hP.k3
  have h64 := rc64 hr8 hc8
  have hH8 := hk.H8
  have hN : A.N = A.P.r + A.P.c := rfl
  refine Ct.of [some (.ref (b0 + 140)), some (.int x), some (.int z), some (.int k), none] (by decide) (Nat.le_of_ble_eq_true rfl) rfl rfl ?_
  refine S_aload_0 (q := 1) dX10_keepOnly_0 rfl ?_
  refine S_iload_1 (q := 2) dX10_keepOnly_1 rfl ?_
  refine S_iload_2 (q := 3) dX10_keepOnly_2 rfl ?_
  refine S_callV2i (q := 6) dX10_keepOnly_3 lk_X10_195 (by first | assumption | rfl) rfl rfl (k_X10_isCell g0 g1 hr8 hc8 hr1 hc1) rfl rfl (Nat.le_of_ble_eq_true rfl) ⟨Nat.le_of_ble_eq_true rfl, Nat.le_of_ble_eq_true rfl⟩ ⟨Nat.le_of_ble_eq_true rfl, Nat.le_of_ble_eq_true rfl⟩ rfl (fun v3 M3 hv3 => ?_)
  obtain ⟨e3, rfl⟩ := hv3
  rw [e3]
  refine S_if_ne (t := 11) (q := 9) dX10_keepOnly_6 (by decide) rfl (fun hb6 => ?_) (fun hb6 => ?_)
  · obtain ⟨i, j, hi, hj, rfl, rfl, hl⟩ := cl_ok (A := A) hP (bI_n.mp hb6)
    have hij := cel_lt hi hj
    have hg := RGr.at hC.1 hi hj
    have hij64 : 8 * i + j < 64 := by omega
    refine S_aload_0 (q := 12) dX10_keepOnly_11 rfl ?_
    refine S_iload_3 (q := 13) dX10_keepOnly_12 rfl ?_
    refine S_callV1i (q := 16) dX10_keepOnly_13 lk_X10_205 (by first | assumption | rfl) rfl rfl (k_X10_isColor g2) rfl rfl (Nat.le_of_ble_eq_true rfl) ⟨Nat.le_of_ble_eq_true rfl, Nat.le_of_ble_eq_true rfl⟩ ⟨Nat.le_of_ble_eq_true rfl, Nat.le_of_ble_eq_true rfl⟩ rfl (fun v13 M13 hv13 => ?_)
    obtain ⟨e13, rfl⟩ := hv13
    rw [e13]
    refine S_if_ne (t := 22) (q := 19) dX10_keepOnly_16 (by decide) rfl (fun hb16 => ?_) (fun hb16 => ?_)
    · obtain ⟨m, hm, rfl, hw⟩ := iw0 (show A.P.k < 2 ^ 31 by omega) (bI_n.mp hb16)
      refine S_aload_0 (q := 23) dX10_keepOnly_22 rfl ?_
      refine S_getR (q := 26) dX10_keepOnly_23 fl_X10_22 (by first | assumption | rfl) (by rfl) rfl ?_
      refine S_bipush (q := 28) (nI 8) dX10_keepOnly_26 (by decide) rfl ?_
      refine S_iload_1 (q := 29) dX10_keepOnly_28 rfl ?_
      refine S_imul (q := 30) dX10_keepOnly_29 rfl ?_
      refine S_iload_2 (q := 31) dX10_keepOnly_30 rfl ?_
      refine S_iadd (q := 32) dX10_keepOnly_31 rfl ?_
      refine S_ialdV (i := 8 * i + j) (val := nI (A.f (i * A.P.c + j))) (q := 33) dX10_keepOnly_32 (by first | assumption | rfl) (by first | (simp only [nI_add, pk_mul, nI_1]; done) | rfl) (by omega) (by decide) hg.1 rfl ?_
      refine S_istore_4 (q := 35) dX10_keepOnly_33 rfl ?_
      refine S_iload_4 (q := 37) dX10_keepOnly_35 rfl ?_
      refine S_iload_3 (q := 38) dX10_keepOnly_37 rfl ?_
      refine S_ishr (q := 39) dX10_keepOnly_38 rfl ?_
      refine S_iconst (q := 40) (nI 1) dX10_keepOnly_39 (by decide) rfl ?_
      refine S_iand (q := 41) dX10_keepOnly_40 rfl ?_
      rw [tb_if (by omega) (show m < 32 by omega)]
      refine S_if_ne (t := 47) (q := 44) dX10_keepOnly_41 (by decide) rfl (fun hb41 => ?_) (fun hb41 => ?_)
      · have hd : (A.f (i * A.P.c + j)).testBit m = true := Decidable.byContradiction (fun y => hb41 (by rw [if_neg y]; rfl))
        refine S_aload_0 (q := 48) dX10_keepOnly_47 rfl ?_
        refine S_callV0v (q := 51) dX10_keepOnly_48 lk_X10_184 (by first | assumption | rfl) rfl rfl (k_X10_keep hC hk) rfl rfl (Nat.le_of_ble_eq_true rfl) ⟨Nat.le_of_ble_eq_true rfl, Nat.le_of_ble_eq_true rfl⟩ ⟨Nat.le_of_ble_eq_true rfl, Nat.le_of_ble_eq_true rfl⟩ rfl (fun v48 M48 hv48 => ?_)
        have hp : KPT M M48 A := hv48
        have hG : RGr M48 A.P A.f := hC.1.fr hP (fun k hk => hp.2.1 k (by omega)) (fun a a1 a2 => hp.1 a (by omega) (by omega)) (fun x _ => by rw [hp.1 141 (by decide) (by decide)])
        refine S_aload_0 (q := 52) dX10_keepOnly_51 rfl ?_
        refine S_getR (q := 55) dX10_keepOnly_52 fl_X10_22 (by first | assumption | rfl) (by rfl) rfl ?_
        refine S_bipush (q := 57) (nI 8) dX10_keepOnly_55 (by decide) rfl ?_
        refine S_iload_1 (q := 58) dX10_keepOnly_57 rfl ?_
        refine S_imul (q := 59) dX10_keepOnly_58 rfl ?_
        refine S_iload_2 (q := 60) dX10_keepOnly_59 rfl ?_
        refine S_iadd (q := 61) dX10_keepOnly_60 rfl ?_
        refine S_iconst (q := 62) (nI 1) dX10_keepOnly_61 (by decide) rfl ?_
        refine S_iload_3 (q := 63) dX10_keepOnly_62 rfl ?_
        refine S_ishl (q := 64) dX10_keepOnly_63 rfl ?_
        rw [nI_shl (show m < 32 by omega) (by rw [Nat.one_mul]; exact Nat.lt_trans (p2_16 (show m ≤ 3 by omega)).2 (by decide)), Nat.one_mul]
        refine S_iastE (i := 8 * i + j) (q := 65) dX10_keepOnly_64 (by first | assumption | rfl) (by first | (simp only [nI_add, pk_mul, nI_1]; done) | rfl) (by omega) (by decide) rfl ?_
        refine S_aload_0 (q := 66) dX10_keepOnly_65 rfl ?_
        refine S_iload_4 (q := 68) dX10_keepOnly_66 rfl ?_
        refine S_callV1i (q := 71) dX10_keepOnly_68 lk_X10_208 (by first | assumption | rfl) rfl rfl (k_X10_ones hg.2.2) rfl rfl (Nat.le_of_ble_eq_true rfl) ⟨Nat.le_of_ble_eq_true rfl, Nat.le_of_ble_eq_true rfl⟩ ⟨Nat.le_of_ble_eq_true rfl, Nat.le_of_ble_eq_true rfl⟩ rfl (fun v68 M68 hv68 => ?_)
        obtain ⟨e68, rfl⟩ := hv68
        rw [e68]
        refine S_iconst (q := 72) (nI 1) dX10_keepOnly_71 (by decide) rfl ?_
        refine S_isub (q := 73) dX10_keepOnly_72 rfl ?_
        have hpc := pc4_1 _ hg.2.2 hg.2.1
        rw [pk_sub hpc]
        exact S_iret rfl dX10_keepOnly_73 rfl rfl (RSR.to (A := A.sG A.P (upf A.f (i * A.P.c + j) (2 ^ m)) A.ps) (hC.ed hk hp rfl rfl rfl (fun k _ => by rw [up_n (by decide)]) (fun a ha => by rw [up_n (by omega)]) (hG.cell hP hi hj (p2_16 (by omega)).1 (p2_16 (by omega)).2)) (fun a ha => by rw [up_n (by omega)]; exact hp.1 a (by omega) (by omega)) (by unfold o_keep; rw [show A.cn (nI i) (nI j) (nI m) = .inr (i * A.P.c + j, m) by unfold Ab.cn; rw [hl]; simp only; rw [show iw (nI m) 0 A.P.k = some m from hw]; simp only [if_pos hd]]))
      · have hd : ¬ (A.f (i * A.P.c + j)).testBit m = true := fun y => by rw [if_pos y] at hb41; exact absurd hb41 (by decide)
        refine S_bipush (q := 46) (-5) dX10_keepOnly_44 (by decide) rfl ?_
        exact S_iret rfl dX10_keepOnly_46 rfl rfl (RSR.same hC (by unfold o_keep; rw [show A.cn (nI i) (nI j) (nI m) = .inl (-5) by unfold Ab.cn; rw [hl]; simp only; rw [show iw (nI m) 0 A.P.k = some m from hw]; simp only [if_neg hd]]))
    · have hw := iw_no (bI_0.mp hb16)
      refine S_bipush (q := 21) (-2) dX10_keepOnly_19 (by decide) rfl ?_
      exact S_iret rfl dX10_keepOnly_21 rfl rfl (RSR.same hC (by unfold o_keep; rw [show A.cn (nI i) (nI j) k = .inl (-2) by unfold Ab.cn; rw [hl]; simp only; rw [show iw k 0 A.P.k = none from hw]]))
  · have hl := cl_no (A := A) (bI_0.mp hb6)
    refine S_iconst (q := 10) (-1) dX10_keepOnly_9 (by decide) rfl ?_
    exact S_iret rfl dX10_keepOnly_10 rfl rfl (RSR.same hC (by unfold o_keep; rw [show A.cn x z k = .inl (-1) by unfold Ab.cn; rw [hl]]))
theorem only_c : ∀ m, m < 16 → ∀ k, k < 4 → m.testBit k = true → (nI m = nI (2 ^ k) ↔ pc4 m = 1) := by decide +kernel
set_option maxHeartbeats 4000000 in
set_option maxRecDepth 100000 in
theorem k_X10_eliminate {l : Launch} {G : Gd} {b0 : Nat} {M : Mem} {A : Ab} {x z k : Int32}  (hC : RR M A) (hk : A.ok)  : Ct l G b0 yX10_eliminate cX10_eliminate 5 (some .int) (rmZ 2 45) LAY LAY M [.ref (b0 + 140), .int x, .int z, .int k] (fun v M' => RSR M (o_elim A x z k) v M') := by
  obtain ⟨⟨g0, g1, g2, gcu, gce⟩, hru, hhi, hbad, hask, htx, hfo, hsn, htb⟩ := id hC
  have hP := hk.P
  have hr1 := hP.r1
  have hr8 := hP.r8
  have hc1 := hP.c1
  have hc8 := hP.c8
  have hk1 := hP.k1
  have hk3 := hP.k3
  have h64 := rc64 hr8 hc8
  have hH8 := hk.H8
  have hN : A.N = A.P.r + A.P.c := rfl
  refine Ct.of [some (.ref (b0 + 140)), some (.int x), some (.int z), some (.int k), none] (by decide) (Nat.le_of_ble_eq_true rfl) rfl rfl ?_
  refine S_aload_0 (q := 1) dX10_eliminate_0 rfl ?_
  refine S_iload_1 (q := 2) dX10_eliminate_1 rfl ?_
  refine S_iload_2 (q := 3) dX10_eliminate_2 rfl ?_
  refine S_callV2i (q := 6) dX10_eliminate_3 lk_X10_195 (by first | assumption | rfl) rfl rfl (k_X10_isCell g0 g1 hr8 hc8 hr1 hc1) rfl rfl (Nat.le_of_ble_eq_true rfl) ⟨Nat.le_of_ble_eq_true rfl, Nat.le_of_ble_eq_true rfl⟩ ⟨Nat.le_of_ble_eq_true rfl, Nat.le_of_ble_eq_true rfl⟩ rfl (fun v3 M3 hv3 => ?_)
  obtain ⟨e3, rfl⟩ := hv3
  rw [e3]
  refine S_if_ne (t := 11) (q := 9) dX10_eliminate_6 (by decide) rfl (fun hb6 => ?_) (fun hb6 => ?_)
  · obtain ⟨i, j, hi, hj, rfl, rfl, hl⟩ := cl_ok (A := A) hP (bI_n.mp hb6)
    have hij := cel_lt hi hj
    have hg := RGr.at hC.1 hi hj
    have hij64 : 8 * i + j < 64 := by omega
    refine S_aload_0 (q := 12) dX10_eliminate_11 rfl ?_
    refine S_iload_3 (q := 13) dX10_eliminate_12 rfl ?_
    refine S_callV1i (q := 16) dX10_eliminate_13 lk_X10_205 (by first | assumption | rfl) rfl rfl (k_X10_isColor g2) rfl rfl (Nat.le_of_ble_eq_true rfl) ⟨Nat.le_of_ble_eq_true rfl, Nat.le_of_ble_eq_true rfl⟩ ⟨Nat.le_of_ble_eq_true rfl, Nat.le_of_ble_eq_true rfl⟩ rfl (fun v13 M13 hv13 => ?_)
    obtain ⟨e13, rfl⟩ := hv13
    rw [e13]
    refine S_if_ne (t := 22) (q := 19) dX10_eliminate_16 (by decide) rfl (fun hb16 => ?_) (fun hb16 => ?_)
    · obtain ⟨m, hm, rfl, hw⟩ := iw0 (show A.P.k < 2 ^ 31 by omega) (bI_n.mp hb16)
      refine S_aload_0 (q := 23) dX10_eliminate_22 rfl ?_
      refine S_getR (q := 26) dX10_eliminate_23 fl_X10_22 (by first | assumption | rfl) (by rfl) rfl ?_
      refine S_bipush (q := 28) (nI 8) dX10_eliminate_26 (by decide) rfl ?_
      refine S_iload_1 (q := 29) dX10_eliminate_28 rfl ?_
      refine S_imul (q := 30) dX10_eliminate_29 rfl ?_
      refine S_iload_2 (q := 31) dX10_eliminate_30 rfl ?_
      refine S_iadd (q := 32) dX10_eliminate_31 rfl ?_
      refine S_ialdV (i := 8 * i + j) (val := nI (A.f (i * A.P.c + j))) (q := 33) dX10_eliminate_32 (by first | assumption | rfl) (by first | (simp only [nI_add, pk_mul, nI_1]; done) | rfl) (by omega) (by decide) hg.1 rfl ?_
      refine S_istore_4 (q := 35) dX10_eliminate_33 rfl ?_
      refine S_iload_4 (q := 37) dX10_eliminate_35 rfl ?_
      refine S_iload_3 (q := 38) dX10_eliminate_37 rfl ?_
      refine S_ishr (q := 39) dX10_eliminate_38 rfl ?_
      refine S_iconst (q := 40) (nI 1) dX10_eliminate_39 (by decide) rfl ?_
      refine S_iand (q := 41) dX10_eliminate_40 rfl ?_
      rw [tb_if (by omega) (show m < 32 by omega)]
      refine S_if_eq (t := 52) (q := 44) dX10_eliminate_41 (by decide) rfl (fun hb41 => ?_) (fun hb41 => ?_)
      · have hd : ¬ (A.f (i * A.P.c + j)).testBit m = true := fun y => by rw [if_pos y] at hb41; exact absurd hb41 (by decide)
        refine S_bipush (q := 54) (-5) dX10_eliminate_52 (by decide) rfl ?_
        exact S_iret rfl dX10_eliminate_54 rfl rfl (RSR.same hC (by unfold o_elim; rw [show A.cn2 (nI i) (nI j) (nI m) = .inl (-5) by unfold Ab.cn2 Ab.cn; rw [hl]; simp only; rw [show iw (nI m) 0 A.P.k = some m from hw]; simp only [if_neg hd]]))
      · have hd : (A.f (i * A.P.c + j)).testBit m = true := Decidable.byContradiction (fun y => hb41 (by rw [if_neg y]; rfl))
        refine S_iload_4 (q := 46) dX10_eliminate_44 rfl ?_
        refine S_iconst (q := 47) (nI 1) dX10_eliminate_46 (by decide) rfl ?_
        refine S_iload_3 (q := 48) dX10_eliminate_47 rfl ?_
        refine S_ishl (q := 49) dX10_eliminate_48 rfl ?_
        rw [nI_shl (show m < 32 by omega) (by rw [Nat.one_mul]; exact Nat.lt_trans (p2_16 (show m ≤ 3 by omega)).2 (by decide)), Nat.one_mul]
        refine S_icmp_ne (t := 55) (q := 52) dX10_eliminate_49 (by decide) rfl (fun hb49 => ?_) (fun hb49 => ?_)
        · have h1 : ¬ pc4 (A.f (i * A.P.c + j)) = 1 := fun y => hb49 ((only_c _ hg.2.2 m (by omega) hd).mpr y)
          refine S_aload_0 (q := 56) dX10_eliminate_55 rfl ?_
          refine S_callV0v (q := 59) dX10_eliminate_56 lk_X10_184 (by first | assumption | rfl) rfl rfl (k_X10_keep hC hk) rfl rfl (Nat.le_of_ble_eq_true rfl) ⟨Nat.le_of_ble_eq_true rfl, Nat.le_of_ble_eq_true rfl⟩ ⟨Nat.le_of_ble_eq_true rfl, Nat.le_of_ble_eq_true rfl⟩ rfl (fun v56 M56 hv56 => ?_)
          have hp : KPT M M56 A := hv56
          have hG : RGr M56 A.P A.f := hC.1.fr hP (fun k hk => hp.2.1 k (by omega)) (fun a a1 a2 => hp.1 a (by omega) (by omega)) (fun x _ => by rw [hp.1 141 (by decide) (by decide)])
          refine S_aload_0 (q := 60) dX10_eliminate_59 rfl ?_
          refine S_getR (q := 63) dX10_eliminate_60 fl_X10_22 (by first | assumption | rfl) (by rfl) rfl ?_
          refine S_bipush (q := 65) (nI 8) dX10_eliminate_63 (by decide) rfl ?_
          refine S_iload_1 (q := 66) dX10_eliminate_65 rfl ?_
          refine S_imul (q := 67) dX10_eliminate_66 rfl ?_
          refine S_iload_2 (q := 68) dX10_eliminate_67 rfl ?_
          refine S_iadd (q := 69) dX10_eliminate_68 rfl ?_
          refine S_iload_4 (q := 71) dX10_eliminate_69 rfl ?_
          refine S_iconst (q := 72) (nI 1) dX10_eliminate_71 (by decide) rfl ?_
          refine S_iload_3 (q := 73) dX10_eliminate_72 rfl ?_
          refine S_ishl (q := 74) dX10_eliminate_73 rfl ?_
          rw [nI_shl (show m < 32 by omega) (by rw [Nat.one_mul]; exact Nat.lt_trans (p2_16 (show m ≤ 3 by omega)).2 (by decide)), Nat.one_mul]
          refine S_iconst (q := 75) (-1) dX10_eliminate_74 (by decide) rfl ?_
          refine S_ixor (q := 76) dX10_eliminate_75 rfl ?_
          refine S_iand (q := 77) dX10_eliminate_76 rfl ?_
          rw [nI_clr (by omega) (show m < 32 by omega)]
          refine S_iastE (i := 8 * i + j) (q := 78) dX10_eliminate_77 (by first | assumption | rfl) (by first | (simp only [nI_add, pk_mul, nI_1]; done) | rfl) (by omega) (by decide) rfl ?_
          refine S_aload_0 (q := 79) dX10_eliminate_78 rfl ?_
          refine S_iload_4 (q := 81) dX10_eliminate_79 rfl ?_
          refine S_callV1i (q := 84) dX10_eliminate_81 lk_X10_208 (by first | assumption | rfl) rfl rfl (k_X10_ones hg.2.2) rfl rfl (Nat.le_of_ble_eq_true rfl) ⟨Nat.le_of_ble_eq_true rfl, Nat.le_of_ble_eq_true rfl⟩ ⟨Nat.le_of_ble_eq_true rfl, Nat.le_of_ble_eq_true rfl⟩ rfl (fun v81 M81 hv81 => ?_)
          obtain ⟨e81, rfl⟩ := hv81
          rw [e81]
          refine S_iconst (q := 85) (nI 1) dX10_eliminate_84 (by decide) rfl ?_
          refine S_isub (q := 86) dX10_eliminate_85 rfl ?_
          have hpc := pc4_1 _ hg.2.2 hg.2.1
          rw [pk_sub hpc]
          exact S_iret rfl dX10_eliminate_86 rfl rfl (RSR.to (A := A.sG A.P (upf A.f (i * A.P.c + j) (clr (A.f (i * A.P.c + j)) m)) A.ps) (hC.ed hk hp rfl rfl rfl (fun k _ => by rw [up_n (by decide)]) (fun a ha => by rw [up_n (by omega)]) (hG.cell hP hi hj (clr_1 hg.2.2 hd h1) (clr_ok _ hg.2.2 m (by omega) hd).1)) (fun a ha => by rw [up_n (by omega)]; exact hp.1 a (by omega) (by omega)) (by unfold o_elim; rw [show A.cn2 (nI i) (nI j) (nI m) = .inr (i * A.P.c + j, m) by unfold Ab.cn2 Ab.cn; rw [hl]; simp only; rw [show iw (nI m) 0 A.P.k = some m from hw]; simp only [if_pos hd, if_neg h1]]))
        · have h1 : pc4 (A.f (i * A.P.c + j)) = 1 := (only_c _ hg.2.2 m (by omega) hd).mp hb49
          refine S_bipush (q := 54) (-5) dX10_eliminate_52 (by decide) rfl ?_
          exact S_iret rfl dX10_eliminate_54 rfl rfl (RSR.same hC (by unfold o_elim; rw [show A.cn2 (nI i) (nI j) (nI m) = .inl (-5) by unfold Ab.cn2 Ab.cn; rw [hl]; simp only; rw [show iw (nI m) 0 A.P.k = some m from hw]; simp only [if_pos hd, if_pos h1]]))
    · have hw := iw_no (bI_0.mp hb16)
      refine S_bipush (q := 21) (-2) dX10_eliminate_19 (by decide) rfl ?_
      exact S_iret rfl dX10_eliminate_21 rfl rfl (RSR.same hC (by unfold o_elim; rw [show A.cn2 (nI i) (nI j) k = .inl (-2) by unfold Ab.cn2 Ab.cn; rw [hl]; simp only; rw [show iw k 0 A.P.k = none from hw]]))
  · have hl := cl_no (A := A) (bI_0.mp hb6)
    refine S_iconst (q := 10) (-1) dX10_eliminate_9 (by decide) rfl ?_
    exact S_iret rfl dX10_eliminate_10 rfl rfl (RSR.same hC (by unfold o_elim; rw [show A.cn2 x z k = .inl (-1) by unfold Ab.cn2 Ab.cn; rw [hl]]))
set_option maxHeartbeats 4000000 in
set_option maxRecDepth 100000 in
theorem k_X10_setRule {l : Launch} {G : Gd} {b0 : Nat} {M : Mem} {A : Ab} {x : Int32}  (hC : RR M A) (hk : A.ok)  : Ct l G b0 yX10_setRule cX10_setRule 3 (some .int) (rmZ 1 23) LAY LAY M [.ref (b0 + 140), .int x] (fun v M' => RSR M (o_rule A x) v M') := by
  obtain ⟨⟨g0, g1, g2, gcu, gce⟩, hru, hhi, hbad, hask, htx, hfo, hsn, htb⟩ := id hC
  have hP := hk.P
  have hr1 := hP.r1
  have hr8 := hP.r8
  have hc1 := hP.c1
  have hc8 := hP.c8
  have hk1 := hP.k1
  have hk3 := hP.k3
  have h64 := rc64 hr8 hc8
  have hH8 := hk.H8
  have hN : A.N = A.P.r + A.P.c := rfl
  refine Ct.of [some (.ref (b0 + 140)), some (.int x), none] (by decide) (Nat.le_of_ble_eq_true rfl) rfl rfl ?_
  refine S_aload_0 (q := 1) dX10_setRule_0 rfl ?_
  refine S_iload_1 (q := 2) dX10_setRule_1 rfl ?_
  refine S_iconst (q := 3) (nI 0) dX10_setRule_2 (by decide) rfl ?_
  refine S_iconst (q := 4) (nI 2) dX10_setRule_3 (by decide) rfl ?_
  refine S_callV3i (q := 7) dX10_setRule_4 lk_X10_172 (by first | assumption | rfl) rfl rfl (k_X10_within) rfl rfl (Nat.le_of_ble_eq_true rfl) ⟨Nat.le_of_ble_eq_true rfl, Nat.le_of_ble_eq_true rfl⟩ ⟨Nat.le_of_ble_eq_true rfl, Nat.le_of_ble_eq_true rfl⟩ rfl (fun v4 M4 hv4 => ?_)
  obtain ⟨e4, rfl⟩ := hv4
  rw [e4]
  refine S_if_ne (t := 13) (q := 10) dX10_setRule_7 (by decide) rfl (fun hb7 => ?_) (fun hb7 => ?_)
  · obtain ⟨n, hn2, rfl, hn⟩ := iw0 (by decide) (bI_n.mp hb7)
    refine S_aload_0 (q := 14) dX10_setRule_13 rfl ?_
    refine S_getI (q := 17) dX10_setRule_14 fl_X10_19 (by first | assumption | rfl) (by rfl) rfl ?_
    refine S_istore_2 (q := 18) dX10_setRule_17 rfl ?_
    refine S_aload_0 (q := 19) dX10_setRule_18 rfl ?_
    refine S_iload_1 (q := 20) dX10_setRule_19 rfl ?_
    refine S_putI (q := 23) dX10_setRule_20 fp_X10_19 (by first | assumption | rfl) (by rfl) rfl (by rfl) rfl ?_
    refine S_iload_2 (q := 24) dX10_setRule_23 rfl ?_
    exact S_iret rfl dX10_setRule_24 rfl rfl (RSR.to (A := mkA A.P A.f A.H n A.bad A.tx A.fo A.tb A.sn) (hC.oth hk (fun k _ => by rw [up_eq, if_neg (by omega)]) (fun a ha => up_n (by omega)) up_s (htx.fr (by rw [up_eq, if_neg (by decide)]) (up_n (by decide))) (hfo.fr (by rw [up_eq, if_neg (by decide)]) (up_n (by decide))) (hsn.fr (fun k _ _ => by rw [up_eq, if_neg (by omega)]) (fun a _ _ => up_n (by omega))) (htb.fr (fun a _ _ => up_n (by omega)))) (fun a ha => up_n (by omega)) (by unfold o_rule; rw [show iw (nI n) 0 2 = some n from hn]; simp only; rw [hru]))
  · have hn := iw_no (bI_0.mp hb7)
    refine S_bipush (q := 12) (-2) dX10_setRule_10 (by decide) rfl ?_
    exact S_iret rfl dX10_setRule_12 rfl rfl (RSR.same hC (by unfold o_rule; rw [show iw x 0 2 = none from hn]))
