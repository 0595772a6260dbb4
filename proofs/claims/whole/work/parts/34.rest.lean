/-- other fields, another snapshot -/
theorem CR.zero {M M1 : Mem} {A : Ab} {ru : Nat} {bad : Option (Nat × Nat)} {sn : Option (Pz × (Nat → Nat))} (h : CR M A) (hf : ∀ a, a ≠ 0 → (a < 13 ∨ 19 ≤ a) → M1 a = M a) (h9 : M1 0 9 = nI ru) (h10 : M1 0 10 = (badI bad).1) (h11 : M1 0 11 = (badI bad).2) (h3 : M1 0 3 = nI (if sn.isSome then 1 else 0)) (hs : ∀ P f, sn = some (P, f) → GR M1 13 P f) : CR M1 (mkA A.P A.f A.H ru bad A.tx A.fo A.tb sn) := by
  obtain ⟨h1, -, -, -, -, -, ⟨nx, n1, n2, n3, n4⟩, ⟨t1, t2⟩, ⟨f1, f2⟩, ht⟩ := h
  refine ⟨h1.fr (fun a _ _ => hf a (by omega) (by omega)), h9, h10, h11, h3, hs, ⟨nx, n1, by rw [hf 19 (by omega) (by omega)]; exact n2, by rw [hf 19 (by omega) (by omega)]; exact n3, fun s e he => (n4 s e he).fr (fun a _ _ => hf a (by have := hst_in nx s; omega) (by have := hst_in nx s; omega))⟩, ⟨by rw [hf 125 (by omega) (by omega)]; exact t1, fun j hj => by rw [hf 126 (by omega) (by omega)]; exact t2 j hj⟩, ⟨by rw [hf 127 (by omega) (by omega)]; exact f1, fun j hj => by rw [hf 128 (by omega) (by omega)]; exact f2 j hj⟩, fun t htt => ?_⟩
  rw [hf (134 + 2 * t) (by omega) (by omega), hf (135 + 2 * t) (by omega) (by omega)]
  exact ht t htt
abbrev hPx : Pz → HE → Pz := hP
/-- a text in memory -/
def TX (M : Mem) (t : Nat) (s : (Nat → Nat) × Nat) : Prop := M t 1 = nI s.2 ∧ ∀ j, j < s.2 → M (t + 1) j = nI (s.1 j)
theorem TX.psh {M : Mem} {t ch : Nat} {s : (Nat → Nat) × Nat} (h : TX M t s) : TX (up (up M (t + 1) s.2 (nI ch)) t 1 (nI (s.2 + 1))) t (psh s ch) := by
  refine ⟨up_s, fun j hj => ?_⟩
  have hj' : j < s.2 + 1 := hj
  show _ = nI (upf s.1 s.2 ch j)
  rw [up_n (by omega)]
  by_cases e : j = s.2
  · rw [e, up_s, upf_s]
  · rw [up_eq, if_neg (by omega), upf_n e]; exact h.2 j (by omega)
theorem CR.text {M M1 : Mem} {A : Ab} {s : (Nat → Nat) × Nat} (h : CR M A) (hf : ∀ a, a ≠ 125 → a ≠ 126 → M1 a = M a) (ht : TX M1 125 s) : CR M1 (A.sT s) := by
  obtain ⟨h1, h2, h3, h4, h5, h6, ⟨nx, n1, n2, n3, n4⟩, -, ⟨f1, f2⟩, htb⟩ := h
  refine ⟨h1.fr (fun a _ _ => hf a (by omega) (by omega)), by rw [hf 0 (by omega) (by omega)]; exact h2, by rw [hf 0 (by omega) (by omega)]; exact h3, by rw [hf 0 (by omega) (by omega)]; exact h4, by rw [hf 0 (by omega) (by omega)]; exact h5, fun P f e => (h6 P f e).fr (fun a _ _ => hf a (by omega) (by omega)), ⟨nx, n1, by rw [hf 19 (by omega) (by omega)]; exact n2, by rw [hf 19 (by omega) (by omega)]; exact n3, fun s e he => (n4 s e he).fr (fun a _ _ => hf a (by have := hst_in nx s; omega) (by have := hst_in nx s; omega))⟩, ht, ⟨by rw [hf 127 (by omega) (by omega)]; exact f1, fun j hj => by rw [hf 128 (by omega) (by omega)]; exact f2 j hj⟩, fun t htt => ?_⟩
  rw [hf (134 + 2 * t) (by omega) (by omega), hf (135 + 2 * t) (by omega) (by omega)]
  exact htb t htt
theorem CR.form {M M1 : Mem} {A : Ab} {s : (Nat → Nat) × Nat} (h : CR M A) (hf : ∀ a, a ≠ 127 → a ≠ 128 → M1 a = M a) (ht : TX M1 127 s) : CR M1 (A.sF s) := by
  obtain ⟨h1, h2, h3, h4, h5, h6, ⟨nx, n1, n2, n3, n4⟩, ⟨f1, f2⟩, -, htb⟩ := h
  refine ⟨h1.fr (fun a _ _ => hf a (by omega) (by omega)), by rw [hf 0 (by omega) (by omega)]; exact h2, by rw [hf 0 (by omega) (by omega)]; exact h3, by rw [hf 0 (by omega) (by omega)]; exact h4, by rw [hf 0 (by omega) (by omega)]; exact h5, fun P f e => (h6 P f e).fr (fun a _ _ => hf a (by omega) (by omega)), ⟨nx, n1, by rw [hf 19 (by omega) (by omega)]; exact n2, by rw [hf 19 (by omega) (by omega)]; exact n3, fun s e he => (n4 s e he).fr (fun a _ _ => hf a (by have := hst_in nx s; omega) (by have := hst_in nx s; omega))⟩, ⟨by rw [hf 125 (by omega) (by omega)]; exact f1, fun j hj => by rw [hf 126 (by omega) (by omega)]; exact f2 j hj⟩, ht, fun t htt => ?_⟩
  rw [hf (134 + 2 * t) (by omega) (by omega), hf (135 + 2 * t) (by omega) (by omega)]
  exact htb t htt
theorem CR.tab {M M1 : Mem} {A : Ab} {t ty n : Nat} {it : Nat → Int32} (h : CR M A) (ht : t < 3) (hf : ∀ a, a ≠ 134 + 2 * t → a ≠ 135 + 2 * t → M1 a = M a) (q1 : M1 (134 + 2 * t) 1 = nI ty) (q2 : M1 (134 + 2 * t) 2 = nI n) (q3 : ∀ j, j < 64 → M1 (135 + 2 * t) j = it j) : CR M1 (A.sE t (ty, n, it)) := by
  obtain ⟨h1, h2, h3, h4, h5, h6, ⟨nx, n1, n2, n3, n4⟩, ⟨f1, f2⟩, ⟨f3, f4⟩, htb⟩ := h
  refine ⟨h1.fr (fun a _ _ => hf a (by omega) (by omega)), by rw [hf 0 (by omega) (by omega)]; exact h2, by rw [hf 0 (by omega) (by omega)]; exact h3, by rw [hf 0 (by omega) (by omega)]; exact h4, by rw [hf 0 (by omega) (by omega)]; exact h5, fun P f e => (h6 P f e).fr (fun a _ _ => hf a (by omega) (by omega)), ⟨nx, n1, by rw [hf 19 (by omega) (by omega)]; exact n2, by rw [hf 19 (by omega) (by omega)]; exact n3, fun s e he => (n4 s e he).fr (fun a _ _ => hf a (by have := hst_in nx s; omega) (by have := hst_in nx s; omega))⟩, ⟨by rw [hf 125 (by omega) (by omega)]; exact f1, fun j hj => by rw [hf 126 (by omega) (by omega)]; exact f2 j hj⟩, ⟨by rw [hf 127 (by omega) (by omega)]; exact f3, fun j hj => by rw [hf 128 (by omega) (by omega)]; exact f4 j hj⟩, fun u hu => ?_⟩
  by_cases e : u = t
  · subst e
    refine ⟨fun y => ?_, fun ty' n' it' y => ?_⟩
    · have y' : (if u = u then some (ty, n, it) else A.tb u) = none := y
      rw [if_pos rfl] at y'; cases y'
    · have y' : (if u = u then some (ty, n, it) else A.tb u) = some (ty', n', it') := y
      rw [if_pos rfl] at y'; cases y'
      exact ⟨q1, q2, q3⟩
  · rw [hf (134 + 2 * u) (by omega) (by omega), hf (135 + 2 * u) (by omega) (by omega)]
    have y : (A.sE t (ty, n, it)).tb u = A.tb u := if_neg e
    rw [y]
    exact htb u hu
theorem tb_set {M : Mem} {t z j : Nat} {v : Int32} {it : Nat → Int32} (h : M (135 + 2 * t) z = it z) : up M (134 + 2 * t + 1) j v (135 + 2 * t) z = if z = j then v else it z := by
  rw [up_eq]
  by_cases e : z = j
  · rw [if_pos ⟨by omega, e⟩, if_pos e]
  · rw [if_neg (fun y => e y.2), if_neg e]; exact h
theorem CR.nil {M M1 : Mem} {A : Ab} {P : Pz} {f : Nat → Nat} {nx : Nat} (h : CR M A) (hf : ∀ a, (a < 1 ∨ (13 ≤ a ∧ a < 19) ∨ (125 ≤ a ∧ a < 129) ∨ (134 ≤ a ∧ a < 140)) → M1 a = M a) (h1 : GR M1 1 P f) (n1 : nx < 8) (n2 : M1 19 1 = nI nx) (n3 : M1 19 2 = nI 0) : CR M1 (A.sG P f []) := h.grid hf h1 ⟨nx, n1, n2, n3, fun s e he => by cases he⟩
theorem fl_16 {k : Nat} (h : k ≤ 3) : 1 ≤ 2 ^ (k + 1) - 1 ∧ 2 ^ (k + 1) - 1 < 16 := by
  rcases (show k = 0 ∨ k = 1 ∨ k = 2 ∨ k = 3 by omega) with rfl | rfl | rfl | rfl <;> decide
theorem ush16 (x : Int32) : (x.toUInt32 >>> ((nI 16).toUInt32 &&& Int32.toUInt32 31)).toInt32 = nI (x.toBitVec.toNat / 65536) := i32_ext (by
  have h1 := pk_ushr x (nI 16) 16 (by decide)
  have h2 := x.toBitVec.isLt
  rw [h1, pk_tn (by omega)])
theorem nI_n0 {a : Nat} (h : a ≠ 0) (ha : a < 2 ^ 31) : ¬ nI a = 0 := fun e => h (nI_inj (by omega) (by decide) (show nI a = nI 0 from e))
theorem PIC.clu {M : Mem} {g : Nat} {P : Pz} {f : Nat → Nat} (hP : P.ok) (hf : GF P f) (h : PIC M g P.r P.c f (P.r + P.c)) : CLU M (g + 1) (pcP P f) := by
  intro i hi
  have hr8 := hP.r8
  have hc8 := hP.c8
  by_cases e : i < P.r + P.c
  · obtain ⟨q1, q2⟩ := h.1 i e
    have hl8 := lnLen_le (i := i) hr8 hc8
    obtain ⟨b1, b2, b3⟩ := bkT_ok (C := lco P.r P.c f i) (lnLen P.r P.c i) (fun q hq => clo_le3 _ (hf _ (lnCell_lt e hq)).2 (hf _ (lnCell_lt e hq)).1)
    have eR : (pcP P f).R i = (bkT (lco P.r P.c f i) (lnLen P.r P.c i)).1 := if_pos e
    refine ⟨by rw [eR]; exact q1, by rw [eR]; omega, fun j hj => ?_⟩
    rw [eR] at hj
    obtain ⟨c1, c2, c3, c4⟩ := b3 j hj
    exact ⟨(q2 j hj).1, c1, Nat.le_trans c2 hl8, (q2 j hj).2, c3, c4⟩
  · have eR : (pcP P f).R i = 0 := if_neg e
    exact ⟨by rw [eR]; exact h.2 i (by omega) hi, by rw [eR]; omega, fun j hj => by rw [eR] at hj; exact absurd hj (Nat.not_lt_zero j)⟩
set_option maxHeartbeats 4000000 in
set_option maxRecDepth 100000 in
theorem k_X9_setRule {l : Launch} {G : Gd} {b0 : Nat} {M : Mem} {A : Ab} {x : Int32}  (hC : CR M A) (hk : A.ok)  : Ct l G b0 yX9_setRule cX9_setRule 3 (some .int) (rmZ 1 22) LAY LAY M [.ref (b0 + 0), .int x] (fun v M' => RES M (o_rule A x) v M') := by
  obtain ⟨⟨g0, g1, g2, gcu, gce⟩, hru, hbl, hbd, hsn, hss, ⟨nx, hnx, hx1, hx2, hx3⟩, ⟨htl, htx⟩, ⟨hfl, hfo⟩, htb⟩ := id hC
  have hP := hk.P
  have hr1 := hP.r1
  have hr8 := hP.r8
  have hc1 := hP.c1
  have hc8 := hP.c8
  have hk1 := hP.k1
  have hk3 := hP.k3
  have h64 := rc64 hr8 hc8
  have hH8 := hk.H8
  have hN : A.N = A.P.r + A.P.c := rfl
  refine Ct.of [some (.ref (b0 + 0)), some (.int x), none] (by decide) (Nat.le_of_ble_eq_true rfl) rfl rfl ?_
  refine S_iload_1 (q := 1) dX9_setRule_0 rfl ?_
  refine S_iconst (q := 2) (nI 0) dX9_setRule_1 (by decide) rfl ?_
  refine S_iconst (q := 3) (nI 2) dX9_setRule_2 (by decide) rfl ?_
  refine S_callS3i (q := 6) dX9_setRule_3 lk_X9_101 (k_X9_isWithin) rfl rfl (Nat.le_of_ble_eq_true rfl) ⟨Nat.le_of_ble_eq_true rfl, Nat.le_of_ble_eq_true rfl⟩ ⟨Nat.le_of_ble_eq_true rfl, Nat.le_of_ble_eq_true rfl⟩ rfl (fun v3 M3 hv3 => ?_)
  obtain ⟨e3, rfl⟩ := hv3
  rw [e3]
  refine S_if_ne (t := 12) (q := 9) dX9_setRule_6 (by decide) rfl (fun hb6 => ?_) (fun hb6 => ?_)
  · obtain ⟨n, hn2, rfl, hn⟩ := iw0 (by decide) (bI_n.mp hb6)
    refine S_aload_0 (q := 13) dX9_setRule_12 rfl ?_
    refine S_getI (q := 16) dX9_setRule_13 fl_X9_61 (by first | assumption | rfl) (by rfl) rfl ?_
    refine S_istore_2 (q := 17) dX9_setRule_16 rfl ?_
    refine S_aload_0 (q := 18) dX9_setRule_17 rfl ?_
    refine S_iload_1 (q := 19) dX9_setRule_18 rfl ?_
    refine S_putI (q := 22) dX9_setRule_19 fp_X9_61 (by first | assumption | rfl) (by rfl) rfl (by rfl) rfl ?_
    refine S_iload_2 (q := 23) dX9_setRule_22 rfl ?_
    exact S_iret rfl dX9_setRule_23 rfl rfl (RES.to (A := mkA A.P A.f A.H n A.bad A.tx A.fo A.tb A.sn) (hC.zero (fun a h1 _ => up_n h1) up_s (by rw [up_eq, if_neg (by decide)]; exact hbl) (by rw [up_eq, if_neg (by decide)]; exact hbd) (by rw [up_eq, if_neg (by decide)]; exact hsn) (fun P f e => (hss P f e).fr (fun a _ _ => up_n (by omega)))) (fun a ha => up_n (by omega)) (by unfold o_rule; rw [show iw (nI n) 0 2 = some n from hn]; simp only; rw [hru]))
  · have hn := iw_no (bI_0.mp hb6)
    refine S_bipush (q := 11) (-2) dX9_setRule_9 (by decide) rfl ?_
    exact S_iret rfl dX9_setRule_11 rfl rfl (RES.same hC (by unfold o_rule; rw [show iw x 0 2 = none from hn]))
set_option maxHeartbeats 4000000 in
set_option maxRecDepth 100000 in
theorem k_X9_reset {l : Launch} {G : Gd} {b0 : Nat} {M : Mem} {A : Ab} {x y z : Int32}  (hC : CR M A) (hk : A.ok)  : Ct l G b0 yX9_reset cX9_reset 4 (some .int) (rmZ 3 66) LAY LAY M [.ref (b0 + 0), .int x, .int y, .int z] (fun v M' => RES M (o_reset A x y z) v M') := by
  obtain ⟨⟨g0, g1, g2, gcu, gce⟩, hru, hbl, hbd, hsn, hss, ⟨nx, hnx, hx1, hx2, hx3⟩, ⟨htl, htx⟩, ⟨hfl, hfo⟩, htb⟩ := id hC
  have hP := hk.P
  have hr1 := hP.r1
  have hr8 := hP.r8
  have hc1 := hP.c1
  have hc8 := hP.c8
  have hk1 := hP.k1
  have hk3 := hP.k3
  have h64 := rc64 hr8 hc8
  have hH8 := hk.H8
  have hN : A.N = A.P.r + A.P.c := rfl
  refine Ct.of [some (.ref (b0 + 0)), some (.int x), some (.int y), some (.int z)] (by decide) (Nat.le_of_ble_eq_true rfl) rfl rfl ?_
  refine S_iload_1 (q := 1) dX9_reset_0 rfl ?_
  refine S_iconst (q := 2) (nI 1) dX9_reset_1 (by decide) rfl ?_
  refine S_bipush (q := 4) (nI 8) dX9_reset_2 (by decide) rfl ?_
  refine S_callS3i (q := 7) dX9_reset_4 lk_X9_101 (k_X9_isWithin) rfl rfl (Nat.le_of_ble_eq_true rfl) ⟨Nat.le_of_ble_eq_true rfl, Nat.le_of_ble_eq_true rfl⟩ ⟨Nat.le_of_ble_eq_true rfl, Nat.le_of_ble_eq_true rfl⟩ rfl (fun v4 M4 hv4 => ?_)
  obtain ⟨e4, rfl⟩ := hv4
  rw [e4]
  refine S_if_eq (t := 29) (q := 10) dX9_reset_7 (by decide) rfl (fun hb7 => ?_) (fun hb7 => ?_)
  · have h1 := iw_no (bI_0.mp hb7)
    refine S_bipush (q := 31) (-2) dX9_reset_29 (by decide) rfl ?_
    exact S_iret rfl dX9_reset_31 rfl rfl (RES.same hC (by unfold o_reset; rw [h1]))
  · obtain ⟨r, hr1', hr8', rfl, h1⟩ := iw_ok (by decide) (by decide) (bI_n.mp hb7)
    refine S_iload_2 (q := 11) dX9_reset_10 rfl ?_
    refine S_iconst (q := 12) (nI 1) dX9_reset_11 (by decide) rfl ?_
    refine S_bipush (q := 14) (nI 8) dX9_reset_12 (by decide) rfl ?_
    refine S_callS3i (q := 17) dX9_reset_14 lk_X9_101 (k_X9_isWithin) rfl rfl (Nat.le_of_ble_eq_true rfl) ⟨Nat.le_of_ble_eq_true rfl, Nat.le_of_ble_eq_true rfl⟩ ⟨Nat.le_of_ble_eq_true rfl, Nat.le_of_ble_eq_true rfl⟩ rfl (fun v14 M14 hv14 => ?_)
    obtain ⟨e14, rfl⟩ := hv14
    rw [e14]
    refine S_if_eq (t := 29) (q := 20) dX9_reset_17 (by decide) rfl (fun hb17 => ?_) (fun hb17 => ?_)
    · have h2 := iw_no (bI_0.mp hb17)
      refine S_bipush (q := 31) (-2) dX9_reset_29 (by decide) rfl ?_
      exact S_iret rfl dX9_reset_31 rfl rfl (RES.same hC (by unfold o_reset; rw [h1]; simp only [h2]))
    · obtain ⟨c, hc1', hc8', rfl, h2⟩ := iw_ok (by decide) (by decide) (bI_n.mp hb17)
      refine S_iload_3 (q := 21) dX9_reset_20 rfl ?_
      refine S_iconst (q := 22) (nI 1) dX9_reset_21 (by decide) rfl ?_
      refine S_iconst (q := 23) (nI 3) dX9_reset_22 (by decide) rfl ?_
      refine S_callS3i (q := 26) dX9_reset_23 lk_X9_101 (k_X9_isWithin) rfl rfl (Nat.le_of_ble_eq_true rfl) ⟨Nat.le_of_ble_eq_true rfl, Nat.le_of_ble_eq_true rfl⟩ ⟨Nat.le_of_ble_eq_true rfl, Nat.le_of_ble_eq_true rfl⟩ rfl (fun v23 M23 hv23 => ?_)
      obtain ⟨e23, rfl⟩ := hv23
      rw [e23]
      refine S_if_ne (t := 32) (q := 29) dX9_reset_26 (by decide) rfl (fun hb26 => ?_) (fun hb26 => ?_)
      · obtain ⟨k, hk1', hk3', rfl, h3⟩ := iw_ok (by decide) (by decide) (bI_n.mp hb26)
        refine S_aload_0 (q := 33) dX9_reset_32 rfl ?_
        refine S_getR (q := 36) dX9_reset_33 fl_X9_12 (by first | assumption | rfl) (by rfl) rfl ?_
        refine S_iload_1 (q := 37) dX9_reset_36 rfl ?_
        refine S_iload_2 (q := 38) dX9_reset_37 rfl ?_
        refine S_iload_3 (q := 39) dX9_reset_38 rfl ?_
        refine S_callV3v (q := 42) dX9_reset_39 lk_X9_97 (by first | assumption | rfl) rfl rfl (k_X1_start gO_1 hk3') rfl rfl (Nat.le_of_ble_eq_true rfl) ⟨Nat.le_of_ble_eq_true rfl, Nat.le_of_ble_eq_true rfl⟩ ⟨Nat.le_of_ble_eq_true rfl, Nat.le_of_ble_eq_true rfl⟩ rfl (fun v39 M39 hv39 => ?_)
        refine S_aload_0 (q := 43) dX9_reset_42 rfl ?_
        refine S_getR (q := 46) dX9_reset_43 fl_X9_29 (by first | assumption | rfl) (by rfl) rfl ?_
        refine S_callV0v (q := 49) dX9_reset_46 lk_X9_105 (by first | assumption | rfl) rfl rfl (k_X2_forget) rfl rfl (Nat.le_of_ble_eq_true rfl) ⟨Nat.le_of_ble_eq_true rfl, Nat.le_of_ble_eq_true rfl⟩ ⟨Nat.le_of_ble_eq_true rfl, Nat.le_of_ble_eq_true rfl⟩ rfl (fun v46 M46 hv46 => ?_)
        subst hv46
        refine S_aload_0 (q := 50) dX9_reset_49 rfl ?_
        refine S_callV0v (q := 53) dX9_reset_50 lk_X9_108 (by first | assumption | rfl) rfl rfl (k_X9_forgetContradiction) rfl rfl (Nat.le_of_ble_eq_true rfl) ⟨Nat.le_of_ble_eq_true rfl, Nat.le_of_ble_eq_true rfl⟩ ⟨Nat.le_of_ble_eq_true rfl, Nat.le_of_ble_eq_true rfl⟩ rfl (fun v50 M50 hv50 => ?_)
        subst hv50
        refine S_aload_0 (q := 54) dX9_reset_53 rfl ?_
        refine S_getR (q := 57) dX9_reset_54 fl_X9_12 (by first | assumption | rfl) (by rfl) rfl ?_
        refine S_callV0i (q := 60) dX9_reset_57 lk_X9_111 (by first | assumption | rfl) rfl rfl (k_X1_lineTotal gO_1 (r := r) (c := c) (by rw [up_n (by omega), up_n (by omega), up_n (by omega)]; exact hv39.2.1) (by rw [up_n (by omega), up_n (by omega), up_n (by omega)]; exact hv39.2.2.1)) rfl rfl (Nat.le_of_ble_eq_true rfl) ⟨Nat.le_of_ble_eq_true rfl, Nat.le_of_ble_eq_true rfl⟩ ⟨Nat.le_of_ble_eq_true rfl, Nat.le_of_ble_eq_true rfl⟩ rfl (fun v57 M57 hv57 => ?_)
        obtain ⟨e57, rfl⟩ := hv57
        rw [e57]
        exact S_iret rfl dX9_reset_60 rfl rfl (RES.to (A := (A.sG (r, c, k, fun _ => 0, fun _ _ => 0, fun _ _ => 0) (fun _ => 2 ^ (k + 1) - 1) []).sB none) (CR.bad (hC.nil (P := (r, c, k, fun _ => 0, fun _ _ => 0, fun _ _ => 0)) (f := fun _ => 2 ^ (k + 1) - 1) (fun a ha => by rw [up_n (by omega), hv39.1 a (by omega) (by omega) (by omega)]) ⟨by rw [up_n (by omega)]; exact hv39.2.1, by rw [up_n (by omega)]; exact hv39.2.2.1, by rw [up_n (by omega)]; exact hv39.2.2.2.1, fun i hi => ⟨by rw [up_n (by omega)]; exact hv39.2.2.2.2.1 i hi, Nat.zero_le _, fun j (hj : j < 0) => absurd hj (Nat.not_lt_zero j)⟩, fun x hx => ⟨by
                  have hx' : x < r * c := hx
                  have := rc64 hr8' hc8'
                  rw [up_n (by omega)]; exact hv39.2.2.2.2.2 x (by omega), (fl_16 hk3').1, (fl_16 hk3').2⟩⟩ hnx (by rw [up_eq, if_neg (by decide), hv39.1 19 (by decide) (by decide) (by decide)]; exact hx1) up_s) rfl rfl) (fun a ha => by rw [up_n (by omega), up_n (by omega), up_n (by omega), hv39.1 a (by omega) (by omega) (by omega)]) (by unfold o_reset; rw [h1]; simp only [h2, h3]; rfl))
      · have h3 := iw_no (bI_0.mp hb26)
        refine S_bipush (q := 31) (-2) dX9_reset_29 (by decide) rfl ?_
        exact S_iret rfl dX9_reset_31 rfl rfl (RES.same hC (by unfold o_reset; rw [h1]; simp only [h2, h3]))
set_option maxHeartbeats 4000000 in
set_option maxRecDepth 100000 in
theorem k_X9_assignmentCount {l : Launch} {G : Gd} {b0 : Nat} {M : Mem} {A : Ab} {x : Int32}  (hC : CR M A) (hk : A.ok)  : Ct l G b0 yX9_assignmentCount cX9_assignmentCount 2 (some .int) (rmZ 3 70) LAY LAY M [.ref (b0 + 0), .int x] (fun v M' => RES M (o_asn A x) v M') := by
  obtain ⟨⟨g0, g1, g2, gcu, gce⟩, hru, hbl, hbd, hsn, hss, ⟨nx, hnx, hx1, hx2, hx3⟩, ⟨htl, htx⟩, ⟨hfl, hfo⟩, htb⟩ := id hC
  have hP := hk.P
  have hr1 := hP.r1
  have hr8 := hP.r8
  have hc1 := hP.c1
  have hc8 := hP.c8
  have hk1 := hP.k1
  have hk3 := hP.k3
  have h64 := rc64 hr8 hc8
  have hH8 := hk.H8
  have hN : A.N = A.P.r + A.P.c := rfl
  refine Ct.of [some (.ref (b0 + 0)), some (.int x)] (by decide) (Nat.le_of_ble_eq_true rfl) rfl rfl ?_
  refine S_aload_0 (q := 1) dX9_assignmentCount_0 rfl ?_
  refine S_getR (q := 4) dX9_assignmentCount_1 fl_X9_12 (by first | assumption | rfl) (by rfl) rfl ?_
  refine S_iload_1 (q := 5) dX9_assignmentCount_4 rfl ?_
  refine S_callV1i (q := 8) dX9_assignmentCount_5 lk_X9_124 (by first | assumption | rfl) rfl rfl (k_X1_hasLine gO_1 g0 g1 hr8 hc8 hr1) rfl rfl (Nat.le_of_ble_eq_true rfl) ⟨Nat.le_of_ble_eq_true rfl, Nat.le_of_ble_eq_true rfl⟩ ⟨Nat.le_of_ble_eq_true rfl, Nat.le_of_ble_eq_true rfl⟩ rfl (fun v5 M5 hv5 => ?_)
  obtain ⟨e5, rfl⟩ := hv5
  rw [e5]
  refine S_if_ne (t := 13) (q := 11) dX9_assignmentCount_8 (by decide) rfl (fun hb8 => ?_) (fun hb8 => ?_)
  · obtain ⟨i, hi, rfl, hl⟩ := ln_ok (A := A) hP (bI_n.mp hb8)
    have hi16 : i < 16 := by omega
    refine S_aload_0 (q := 14) dX9_assignmentCount_13 rfl ?_
    refine S_getR (q := 17) dX9_assignmentCount_14 fl_X9_36 (by first | assumption | rfl) (by rfl) rfl ?_
    refine S_aload_0 (q := 18) dX9_assignmentCount_17 rfl ?_
    refine S_getR (q := 21) dX9_assignmentCount_18 fl_X9_12 (by first | assumption | rfl) (by rfl) rfl ?_
    refine S_iload_1 (q := 22) dX9_assignmentCount_21 rfl ?_
    refine S_callV2v (q := 25) dX9_assignmentCount_22 lk_X9_199 (by first | assumption | rfl) rfl rfl (k_X3_load lO_69 gO_1 g0 g1 hr8 hc8 hr1 hc1 hi (by decide) gce (gcu i hi16)) rfl rfl (Nat.le_of_ble_eq_true rfl) ⟨Nat.le_of_ble_eq_true rfl, Nat.le_of_ble_eq_true rfl⟩ ⟨Nat.le_of_ble_eq_true rfl, Nat.le_of_ble_eq_true rfl⟩ rfl (fun v22 M22 hv22 => ?_)
    obtain ⟨hs1, hs2, hs3⟩ := hv22
    refine S_aload_0 (q := 26) dX9_assignmentCount_25 rfl ?_
    refine S_getR (q := 29) dX9_assignmentCount_26 fl_X9_36 (by first | assumption | rfl) (by rfl) rfl ?_
    refine S_callV0i (q := 32) dX9_assignmentCount_29 lk_X9_203 (by first | assumption | rfl) rfl rfl (k_X3_total lO_69) rfl rfl (Nat.le_of_ble_eq_true rfl) ⟨Nat.le_of_ble_eq_true rfl, Nat.le_of_ble_eq_true rfl⟩ ⟨Nat.le_of_ble_eq_true rfl, Nat.le_of_ble_eq_true rfl⟩ rfl (fun v29 M29 hv29 => ?_)
    obtain ⟨e29, rfl⟩ := hv29
    rw [e29]
    exact S_iret rfl dX9_assignmentCount_32 rfl rfl (RES.scr hC (fun a ha => hs1 a (by omega)) (by unfold o_asn; rw [hl]; simp only; exact congrArg _ (hs2.2.2.2.2 0 (Nat.zero_le _) 0 (Nat.zero_le _)).symm))
  · have hl := ln_no (A := A) (bI_0.mp hb8)
    refine S_iconst (q := 12) (-1) dX9_assignmentCount_11 (by decide) rfl ?_
    exact S_iret rfl dX9_assignmentCount_12 rfl rfl (RES.same hC (by unfold o_asn; rw [hl]))
set_option maxHeartbeats 4000000 in
set_option maxRecDepth 100000 in
theorem k_X9_assignmentColor {l : Launch} {G : Gd} {b0 : Nat} {M : Mem} {A : Ab} {x m z : Int32}  (hC : CR M A) (hk : A.ok)  : Ct l G b0 yX9_assignmentColor cX9_assignmentColor 4 (some .int) (rmZ 3 70) LAY LAY M [.ref (b0 + 0), .int x, .int m, .int z] (fun v M' => RES M (o_asc A x m z) v M') := by
  obtain ⟨⟨g0, g1, g2, gcu, gce⟩, hru, hbl, hbd, hsn, hss, ⟨nx, hnx, hx1, hx2, hx3⟩, ⟨htl, htx⟩, ⟨hfl, hfo⟩, htb⟩ := id hC
  have hP := hk.P
  have hr1 := hP.r1
  have hr8 := hP.r8
  have hc1 := hP.c1
  have hc8 := hP.c8
  have hk1 := hP.k1
  have hk3 := hP.k3
  have h64 := rc64 hr8 hc8
  have hH8 := hk.H8
  have hN : A.N = A.P.r + A.P.c := rfl
  refine Ct.of [some (.ref (b0 + 0)), some (.int x), some (.int m), some (.int z)] (by decide) (Nat.le_of_ble_eq_true rfl) rfl rfl ?_
  refine S_aload_0 (q := 1) dX9_assignmentColor_0 rfl ?_
  refine S_getR (q := 4) dX9_assignmentColor_1 fl_X9_12 (by first | assumption | rfl) (by rfl) rfl ?_
  refine S_iload_1 (q := 5) dX9_assignmentColor_4 rfl ?_
  refine S_callV1i (q := 8) dX9_assignmentColor_5 lk_X9_124 (by first | assumption | rfl) rfl rfl (k_X1_hasLine gO_1 g0 g1 hr8 hc8 hr1) rfl rfl (Nat.le_of_ble_eq_true rfl) ⟨Nat.le_of_ble_eq_true rfl, Nat.le_of_ble_eq_true rfl⟩ ⟨Nat.le_of_ble_eq_true rfl, Nat.le_of_ble_eq_true rfl⟩ rfl (fun v5 M5 hv5 => ?_)
  obtain ⟨e5, rfl⟩ := hv5
  rw [e5]
  refine S_if_eq (t := 29) (q := 11) dX9_assignmentColor_8 (by decide) rfl (fun hb8 => ?_) (fun hb8 => ?_)
  · have hl := ln_no (A := A) (bI_0.mp hb8)
    refine S_iconst (q := 30) (-1) dX9_assignmentColor_29 (by decide) rfl ?_
    exact S_iret rfl dX9_assignmentColor_30 rfl rfl (RES.same hC (by unfold o_asc; rw [hl]))
  · obtain ⟨i, hi, rfl, hl⟩ := ln_ok (A := A) hP (bI_n.mp hb8)
    have hi16 : i < 16 := by omega
    refine S_iload_3 (q := 12) dX9_assignmentColor_11 rfl ?_
    refine S_iconst (q := 13) (nI 0) dX9_assignmentColor_12 (by decide) rfl ?_
    refine S_aload_0 (q := 14) dX9_assignmentColor_13 rfl ?_
    refine S_getR (q := 17) dX9_assignmentColor_14 fl_X9_12 (by first | assumption | rfl) (by rfl) rfl ?_
    refine S_iload_1 (q := 18) dX9_assignmentColor_17 rfl ?_
    refine S_callV1i (q := 21) dX9_assignmentColor_18 lk_X9_193 (by first | assumption | rfl) rfl rfl (k_X1_lineLength gO_1 g0 g1 hr8 hc8 hi16) rfl rfl (Nat.le_of_ble_eq_true rfl) ⟨Nat.le_of_ble_eq_true rfl, Nat.le_of_ble_eq_true rfl⟩ ⟨Nat.le_of_ble_eq_true rfl, Nat.le_of_ble_eq_true rfl⟩ rfl (fun v18 M18 hv18 => ?_)
    obtain ⟨e18, rfl⟩ := hv18
    rw [e18]
    have hl8 := lnLen_le (i := i) hr8 hc8
    refine S_iconst (q := 22) (nI 1) dX9_assignmentColor_21 (by decide) rfl ?_
    refine S_isub (q := 23) dX9_assignmentColor_22 rfl ?_
    refine S_callS3i (q := 26) dX9_assignmentColor_23 lk_X9_101 (k_X9_isWithin) rfl rfl (Nat.le_of_ble_eq_true rfl) ⟨Nat.le_of_ble_eq_true rfl, Nat.le_of_ble_eq_true rfl⟩ ⟨Nat.le_of_ble_eq_true rfl, Nat.le_of_ble_eq_true rfl⟩ rfl (fun v23 M23 hv23 => ?_)
    obtain ⟨e23, rfl⟩ := hv23
    rw [e23]
    refine S_if_ne (t := 31) (q := 29) dX9_assignmentColor_26 (by decide) rfl (fun hb26 => ?_) (fun hb26 => ?_)
    · obtain ⟨q, hq, rfl, hz⟩ := ix_ok (n := lnLen A.P.r A.P.c i) (by omega) ((ix_iw (by omega)).mp (bI_n.mp hb26))
      refine S_aload_0 (q := 32) dX9_assignmentColor_31 rfl ?_
      refine S_getR (q := 35) dX9_assignmentColor_32 fl_X9_36 (by first | assumption | rfl) (by rfl) rfl ?_
      refine S_aload_0 (q := 36) dX9_assignmentColor_35 rfl ?_
      refine S_getR (q := 39) dX9_assignmentColor_36 fl_X9_12 (by first | assumption | rfl) (by rfl) rfl ?_
      refine S_iload_1 (q := 40) dX9_assignmentColor_39 rfl ?_
      refine S_callV2v (q := 43) dX9_assignmentColor_40 lk_X9_199 (by first | assumption | rfl) rfl rfl (k_X3_load lO_69 gO_1 g0 g1 hr8 hc8 hr1 hc1 hi (by decide) gce (gcu i hi16)) rfl rfl (Nat.le_of_ble_eq_true rfl) ⟨Nat.le_of_ble_eq_true rfl, Nat.le_of_ble_eq_true rfl⟩ ⟨Nat.le_of_ble_eq_true rfl, Nat.le_of_ble_eq_true rfl⟩ rfl (fun v40 M40 hv40 => ?_)
      obtain ⟨hs1, hs2, hs3⟩ := hv40
      refine S_iload_2 (q := 44) dX9_assignmentColor_43 rfl ?_
      refine S_iconst (q := 45) (nI 0) dX9_assignmentColor_44 (by decide) rfl ?_
      refine S_aload_0 (q := 46) dX9_assignmentColor_45 rfl ?_
      refine S_getR (q := 49) dX9_assignmentColor_46 fl_X9_36 (by first | assumption | rfl) (by rfl) rfl ?_
      refine S_callV0i (q := 52) dX9_assignmentColor_49 lk_X9_203 (by first | assumption | rfl) rfl rfl (k_X3_total lO_69) rfl rfl (Nat.le_of_ble_eq_true rfl) ⟨Nat.le_of_ble_eq_true rfl, Nat.le_of_ble_eq_true rfl⟩ ⟨Nat.le_of_ble_eq_true rfl, Nat.le_of_ble_eq_true rfl⟩ rfl (fun v49 M49 hv49 => ?_)
      obtain ⟨e49, rfl⟩ := hv49
      rw [e49, hs2.2.2.2.2 0 (Nat.zero_le _) 0 (Nat.zero_le _), show wy (lnLen A.P.r A.P.c i) (A.P.R i) (A.P.len i) (A.P.col i) (fun q => A.f (lnCell A.P.r A.P.c i q)) 0 0 = wyL A.P A.f i from rfl]
      have hwl : wyL A.P A.f i < 2 ^ 30 := Nat.lt_of_le_of_lt (wy_256 (fun j z => hP.h1 i j z) hl8 (Nat.zero_le _)) (by decide)
      refine S_iconst (q := 53) (nI 1) dX9_assignmentColor_52 (by decide) rfl ?_
      refine S_isub (q := 54) dX9_assignmentColor_53 rfl ?_
      refine S_callS3i (q := 57) dX9_assignmentColor_54 lk_X9_101 (k_X9_isWithin) rfl rfl (Nat.le_of_ble_eq_true rfl) ⟨Nat.le_of_ble_eq_true rfl, Nat.le_of_ble_eq_true rfl⟩ ⟨Nat.le_of_ble_eq_true rfl, Nat.le_of_ble_eq_true rfl⟩ rfl (fun v54 M54 hv54 => ?_)
      obtain ⟨e54, rfl⟩ := hv54
      rw [e54]
      refine S_if_ne (t := 62) (q := 60) dX9_assignmentColor_57 (by decide) rfl (fun hb57 => ?_) (fun hb57 => ?_)
      · obtain ⟨m, hm, rfl, hz2⟩ := ix_ok (n := wyL A.P A.f i) (by omega) ((ix_iw (by omega)).mp (bI_n.mp hb57))
        refine S_aload_0 (q := 63) dX9_assignmentColor_62 rfl ?_
        refine S_getR (q := 66) dX9_assignmentColor_63 fl_X9_36 (by first | assumption | rfl) (by rfl) rfl ?_
        refine S_iload_2 (q := 67) dX9_assignmentColor_66 rfl ?_
        refine S_iload_3 (q := 68) dX9_assignmentColor_67 rfl ?_
        refine S_callV2i (q := 71) dX9_assignmentColor_68 lk_X9_206 (by first | assumption | rfl) rfl rfl (k_X3_colorIn lO_69 hs2 hl8 (gcu i hi16).2.1 (fun j hj => ⟨((gcu i hi16).2.2 j hj).2.1, ((gcu i hi16).2.2 j hj).2.2.1⟩) hq hm) rfl rfl (Nat.le_of_ble_eq_true rfl) ⟨Nat.le_of_ble_eq_true rfl, Nat.le_of_ble_eq_true rfl⟩ ⟨Nat.le_of_ble_eq_true rfl, Nat.le_of_ble_eq_true rfl⟩ rfl (fun v68 M68 hv68 => ?_)
        obtain ⟨e68, rfl⟩ := hv68
        rw [e68]
        exact S_iret rfl dX9_assignmentColor_71 rfl rfl (RES.scr hC (fun a ha => hs1 a (by omega)) (by unfold o_asc; rw [hl]; simp only [hz, hz2]; rfl))
      · have hz2 := ix_no (n := wyL A.P A.f i) (fun y => bI_0.mp hb57 ((ix_iw (by omega)).mpr y))
        refine S_iconst (q := 61) (-1) dX9_assignmentColor_60 (by decide) rfl ?_
        exact S_iret rfl dX9_assignmentColor_61 rfl rfl (RES.scr hC (fun a ha => hs1 a (by omega)) (by unfold o_asc; rw [hl]; simp only [hz, hz2]))
    · have hz := ix_no (n := lnLen A.P.r A.P.c i) (fun y => bI_0.mp hb26 ((ix_iw (by omega)).mpr y))
      refine S_iconst (q := 30) (-1) dX9_assignmentColor_29 (by decide) rfl ?_
      exact S_iret rfl dX9_assignmentColor_30 rfl rfl (RES.same hC (by unfold o_asc; rw [hl]; simp only [hz]))
set_option maxHeartbeats 4000000 in
set_option maxRecDepth 100000 in
theorem k_X9_countSolutions {l : Launch} {G : Gd} {b0 : Nat} {M : Mem} {A : Ab} {x : Int32}  (hC : CR M A) (hk : A.ok)  : Ct l G b0 yX9_countSolutions cX9_countSolutions 2 (some .int) (rmZ 7 166) LAY LAY M [.ref (b0 + 0), .int x] (fun v M' => RES M (o_cnt A x) v M') := by
  obtain ⟨⟨g0, g1, g2, gcu, gce⟩, hru, hbl, hbd, hsn, hss, ⟨nx, hnx, hx1, hx2, hx3⟩, ⟨htl, htx⟩, ⟨hfl, hfo⟩, htb⟩ := id hC
  have hP := hk.P
  have hr1 := hP.r1
  have hr8 := hP.r8
  have hc1 := hP.c1
  have hc8 := hP.c8
  have hk1 := hP.k1
  have hk3 := hP.k3
  have h64 := rc64 hr8 hc8
  have hH8 := hk.H8
  have hN : A.N = A.P.r + A.P.c := rfl
  refine Ct.of [some (.ref (b0 + 0)), some (.int x)] (by decide) (Nat.le_of_ble_eq_true rfl) rfl rfl ?_
  refine S_iload_1 (q := 1) dX9_countSolutions_0 rfl ?_
  refine S_iconst (q := 2) (nI 1) dX9_countSolutions_1 (by decide) rfl ?_
  refine S_bipush (q := 4) (nI 20) dX9_countSolutions_2 (by decide) rfl ?_
  refine S_callS3i (q := 7) dX9_countSolutions_4 lk_X9_101 (k_X9_isWithin) rfl rfl (Nat.le_of_ble_eq_true rfl) ⟨Nat.le_of_ble_eq_true rfl, Nat.le_of_ble_eq_true rfl⟩ ⟨Nat.le_of_ble_eq_true rfl, Nat.le_of_ble_eq_true rfl⟩ rfl (fun v4 M4 hv4 => ?_)
  obtain ⟨e4, rfl⟩ := hv4
  rw [e4]
  refine S_if_ne (t := 13) (q := 10) dX9_countSolutions_7 (by decide) rfl (fun hb7 => ?_) (fun hb7 => ?_)
  · obtain ⟨n, hn1, hn2, rfl, hn⟩ := iw_ok (by decide) (by decide) (bI_n.mp hb7)
    refine S_aload_0 (q := 14) dX9_countSolutions_13 rfl ?_
    refine S_getR (q := 17) dX9_countSolutions_14 fl_X9_57 (by first | assumption | rfl) (by rfl) rfl ?_
    refine S_aload_0 (q := 18) dX9_countSolutions_17 rfl ?_
    refine S_getR (q := 21) dX9_countSolutions_18 fl_X9_12 (by first | assumption | rfl) (by rfl) rfl ?_
    refine S_aload_0 (q := 22) dX9_countSolutions_21 rfl ?_
    refine S_getI (q := 25) dX9_countSolutions_22 fl_X9_61 (by first | assumption | rfl) (by rfl) rfl ?_
    refine S_iload_1 (q := 26) dX9_countSolutions_25 rfl ?_
    rw [hru]
    refine S_callV3v (q := 29) dX9_countSolutions_26 lk_X9_249 (by first | assumption | rfl) rfl rfl (k_X6_find zO_105 gO_1 hP g0 g1 g2 (by decide) gcu gce hk.ru hn1 hn2) rfl rfl (Nat.le_of_ble_eq_true rfl) ⟨Nat.le_of_ble_eq_true rfl, Nat.le_of_ble_eq_true rfl⟩ ⟨Nat.le_of_ble_eq_true rfl, Nat.le_of_ble_eq_true rfl⟩ rfl (fun v26 M26 hv26 => ?_)
    obtain ⟨hs1, hs2, hs3, hs4, hs5, hs6, hs7⟩ := hv26
    have hs2 : M26 105 7 = nI (A.sr (n)).1 := hs2
    have hs3 : M26 105 8 = nI (A.sr (n)).2.1 := hs3
    have hs4 : M26 105 9 = nI (if (A.sr (n)).2.2.1 then 1 else 0) := hs4
    have hs5 : (A.sr (n)).2.1 ≤ (A.sr (n)).1 := hs5
    have hs6 : (A.sr (n)).1 ≤ 60 := hs6
    refine S_aload_0 (q := 30) dX9_countSolutions_29 rfl ?_
    refine S_getR (q := 33) dX9_countSolutions_30 fl_X9_57 (by first | assumption | rfl) (by rfl) rfl ?_
    refine S_getI (q := 36) dX9_countSolutions_33 fl_X9_253 (by first | assumption | rfl) (by rfl) rfl ?_
    refine S_if_eq (t := 44) (q := 39) dX9_countSolutions_36 (by decide) rfl (fun hb36 => ?_) (fun hb36 => ?_)
    · have hF : ¬ (A.sr (n)).2.2.1 = true := fun e => absurd (hs4.symm.trans hb36) (by rw [if_pos e]; decide)
      refine S_aload_0 (q := 45) dX9_countSolutions_44 rfl ?_
      refine S_getR (q := 48) dX9_countSolutions_45 fl_X9_57 (by first | assumption | rfl) (by rfl) rfl ?_
      refine S_getI (q := 51) dX9_countSolutions_48 fl_X9_256 (by first | assumption | rfl) (by rfl) rfl ?_
      exact S_iret rfl dX9_countSolutions_51 rfl rfl (RES.scr hC (fun a ha => hs1 a (by omega)) (by unfold o_cnt; rw [show iw (nI n) 1 20 = some n from hn]; simp only [if_neg hF]; rw [hs3]))
    · have hF : (A.sr (n)).2.2.1 = true := by
        cases e : (A.sr (n)).2.2.1 with
        | true => rfl
        | false => exact absurd (by rw [hs4, e]; rfl) hb36
      refine S_bipush (q := 41) (-7) dX9_countSolutions_39 (by decide) rfl ?_
      refine S_goto (t := 51) dX9_countSolutions_41 (by decide) ?_
      exact S_iret rfl dX9_countSolutions_51 rfl rfl (RES.scr hC (fun a ha => hs1 a (by omega)) (by unfold o_cnt; rw [show iw (nI n) 1 20 = some n from hn]; simp only [if_pos hF]))
  · have hn := iw_no (bI_0.mp hb7)
    refine S_bipush (q := 12) (-2) dX9_countSolutions_10 (by decide) rfl ?_
    exact S_iret rfl dX9_countSolutions_12 rfl rfl (RES.same hC (by unfold o_cnt; rw [show iw x 1 20 = none from hn]))
set_option maxHeartbeats 4000000 in
set_option maxRecDepth 100000 in
theorem k_X9_searchNodes {l : Launch} {G : Gd} {b0 : Nat} {M : Mem} {A : Ab} {x : Int32}  (hC : CR M A) (hk : A.ok)  : Ct l G b0 yX9_searchNodes cX9_searchNodes 2 (some .int) (rmZ 7 166) LAY LAY M [.ref (b0 + 0), .int x] (fun v M' => RES M (o_nod A x) v M') := by
  obtain ⟨⟨g0, g1, g2, gcu, gce⟩, hru, hbl, hbd, hsn, hss, ⟨nx, hnx, hx1, hx2, hx3⟩, ⟨htl, htx⟩, ⟨hfl, hfo⟩, htb⟩ := id hC
  have hP := hk.P
  have hr1 := hP.r1
  have hr8 := hP.r8
  have hc1 := hP.c1
  have hc8 := hP.c8
  have hk1 := hP.k1
  have hk3 := hP.k3
  have h64 := rc64 hr8 hc8
  have hH8 := hk.H8
  have hN : A.N = A.P.r + A.P.c := rfl
  refine Ct.of [some (.ref (b0 + 0)), some (.int x)] (by decide) (Nat.le_of_ble_eq_true rfl) rfl rfl ?_
  refine S_iload_1 (q := 1) dX9_searchNodes_0 rfl ?_
  refine S_iconst (q := 2) (nI 1) dX9_searchNodes_1 (by decide) rfl ?_
  refine S_bipush (q := 4) (nI 20) dX9_searchNodes_2 (by decide) rfl ?_
  refine S_callS3i (q := 7) dX9_searchNodes_4 lk_X9_101 (k_X9_isWithin) rfl rfl (Nat.le_of_ble_eq_true rfl) ⟨Nat.le_of_ble_eq_true rfl, Nat.le_of_ble_eq_true rfl⟩ ⟨Nat.le_of_ble_eq_true rfl, Nat.le_of_ble_eq_true rfl⟩ rfl (fun v4 M4 hv4 => ?_)
  obtain ⟨e4, rfl⟩ := hv4
  rw [e4]
  refine S_if_ne (t := 13) (q := 10) dX9_searchNodes_7 (by decide) rfl (fun hb7 => ?_) (fun hb7 => ?_)
  · obtain ⟨n, hn1, hn2, rfl, hn⟩ := iw_ok (by decide) (by decide) (bI_n.mp hb7)
    refine S_aload_0 (q := 14) dX9_searchNodes_13 rfl ?_
    refine S_getR (q := 17) dX9_searchNodes_14 fl_X9_57 (by first | assumption | rfl) (by rfl) rfl ?_
    refine S_aload_0 (q := 18) dX9_searchNodes_17 rfl ?_
    refine S_getR (q := 21) dX9_searchNodes_18 fl_X9_12 (by first | assumption | rfl) (by rfl) rfl ?_
    refine S_aload_0 (q := 22) dX9_searchNodes_21 rfl ?_
    refine S_getI (q := 25) dX9_searchNodes_22 fl_X9_61 (by first | assumption | rfl) (by rfl) rfl ?_
    refine S_iload_1 (q := 26) dX9_searchNodes_25 rfl ?_
    rw [hru]
    refine S_callV3v (q := 29) dX9_searchNodes_26 lk_X9_249 (by first | assumption | rfl) rfl rfl (k_X6_find zO_105 gO_1 hP g0 g1 g2 (by decide) gcu gce hk.ru hn1 hn2) rfl rfl (Nat.le_of_ble_eq_true rfl) ⟨Nat.le_of_ble_eq_true rfl, Nat.le_of_ble_eq_true rfl⟩ ⟨Nat.le_of_ble_eq_true rfl, Nat.le_of_ble_eq_true rfl⟩ rfl (fun v26 M26 hv26 => ?_)
    obtain ⟨hs1, hs2, hs3, hs4, hs5, hs6, hs7⟩ := hv26
    have hs2 : M26 105 7 = nI (A.sr (n)).1 := hs2
    have hs3 : M26 105 8 = nI (A.sr (n)).2.1 := hs3
    have hs4 : M26 105 9 = nI (if (A.sr (n)).2.2.1 then 1 else 0) := hs4
    have hs5 : (A.sr (n)).2.1 ≤ (A.sr (n)).1 := hs5
    have hs6 : (A.sr (n)).1 ≤ 60 := hs6
    refine S_aload_0 (q := 30) dX9_searchNodes_29 rfl ?_
    refine S_getR (q := 33) dX9_searchNodes_30 fl_X9_57 (by first | assumption | rfl) (by rfl) rfl ?_
    refine S_getI (q := 36) dX9_searchNodes_33 fl_X9_253 (by first | assumption | rfl) (by rfl) rfl ?_
    refine S_if_eq (t := 44) (q := 39) dX9_searchNodes_36 (by decide) rfl (fun hb36 => ?_) (fun hb36 => ?_)
    · have hF : ¬ (A.sr (n)).2.2.1 = true := fun e => absurd (hs4.symm.trans hb36) (by rw [if_pos e]; decide)
      refine S_aload_0 (q := 45) dX9_searchNodes_44 rfl ?_
      refine S_getR (q := 48) dX9_searchNodes_45 fl_X9_57 (by first | assumption | rfl) (by rfl) rfl ?_
      refine S_getI (q := 51) dX9_searchNodes_48 fl_X9_262 (by first | assumption | rfl) (by rfl) rfl ?_
      exact S_iret rfl dX9_searchNodes_51 rfl rfl (RES.scr hC (fun a ha => hs1 a (by omega)) (by unfold o_nod; rw [show iw (nI n) 1 20 = some n from hn]; simp only [if_neg hF]; rw [hs2]))
    · have hF : (A.sr (n)).2.2.1 = true := by
        cases e : (A.sr (n)).2.2.1 with
        | true => rfl
        | false => exact absurd (by rw [hs4, e]; rfl) hb36
      refine S_bipush (q := 41) (-7) dX9_searchNodes_39 (by decide) rfl ?_
      refine S_goto (t := 51) dX9_searchNodes_41 (by decide) ?_
      exact S_iret rfl dX9_searchNodes_51 rfl rfl (RES.scr hC (fun a ha => hs1 a (by omega)) (by unfold o_nod; rw [show iw (nI n) 1 20 = some n from hn]; simp only [if_pos hF]))
  · have hn := iw_no (bI_0.mp hb7)
    refine S_bipush (q := 12) (-2) dX9_searchNodes_10 (by decide) rfl ?_
    exact S_iret rfl dX9_searchNodes_12 rfl rfl (RES.same hC (by unfold o_nod; rw [show iw x 1 20 = none from hn]))
set_option maxHeartbeats 4000000 in
set_option maxRecDepth 100000 in
theorem k_X9_isUnique {l : Launch} {G : Gd} {b0 : Nat} {M : Mem} {A : Ab}  (hC : CR M A) (hk : A.ok)  : Ct l G b0 yX9_isUnique cX9_isUnique 1 (some .int) (rmZ 7 166) LAY LAY M [.ref (b0 + 0)] (fun v M' => RES M (o_uniq A) v M') := by
  obtain ⟨⟨g0, g1, g2, gcu, gce⟩, hru, hbl, hbd, hsn, hss, ⟨nx, hnx, hx1, hx2, hx3⟩, ⟨htl, htx⟩, ⟨hfl, hfo⟩, htb⟩ := id hC
  have hP := hk.P
  have hr1 := hP.r1
  have hr8 := hP.r8
  have hc1 := hP.c1
  have hc8 := hP.c8
  have hk1 := hP.k1
  have hk3 := hP.k3
  have h64 := rc64 hr8 hc8
  have hH8 := hk.H8
  have hN : A.N = A.P.r + A.P.c := rfl
  refine Ct.of [some (.ref (b0 + 0))] (by decide) (Nat.le_of_ble_eq_true rfl) rfl rfl ?_
  refine S_aload_0 (q := 1) dX9_isUnique_0 rfl ?_
  refine S_getR (q := 4) dX9_isUnique_1 fl_X9_57 (by first | assumption | rfl) (by rfl) rfl ?_
  refine S_aload_0 (q := 5) dX9_isUnique_4 rfl ?_
  refine S_getR (q := 8) dX9_isUnique_5 fl_X9_12 (by first | assumption | rfl) (by rfl) rfl ?_
  refine S_aload_0 (q := 9) dX9_isUnique_8 rfl ?_
  refine S_getI (q := 12) dX9_isUnique_9 fl_X9_61 (by first | assumption | rfl) (by rfl) rfl ?_
  refine S_iconst (q := 13) (nI 2) dX9_isUnique_12 (by decide) rfl ?_
  rw [hru]
  refine S_callV3v (q := 16) dX9_isUnique_13 lk_X9_249 (by first | assumption | rfl) rfl rfl (k_X6_find zO_105 gO_1 hP g0 g1 g2 (by decide) gcu gce hk.ru (lim := 2) (by decide) (by decide)) rfl rfl (Nat.le_of_ble_eq_true rfl) ⟨Nat.le_of_ble_eq_true rfl, Nat.le_of_ble_eq_true rfl⟩ ⟨Nat.le_of_ble_eq_true rfl, Nat.le_of_ble_eq_true rfl⟩ rfl (fun v13 M13 hv13 => ?_)
  obtain ⟨hs1, hs2, hs3, hs4, hs5, hs6, hs7⟩ := hv13
  have hs2 : M13 105 7 = nI (A.sr (2)).1 := hs2
  have hs3 : M13 105 8 = nI (A.sr (2)).2.1 := hs3
  have hs4 : M13 105 9 = nI (if (A.sr (2)).2.2.1 then 1 else 0) := hs4
  have hs5 : (A.sr (2)).2.1 ≤ (A.sr (2)).1 := hs5
  have hs6 : (A.sr (2)).1 ≤ 60 := hs6
  refine S_aload_0 (q := 17) dX9_isUnique_16 rfl ?_
  refine S_getR (q := 20) dX9_isUnique_17 fl_X9_57 (by first | assumption | rfl) (by rfl) rfl ?_
  refine S_getI (q := 23) dX9_isUnique_20 fl_X9_253 (by first | assumption | rfl) (by rfl) rfl ?_
  refine S_if_eq (t := 29) (q := 26) dX9_isUnique_23 (by decide) rfl (fun hb23 => ?_) (fun hb23 => ?_)
  · have hF : ¬ (A.sr (2)).2.2.1 = true := fun e => absurd (hs4.symm.trans hb23) (by rw [if_pos e]; decide)
    refine S_aload_0 (q := 30) dX9_isUnique_29 rfl ?_
    refine S_getR (q := 33) dX9_isUnique_30 fl_X9_57 (by first | assumption | rfl) (by rfl) rfl ?_
    refine S_getI (q := 36) dX9_isUnique_33 fl_X9_256 (by first | assumption | rfl) (by rfl) rfl ?_
    rw [hs3]
    refine S_iconst (q := 37) (nI 1) dX9_isUnique_36 (by decide) rfl ?_
    refine S_icmp_ne (t := 44) (q := 40) dX9_isUnique_37 (by decide) rfl (fun hb37 => ?_) (fun hb37 => ?_)
    · have h1 : ¬ (A.sr 2).2.1 = 1 := fun e => hb37 (by rw [e])
      refine S_iconst (q := 45) (nI 0) dX9_isUnique_44 (by decide) rfl ?_
      exact S_iret rfl dX9_isUnique_45 rfl rfl (RES.scr hC (fun a ha => hs1 a (by omega)) (by unfold o_uniq; rw [if_neg hF, if_neg h1]))
    · have h1 : (A.sr 2).2.1 = 1 := nI_inj (by omega) (by decide) hb37
      refine S_iconst (q := 41) (nI 1) dX9_isUnique_40 (by decide) rfl ?_
      refine S_goto (t := 45) dX9_isUnique_41 (by decide) ?_
      exact S_iret rfl dX9_isUnique_45 rfl rfl (RES.scr hC (fun a ha => hs1 a (by omega)) (by unfold o_uniq; rw [if_neg hF, if_pos h1]))
  · have hF : (A.sr (2)).2.2.1 = true := by
      cases e : (A.sr (2)).2.2.1 with
      | true => rfl
      | false => exact absurd (by rw [hs4, e]; rfl) hb23
    refine S_bipush (q := 28) (-7) dX9_isUnique_26 (by decide) rfl ?_
    exact S_iret rfl dX9_isUnique_28 rfl rfl (RES.scr hC (fun a ha => hs1 a (by omega)) (by unfold o_uniq; rw [if_pos hF]))
set_option maxHeartbeats 4000000 in
set_option maxRecDepth 100000 in
theorem k_X9_solutionColor {l : Launch} {G : Gd} {b0 : Nat} {M : Mem} {A : Ab} {m x z : Int32}  (hC : CR M A) (hk : A.ok)  : Ct l G b0 yX9_solutionColor cX9_solutionColor 4 (some .int) (rmZ 7 166) LAY LAY M [.ref (b0 + 0), .int m, .int x, .int z] (fun v M' => RES M (o_sol A m x z) v M') := by
  obtain ⟨⟨g0, g1, g2, gcu, gce⟩, hru, hbl, hbd, hsn, hss, ⟨nx, hnx, hx1, hx2, hx3⟩, ⟨htl, htx⟩, ⟨hfl, hfo⟩, htb⟩ := id hC
  have hP := hk.P
  have hr1 := hP.r1
  have hr8 := hP.r8
  have hc1 := hP.c1
  have hc8 := hP.c8
  have hk1 := hP.k1
  have hk3 := hP.k3
  have h64 := rc64 hr8 hc8
  have hH8 := hk.H8
  have hN : A.N = A.P.r + A.P.c := rfl
  refine Ct.of [some (.ref (b0 + 0)), some (.int m), some (.int x), some (.int z)] (by decide) (Nat.le_of_ble_eq_true rfl) rfl rfl ?_
  refine S_iload_1 (q := 1) dX9_solutionColor_0 rfl ?_
  refine S_iconst (q := 2) (nI 0) dX9_solutionColor_1 (by decide) rfl ?_
  refine S_bipush (q := 4) (nI 19) dX9_solutionColor_2 (by decide) rfl ?_
  refine S_callS3i (q := 7) dX9_solutionColor_4 lk_X9_101 (k_X9_isWithin) rfl rfl (Nat.le_of_ble_eq_true rfl) ⟨Nat.le_of_ble_eq_true rfl, Nat.le_of_ble_eq_true rfl⟩ ⟨Nat.le_of_ble_eq_true rfl, Nat.le_of_ble_eq_true rfl⟩ rfl (fun v4 M4 hv4 => ?_)
  obtain ⟨e4, rfl⟩ := hv4
  rw [e4]
  refine S_if_ne (t := 13) (q := 10) dX9_solutionColor_7 (by decide) rfl (fun hb7 => ?_) (fun hb7 => ?_)
  · obtain ⟨m, hm2, rfl, hm⟩ := iw0 (by decide) (bI_n.mp hb7)
    refine S_aload_0 (q := 14) dX9_solutionColor_13 rfl ?_
    refine S_getR (q := 17) dX9_solutionColor_14 fl_X9_12 (by first | assumption | rfl) (by rfl) rfl ?_
    refine S_iload_2 (q := 18) dX9_solutionColor_17 rfl ?_
    refine S_iload_3 (q := 19) dX9_solutionColor_18 rfl ?_
    refine S_callV2i (q := 22) dX9_solutionColor_19 lk_X9_162 (by first | assumption | rfl) rfl rfl (k_X1_hasCell gO_1 g0 g1 hr8 hc8 hr1 hc1) rfl rfl (Nat.le_of_ble_eq_true rfl) ⟨Nat.le_of_ble_eq_true rfl, Nat.le_of_ble_eq_true rfl⟩ ⟨Nat.le_of_ble_eq_true rfl, Nat.le_of_ble_eq_true rfl⟩ rfl (fun v19 M19 hv19 => ?_)
    obtain ⟨e19, rfl⟩ := hv19
    rw [e19]
    refine S_if_ne (t := 27) (q := 25) dX9_solutionColor_22 (by decide) rfl (fun hb22 => ?_) (fun hb22 => ?_)
    · obtain ⟨i, j, hi, hj, rfl, rfl, hl⟩ := cl_ok (A := A) hP (bI_n.mp hb22)
      have hij := cel_lt hi hj
      have hij64 : i * A.P.c + j < 64 := by omega
      refine S_aload_0 (q := 28) dX9_solutionColor_27 rfl ?_
      refine S_getR (q := 31) dX9_solutionColor_28 fl_X9_57 (by first | assumption | rfl) (by rfl) rfl ?_
      refine S_aload_0 (q := 32) dX9_solutionColor_31 rfl ?_
      refine S_getR (q := 35) dX9_solutionColor_32 fl_X9_12 (by first | assumption | rfl) (by rfl) rfl ?_
      refine S_aload_0 (q := 36) dX9_solutionColor_35 rfl ?_
      refine S_getI (q := 39) dX9_solutionColor_36 fl_X9_61 (by first | assumption | rfl) (by rfl) rfl ?_
      refine S_iload_1 (q := 40) dX9_solutionColor_39 rfl ?_
      refine S_iconst (q := 41) (nI 1) dX9_solutionColor_40 (by decide) rfl ?_
      refine S_iadd (q := 42) dX9_solutionColor_41 rfl ?_
      rw [hru, nI_add]
      refine S_callV3v (q := 45) dX9_solutionColor_42 lk_X9_249 (by first | assumption | rfl) rfl rfl (k_X6_find zO_105 gO_1 hP g0 g1 g2 (by decide) gcu gce hk.ru (lim := m + 1) (by omega) (by omega)) rfl rfl (Nat.le_of_ble_eq_true rfl) ⟨Nat.le_of_ble_eq_true rfl, Nat.le_of_ble_eq_true rfl⟩ ⟨Nat.le_of_ble_eq_true rfl, Nat.le_of_ble_eq_true rfl⟩ rfl (fun v42 M42 hv42 => ?_)
      obtain ⟨hs1, hs2, hs3, hs4, hs5, hs6, hs7⟩ := hv42
      have hs2 : M42 105 7 = nI (A.sr (m + 1)).1 := hs2
      have hs3 : M42 105 8 = nI (A.sr (m + 1)).2.1 := hs3
      have hs4 : M42 105 9 = nI (if (A.sr (m + 1)).2.2.1 then 1 else 0) := hs4
      have hs5 : (A.sr (m + 1)).2.1 ≤ (A.sr (m + 1)).1 := hs5
      have hs6 : (A.sr (m + 1)).1 ≤ 60 := hs6
      refine S_aload_0 (q := 46) dX9_solutionColor_45 rfl ?_
      refine S_getR (q := 49) dX9_solutionColor_46 fl_X9_57 (by first | assumption | rfl) (by rfl) rfl ?_
      refine S_getI (q := 52) dX9_solutionColor_49 fl_X9_253 (by first | assumption | rfl) (by rfl) rfl ?_
      refine S_if_eq (t := 58) (q := 55) dX9_solutionColor_52 (by decide) rfl (fun hb52 => ?_) (fun hb52 => ?_)
      · have hF : ¬ (A.sr (m + 1)).2.2.1 = true := fun e => absurd (hs4.symm.trans hb52) (by rw [if_pos e]; decide)
        refine S_aload_0 (q := 59) dX9_solutionColor_58 rfl ?_
        refine S_getR (q := 62) dX9_solutionColor_59 fl_X9_57 (by first | assumption | rfl) (by rfl) rfl ?_
        refine S_getI (q := 65) dX9_solutionColor_62 fl_X9_256 (by first | assumption | rfl) (by rfl) rfl ?_
        rw [hs3]
        refine S_iload_1 (q := 66) dX9_solutionColor_65 rfl ?_
        refine S_icmp_le (t := 88) (q := 69) dX9_solutionColor_66 (by decide) rfl (fun hb66 => ?_) (fun hb66 => ?_)
        · have h1 : ¬ m + 1 ≤ (A.sr (m + 1)).2.1 := fun y => absurd ((nI_leI (by omega) (by omega)).mp hb66) (by omega)
          refine S_bipush (q := 90) (-8) dX9_solutionColor_88 (by decide) rfl ?_
          exact S_iret rfl dX9_solutionColor_90 rfl rfl (RES.scr hC (fun a ha => hs1 a (by omega)) (by unfold o_sol; rw [show iw (nI m) 0 19 = some m from hm]; simp only [hl, if_neg hF, if_neg h1]))
        · have h1 : m + 1 ≤ (A.sr (m + 1)).2.1 := Nat.lt_of_not_le (fun y => hb66 ((nI_leI (by omega) (by omega)).mpr y))
          have hsc := hs7 h1
          refine S_aload_0 (q := 70) dX9_solutionColor_69 rfl ?_
          refine S_getR (q := 73) dX9_solutionColor_70 fl_X9_57 (by first | assumption | rfl) (by rfl) rfl ?_
          refine S_aload_0 (q := 74) dX9_solutionColor_73 rfl ?_
          refine S_getR (q := 77) dX9_solutionColor_74 fl_X9_12 (by first | assumption | rfl) (by rfl) rfl ?_
          refine S_iload_2 (q := 78) dX9_solutionColor_77 rfl ?_
          refine S_iload_3 (q := 79) dX9_solutionColor_78 rfl ?_
          refine S_callV2i (q := 82) dX9_solutionColor_79 lk_X9_169 (by first | assumption | rfl) rfl rfl (k_X1_cellAt gO_1 (by rw [hs1 1 (by omega)]; exact g1)) rfl rfl (Nat.le_of_ble_eq_true rfl) ⟨Nat.le_of_ble_eq_true rfl, Nat.le_of_ble_eq_true rfl⟩ ⟨Nat.le_of_ble_eq_true rfl, Nat.le_of_ble_eq_true rfl⟩ rfl (fun v79 M79 hv79 => ?_)
          obtain ⟨e79, rfl⟩ := hv79
          rw [e79]
          refine S_callV1i (q := 85) dX9_solutionColor_82 lk_X9_259 (by first | assumption | rfl) rfl rfl (k_X6_lastSolutionColor zO_105 hij64 (hsc _ hij).1 (hsc _ hij).2.1 (hsc _ hij).2.2) rfl rfl (Nat.le_of_ble_eq_true rfl) ⟨Nat.le_of_ble_eq_true rfl, Nat.le_of_ble_eq_true rfl⟩ ⟨Nat.le_of_ble_eq_true rfl, Nat.le_of_ble_eq_true rfl⟩ rfl (fun v82 M82 hv82 => ?_)
          obtain ⟨e82, rfl⟩ := hv82
          rw [e82]
          refine S_goto (t := 90) dX9_solutionColor_85 (by decide) ?_
          exact S_iret rfl dX9_solutionColor_90 rfl rfl (RES.scr hC (fun a ha => hs1 a (by omega)) (by unfold o_sol; rw [show iw (nI m) 0 19 = some m from hm]; simp only [hl, if_neg hF, if_pos h1]; rfl))
      · have hF : (A.sr (m + 1)).2.2.1 = true := by
          cases e : (A.sr (m + 1)).2.2.1 with
          | true => rfl
          | false => exact absurd (by rw [hs4, e]; rfl) hb52
        refine S_bipush (q := 57) (-7) dX9_solutionColor_55 (by decide) rfl ?_
        exact S_iret rfl dX9_solutionColor_57 rfl rfl (RES.scr hC (fun a ha => hs1 a (by omega)) (by unfold o_sol; rw [show iw (nI m) 0 19 = some m from hm]; simp only [hl, if_pos hF]))
    · have hl := cl_no (A := A) (bI_0.mp hb22)
      refine S_iconst (q := 26) (-1) dX9_solutionColor_25 (by decide) rfl ?_
      exact S_iret rfl dX9_solutionColor_26 rfl rfl (RES.same hC (by unfold o_sol; rw [show iw (nI m) 0 19 = some m from hm]; simp only [hl]))
  · have hm := iw_no (bI_0.mp hb7)
    refine S_bipush (q := 12) (-2) dX9_solutionColor_10 (by decide) rfl ?_
    exact S_iret rfl dX9_solutionColor_12 rfl rfl (RES.same hC (by unfold o_sol; rw [show iw m 0 19 = none from hm]))
set_option maxHeartbeats 4000000 in
set_option maxRecDepth 100000 in
theorem k_X9_takeClues {l : Launch} {G : Gd} {b0 : Nat} {M : Mem} {A : Ab}  (hC : CR M A) (hk : A.ok)  : Ct l G b0 yX9_takeClues cX9_takeClues 1 (some .int) (rmZ 4 123) LAY LAY M [.ref (b0 + 0)] (fun v M' => RES M (o_take A) v M') := by
  obtain ⟨⟨g0, g1, g2, gcu, gce⟩, hru, hbl, hbd, hsn, hss, ⟨nx, hnx, hx1, hx2, hx3⟩, ⟨htl, htx⟩, ⟨hfl, hfo⟩, htb⟩ := id hC
  have hP := hk.P
  have hr1 := hP.r1
  have hr8 := hP.r8
  have hc1 := hP.c1
  have hc8 := hP.c8
  have hk1 := hP.k1
  have hk3 := hP.k3
  have h64 := rc64 hr8 hc8
  have hH8 := hk.H8
  have hN : A.N = A.P.r + A.P.c := rfl
  refine Ct.of [some (.ref (b0 + 0))] (by decide) (Nat.le_of_ble_eq_true rfl) rfl rfl ?_
  refine S_aload_0 (q := 1) dX9_takeClues_0 rfl ?_
  refine S_getR (q := 4) dX9_takeClues_1 fl_X9_12 (by first | assumption | rfl) (by rfl) rfl ?_
  refine S_callV0i (q := 7) dX9_takeClues_4 lk_X9_265 (by first | assumption | rfl) rfl rfl (k_X1_isAllDecided gO_1 g0 g1 hr8 hc8 gce) rfl rfl (Nat.le_of_ble_eq_true rfl) ⟨Nat.le_of_ble_eq_true rfl, Nat.le_of_ble_eq_true rfl⟩ ⟨Nat.le_of_ble_eq_true rfl, Nat.le_of_ble_eq_true rfl⟩ rfl (fun v4 M4 hv4 => ?_)
  obtain ⟨e4, rfl⟩ := hv4
  rw [e4]
  refine S_if_ne (t := 13) (q := 10) dX9_takeClues_7 (by decide) rfl (fun hb7 => ?_) (fun hb7 => ?_)
  · have hd := bI_n.mp hb7
    refine S_aload_0 (q := 14) dX9_takeClues_13 rfl ?_
    refine S_getR (q := 17) dX9_takeClues_14 fl_X9_29 (by first | assumption | rfl) (by rfl) rfl ?_
    refine S_aload_0 (q := 18) dX9_takeClues_17 rfl ?_
    refine S_getR (q := 21) dX9_takeClues_18 fl_X9_12 (by first | assumption | rfl) (by rfl) rfl ?_
    refine S_callV1v (q := 24) dX9_takeClues_21 lk_X9_134 (by first | assumption | rfl) rfl rfl (k_X2_push gO_1 (.inl (by decide)) hx1 hnx hx2 hH8) rfl rfl (Nat.le_of_ble_eq_true rfl) ⟨Nat.le_of_ble_eq_true rfl, Nat.le_of_ble_eq_true rfl⟩ ⟨Nat.le_of_ble_eq_true rfl, Nat.le_of_ble_eq_true rfl⟩ rfl (fun v21 M21 hv21 => ?_)
    have hp := PSH.of hC hk hnx hx3 hv21
    have hpf := hp.1
    refine S_aload_0 (q := 25) dX9_takeClues_24 rfl ?_
    refine S_getR (q := 28) dX9_takeClues_25 fl_X9_12 (by first | assumption | rfl) (by rfl) rfl ?_
    refine S_callV0v (q := 31) dX9_takeClues_28 lk_X9_269 (by first | assumption | rfl) rfl rfl (k_X1_describePicture gO_1 (r := A.P.r) (c := A.P.c) (f := A.f) (by rw [hpf 1 (by omega)]; exact g0) (by rw [hpf 1 (by omega)]; exact g1) hr8 hc8 hr1 hc1 (gce.fr (hpf 6 (by omega)))) rfl rfl (Nat.le_of_ble_eq_true rfl) ⟨Nat.le_of_ble_eq_true rfl, Nat.le_of_ble_eq_true rfl⟩ ⟨Nat.le_of_ble_eq_true rfl, Nat.le_of_ble_eq_true rfl⟩ rfl (fun v28 M28 hv28 => ?_)
    have hcl : CLU M28 2 (pcP A.P A.f) := PIC.clu hP gce.gf hv28.2
    refine S_aload_0 (q := 32) dX9_takeClues_31 rfl ?_
    refine S_getR (q := 35) dX9_takeClues_32 fl_X9_12 (by first | assumption | rfl) (by rfl) rfl ?_
    refine S_getR (q := 38) dX9_takeClues_35 fl_X9_128 (by first | assumption | rfl) (by rfl) rfl ?_
    refine S_callV0i (q := 41) dX9_takeClues_38 lk_X9_272 (by first | assumption | rfl) rfl rfl (k_X0_runTotal gO_1.2.1 (R := (pcP A.P A.f).R) (fun i hi => (hcl i hi).1)) rfl rfl (Nat.le_of_ble_eq_true rfl) ⟨Nat.le_of_ble_eq_true rfl, Nat.le_of_ble_eq_true rfl⟩ ⟨Nat.le_of_ble_eq_true rfl, Nat.le_of_ble_eq_true rfl⟩ rfl (fun v38 M38 hv38 => ?_)
    obtain ⟨e38, rfl⟩ := hv38
    rw [e38]
    exact S_iret rfl dX9_takeClues_41 rfl rfl (RES.to (A := A.sG (pcP A.P A.f) A.f A.ps) (hC.ed hp rfl rfl rfl (fun a ha => hv28.1 a (by omega) (by omega) (by omega)) (GR.clu (hC.1.fr (M1 := M21) (fun a _ _ => hpf a (by omega))) (hv28.1 1 (by omega) (by omega) (by omega)) (hv28.1 6 (by omega) (by omega) (by omega)) hcl)) (fun a ha => by rw [hv28.1 a (by omega) (by omega) (by omega)]; exact hpf a (by omega)) (by unfold o_take; rw [if_pos hd]))
  · have hd := bI_0.mp hb7
    refine S_bipush (q := 12) (-6) dX9_takeClues_10 (by decide) rfl ?_
    exact S_iret rfl dX9_takeClues_12 rfl rfl (RES.same hC (by unfold o_take; rw [if_neg hd]))
set_option maxHeartbeats 4000000 in
set_option maxRecDepth 100000 in
theorem k_X9_clearCells {l : Launch} {G : Gd} {b0 : Nat} {M : Mem} {A : Ab}  (hC : CR M A) (hk : A.ok)  : Ct l G b0 yX9_clearCells cX9_clearCells 2 (some .int) (rmZ 3 63) LAY LAY M [.ref (b0 + 0)] (fun v M' => RES M (o_clear A) v M') := by
  obtain ⟨⟨g0, g1, g2, gcu, gce⟩, hru, hbl, hbd, hsn, hss, ⟨nx, hnx, hx1, hx2, hx3⟩, ⟨htl, htx⟩, ⟨hfl, hfo⟩, htb⟩ := id hC
  have hP := hk.P
  have hr1 := hP.r1
  have hr8 := hP.r8
  have hc1 := hP.c1
  have hc8 := hP.c8
  have hk1 := hP.k1
  have hk3 := hP.k3
  have h64 := rc64 hr8 hc8
  have hH8 := hk.H8
  have hN : A.N = A.P.r + A.P.c := rfl
  refine Ct.of [some (.ref (b0 + 0)), none] (by decide) (Nat.le_of_ble_eq_true rfl) rfl rfl ?_
  refine S_aload_0 (q := 1) dX9_clearCells_0 rfl ?_
  refine S_getR (q := 4) dX9_clearCells_1 fl_X9_12 (by first | assumption | rfl) (by rfl) rfl ?_
  refine S_callV0i (q := 7) dX9_clearCells_4 lk_X9_190 (by first | assumption | rfl) rfl rfl (k_X1_decidedTotal gO_1 g0 g1 hr8 hc8 gce) rfl rfl (Nat.le_of_ble_eq_true rfl) ⟨Nat.le_of_ble_eq_true rfl, Nat.le_of_ble_eq_true rfl⟩ ⟨Nat.le_of_ble_eq_true rfl, Nat.le_of_ble_eq_true rfl⟩ rfl (fun v4 M4 hv4 => ?_)
  obtain ⟨e4, rfl⟩ := hv4
  rw [e4]
  refine S_istore_1 (q := 8) dX9_clearCells_7 rfl ?_
  refine S_aload_0 (q := 9) dX9_clearCells_8 rfl ?_
  refine S_getR (q := 12) dX9_clearCells_9 fl_X9_12 (by first | assumption | rfl) (by rfl) rfl ?_
  refine S_callV0v (q := 15) dX9_clearCells_12 lk_X9_279 (by first | assumption | rfl) rfl rfl (k_X1_fillCandidates gO_1 g2 hk3) rfl rfl (Nat.le_of_ble_eq_true rfl) ⟨Nat.le_of_ble_eq_true rfl, Nat.le_of_ble_eq_true rfl⟩ ⟨Nat.le_of_ble_eq_true rfl, Nat.le_of_ble_eq_true rfl⟩ rfl (fun v12 M12 hv12 => ?_)
  refine S_aload_0 (q := 16) dX9_clearCells_15 rfl ?_
  refine S_getR (q := 19) dX9_clearCells_16 fl_X9_29 (by first | assumption | rfl) (by rfl) rfl ?_
  refine S_callV0v (q := 22) dX9_clearCells_19 lk_X9_105 (by first | assumption | rfl) rfl rfl (k_X2_forget) rfl rfl (Nat.le_of_ble_eq_true rfl) ⟨Nat.le_of_ble_eq_true rfl, Nat.le_of_ble_eq_true rfl⟩ ⟨Nat.le_of_ble_eq_true rfl, Nat.le_of_ble_eq_true rfl⟩ rfl (fun v19 M19 hv19 => ?_)
  subst hv19
  refine S_iload_1 (q := 23) dX9_clearCells_22 rfl ?_
  exact S_iret rfl dX9_clearCells_23 rfl rfl (RES.to (A := A.sG A.P (fun _ => 2 ^ (A.P.k + 1) - 1) []) (hC.nil (fun a ha => by rw [up_n (by omega), hv12.1 a (by omega)]) (hC.1.ce (fun a h1 h2 => by rw [up_n (by omega), hv12.1 a (by omega)]) (fun x hx => ⟨by rw [up_n (by omega)]; exact hv12.2 x (by omega), (fl_16 hk3).1, (fl_16 hk3).2⟩)) hnx (by rw [up_eq, if_neg (by decide), hv12.1 19 (by decide)]; exact hx1) up_s) (fun a ha => by rw [up_n (by omega), hv12.1 a (by omega)]) rfl)
set_option maxHeartbeats 4000000 in
set_option maxRecDepth 100000 in
theorem k_X9_appendText {l : Launch} {G : Gd} {b0 : Nat} {M : Mem} {A : Ab} {x : Int32}  (hC : CR M A) (hk : A.ok)  : Ct l G b0 yX9_appendText cX9_appendText 2 (some .int) (rmZ 1 22) LAY LAY M [.ref (b0 + 0), .int x] (fun v M' => RES M (o_app A x) v M') := by
  obtain ⟨⟨g0, g1, g2, gcu, gce⟩, hru, hbl, hbd, hsn, hss, ⟨nx, hnx, hx1, hx2, hx3⟩, ⟨htl, htx⟩, ⟨hfl, hfo⟩, htb⟩ := id hC
  have hP := hk.P
  have hr1 := hP.r1
  have hr8 := hP.r8
  have hc1 := hP.c1
  have hc8 := hP.c8
  have hk1 := hP.k1
  have hk3 := hP.k3
  have h64 := rc64 hr8 hc8
  have hH8 := hk.H8
  have hN : A.N = A.P.r + A.P.c := rfl
  refine Ct.of [some (.ref (b0 + 0)), some (.int x)] (by decide) (Nat.le_of_ble_eq_true rfl) rfl rfl ?_
  refine S_iload_1 (q := 1) dX9_appendText_0 rfl ?_
  refine S_bipush (q := 3) (nI 32) dX9_appendText_1 (by decide) rfl ?_
  refine S_bipush (q := 5) (nI 126) dX9_appendText_3 (by decide) rfl ?_
  refine S_callS3i (q := 8) dX9_appendText_5 lk_X9_101 (k_X9_isWithin) rfl rfl (Nat.le_of_ble_eq_true rfl) ⟨Nat.le_of_ble_eq_true rfl, Nat.le_of_ble_eq_true rfl⟩ ⟨Nat.le_of_ble_eq_true rfl, Nat.le_of_ble_eq_true rfl⟩ rfl (fun v5 M5 hv5 => ?_)
  obtain ⟨e5, rfl⟩ := hv5
  rw [e5]
  refine S_if_ne (t := 14) (q := 11) dX9_appendText_8 (by decide) rfl (fun hb8 => ?_) (fun hb8 => ?_)
  · obtain ⟨ch, hx1', hx2', rfl, hx⟩ := iw_ok (by decide) (by decide) (bI_n.mp hb8)
    refine S_aload_0 (q := 15) dX9_appendText_14 rfl ?_
    refine S_getR (q := 18) dX9_appendText_15 fl_X9_76 (by first | assumption | rfl) (by rfl) rfl ?_
    refine S_iload_1 (q := 19) dX9_appendText_18 rfl ?_
    refine S_callV1i (q := 22) dX9_appendText_19 lk_X9_282 (by first | assumption | rfl) rfl rfl (k_X8_append xO_125 (by decide) htl hk.tx.1) rfl rfl (Nat.le_of_ble_eq_true rfl) ⟨Nat.le_of_ble_eq_true rfl, Nat.le_of_ble_eq_true rfl⟩ ⟨Nat.le_of_ble_eq_true rfl, Nat.le_of_ble_eq_true rfl⟩ rfl (fun v19 M19 hv19 => ?_)
    refine S_if_eq (t := 35) (q := 25) dX9_appendText_22 (by decide) rfl (fun hb22 => ?_) (fun hb22 => ?_)
    · have ht : A.tx.2 = 120 := Decidable.byContradiction (fun y => absurd ((hv19.2 (by have := hk.tx.1; omega)).1.symm.trans hb22) (by decide))
      obtain ⟨-, rfl⟩ := hv19.1 ht
      refine S_bipush (q := 37) (-3) dX9_appendText_35 (by decide) rfl ?_
      exact S_iret rfl dX9_appendText_37 rfl rfl (RES.same hC (by unfold o_app; rw [show iw (nI ch) 32 126 = some ch from hx]; simp only [if_pos ht]))
    · have ht : ¬ A.tx.2 = 120 := fun y => hb22 (hv19.1 y).1
      obtain ⟨-, rfl⟩ := hv19.2 (by have := hk.tx.1; omega)
      refine S_aload_0 (q := 26) dX9_appendText_25 rfl ?_
      refine S_getR (q := 29) dX9_appendText_26 fl_X9_76 (by first | assumption | rfl) (by rfl) rfl ?_
      refine S_getI (q := 32) dX9_appendText_29 fl_X9_284 (by first | assumption | rfl) (by rfl) rfl ?_
      refine S_goto (t := 37) dX9_appendText_32 (by decide) ?_
      exact S_iret rfl dX9_appendText_37 rfl rfl (RES.to (A := A.sT (psh A.tx ch)) (hC.text (fun a h1 h2 => by rw [up_n h1, up_n h2]) (TX.psh ⟨htl, htx⟩)) (fun a ha => by rw [up_n (by omega), up_n (by omega)]) (by unfold o_app; rw [show iw (nI ch) 32 126 = some ch from hx]; simp only [if_neg ht]; rw [up_s]; rfl))
  · have hx := iw_no (bI_0.mp hb8)
    refine S_bipush (q := 13) (-2) dX9_appendText_11 (by decide) rfl ?_
    exact S_iret rfl dX9_appendText_13 rfl rfl (RES.same hC (by unfold o_app; rw [show iw x 32 126 = none from hx]))
set_option maxHeartbeats 4000000 in
set_option maxRecDepth 100000 in
theorem k_X9_formattedCharacter {l : Launch} {G : Gd} {b0 : Nat} {M : Mem} {A : Ab} {x : Int32}  (hC : CR M A) (hk : A.ok)  : Ct l G b0 yX9_formattedCharacter cX9_formattedCharacter 2 (some .int) (rmZ 1 22) LAY LAY M [.ref (b0 + 0), .int x] (fun v M' => RES M (o_fch A x) v M') := by
  obtain ⟨⟨g0, g1, g2, gcu, gce⟩, hru, hbl, hbd, hsn, hss, ⟨nx, hnx, hx1, hx2, hx3⟩, ⟨htl, htx⟩, ⟨hfl, hfo⟩, htb⟩ := id hC
  have hP := hk.P
  have hr1 := hP.r1
  have hr8 := hP.r8
  have hc1 := hP.c1
  have hc8 := hP.c8
  have hk1 := hP.k1
  have hk3 := hP.k3
  have h64 := rc64 hr8 hc8
  have hH8 := hk.H8
  have hN : A.N = A.P.r + A.P.c := rfl
  refine Ct.of [some (.ref (b0 + 0)), some (.int x)] (by decide) (Nat.le_of_ble_eq_true rfl) rfl rfl ?_
  refine S_iload_1 (q := 1) dX9_formattedCharacter_0 rfl ?_
  refine S_iconst (q := 2) (nI 0) dX9_formattedCharacter_1 (by decide) rfl ?_
  refine S_aload_0 (q := 3) dX9_formattedCharacter_2 rfl ?_
  refine S_getR (q := 6) dX9_formattedCharacter_3 fl_X9_80 (by first | assumption | rfl) (by rfl) rfl ?_
  refine S_getI (q := 9) dX9_formattedCharacter_6 fl_X9_284 (by first | assumption | rfl) (by rfl) rfl ?_
  rw [hfl]
  refine S_iconst (q := 10) (nI 1) dX9_formattedCharacter_9 (by decide) rfl ?_
  refine S_isub (q := 11) dX9_formattedCharacter_10 rfl ?_
  refine S_callS3i (q := 14) dX9_formattedCharacter_11 lk_X9_101 (k_X9_isWithin) rfl rfl (Nat.le_of_ble_eq_true rfl) ⟨Nat.le_of_ble_eq_true rfl, Nat.le_of_ble_eq_true rfl⟩ ⟨Nat.le_of_ble_eq_true rfl, Nat.le_of_ble_eq_true rfl⟩ rfl (fun v11 M11 hv11 => ?_)
  obtain ⟨e11, rfl⟩ := hv11
  rw [e11]
  refine S_if_eq (t := 29) (q := 17) dX9_formattedCharacter_14 (by decide) rfl (fun hb14 => ?_) (fun hb14 => ?_)
  · have hx := ix_no (n := A.fo.2) (fun y => bI_0.mp hb14 ((ix_iw (by have := hk.fo; omega)).mpr y))
    refine S_iconst (q := 30) (-1) dX9_formattedCharacter_29 (by decide) rfl ?_
    exact S_iret rfl dX9_formattedCharacter_30 rfl rfl (RES.same hC (by unfold o_fch; rw [hx]))
  · obtain ⟨j, hj, rfl, hx⟩ := ix_ok (n := A.fo.2) (by have := hk.fo; omega) ((ix_iw (by have := hk.fo; omega)).mp (bI_n.mp hb14))
    refine S_aload_0 (q := 18) dX9_formattedCharacter_17 rfl ?_
    refine S_getR (q := 21) dX9_formattedCharacter_18 fl_X9_80 (by first | assumption | rfl) (by rfl) rfl ?_
    refine S_getR (q := 24) dX9_formattedCharacter_21 fl_X9_296 (by first | assumption | rfl) (by rfl) rfl ?_
    refine S_iload_1 (q := 25) dX9_formattedCharacter_24 rfl ?_
    refine S_ialdV (i := j) (val := nI (A.fo.1 j)) (q := 26) dX9_formattedCharacter_25 (by first | assumption | rfl) (by first | (simp only [nI_add, pk_mul, nI_1]; done) | rfl) (by have := hk.fo; omega) (by decide) (hfo j hj) rfl ?_
    refine S_goto (t := 30) dX9_formattedCharacter_26 (by decide) ?_
    exact S_iret rfl dX9_formattedCharacter_30 rfl rfl (RES.same hC (by unfold o_fch; rw [hx]))
set_option maxHeartbeats 4000000 in
set_option maxRecDepth 100000 in
theorem k_X9_undo {l : Launch} {G : Gd} {b0 : Nat} {M : Mem} {A : Ab}  (hC : CR M A) (hk : A.ok)  : Ct l G b0 yX9_undo cX9_undo 1 (some .int) (rmZ 4 123) LAY LAY M [.ref (b0 + 0)] (fun v M' => RES M (o_undo A) v M') := by
  obtain ⟨⟨g0, g1, g2, gcu, gce⟩, hru, hbl, hbd, hsn, hss, ⟨nx, hnx, hx1, hx2, hx3⟩, ⟨htl, htx⟩, ⟨hfl, hfo⟩, htb⟩ := id hC
  have hP := hk.P
  have hr1 := hP.r1
  have hr8 := hP.r8
  have hc1 := hP.c1
  have hc8 := hP.c8
  have hk1 := hP.k1
  have hk3 := hP.k3
  have h64 := rc64 hr8 hc8
  have hH8 := hk.H8
  have hN : A.N = A.P.r + A.P.c := rfl
  refine Ct.of [some (.ref (b0 + 0))] (by decide) (Nat.le_of_ble_eq_true rfl) rfl rfl ?_
  refine S_aload_0 (q := 1) dX9_undo_0 rfl ?_
  refine S_getR (q := 4) dX9_undo_1 fl_X9_29 (by first | assumption | rfl) (by rfl) rfl ?_
  refine S_aload_0 (q := 5) dX9_undo_4 rfl ?_
  refine S_getR (q := 8) dX9_undo_5 fl_X9_12 (by first | assumption | rfl) (by rfl) rfl ?_
  refine S_callV1i (q := 11) dX9_undo_8 lk_X9_299 (by first | assumption | rfl) rfl rfl (k_X2_pop gO_1 (.inl (by decide)) hx1 hnx hx2 hH8) rfl rfl (Nat.le_of_ble_eq_true rfl) ⟨Nat.le_of_ble_eq_true rfl, Nat.le_of_ble_eq_true rfl⟩ ⟨Nat.le_of_ble_eq_true rfl, Nat.le_of_ble_eq_true rfl⟩ rfl (fun v8 M8 hv8 => ?_)
  refine S_if_eq (t := 24) (q := 14) dX9_undo_11 (by decide) rfl (fun hb11 => ?_) (fun hb11 => ?_)
  · have hn : A.H.length = 0 := Decidable.byContradiction (fun y => absurd ((hv8.2 y).1.symm.trans hb11) (by decide))
    obtain ⟨-, rfl⟩ := hv8.1 hn
    have hH : A.H = [] := List.length_eq_zero_iff.mp hn
    refine S_bipush (q := 26) (-8) dX9_undo_24 (by decide) rfl ?_
    exact S_iret rfl dX9_undo_26 rfl rfl (RES.same hC (by unfold o_undo; rw [hH]))
  · have hn : A.H.length ≠ 0 := fun y => hb11 (hv8.1 y).1
    obtain ⟨-, hs1, hs2, hs3, hs4⟩ := hv8.2 hn
    obtain ⟨e, t, hH⟩ : ∃ e t, A.H = e :: t := List.exists_cons_of_length_pos (by omega)
    have he0 := hx3 0 e (by rw [hH]; rfl)
    have hPe := hk.H e (by rw [hH]; exact List.mem_cons_self)
    rw [hH] at hs4
    rw [hH] at hH8
    simp only [List.length_cons] at hs4 hH8
    refine S_aload_0 (q := 15) dX9_undo_14 rfl ?_
    refine S_getR (q := 18) dX9_undo_15 fl_X9_29 (by first | assumption | rfl) (by rfl) rfl ?_
    refine S_getI (q := 21) dX9_undo_18 fl_X9_302 (by first | assumption | rfl) (by rfl) rfl ?_
    refine S_goto (t := 26) dX9_undo_21 (by decide) ?_
    exact S_iret rfl dX9_undo_26 rfl rfl (RES.to (A := A.sG (hPx A.P e) (hF e) t) (hC.grid (fun a ha => hs1 a (by omega) (by omega)) (GR.cpy he0 hPe.1 hs2) ⟨(nx + 7) % 8, Nat.mod_lt _ (by decide), hs3, hs4, fun s e' he' => by
              have hs7 : s < 7 := by have := (List.getElem?_eq_some_iff.mp he').1; omega
              have := hx3 (s + 1) e' (by rw [hH]; exact he')
              rw [show (nx + 7 - (s + 1)) % 8 = ((nx + 7) % 8 + 7 - s) % 8 by omega] at this
              exact this.fr (fun a a1 a2 => hs1 a (by have := hst_in ((nx + 7) % 8) s; omega) (by have := hst_in ((nx + 7) % 8) s; omega))⟩) (fun a ha => hs1 a (by omega) (by omega)) (by unfold o_undo; rw [hH]; simp only; rw [hs4]; rfl))
set_option maxHeartbeats 4000000 in
set_option maxRecDepth 100000 in
theorem k_X9_save {l : Launch} {G : Gd} {b0 : Nat} {M : Mem} {A : Ab}  (hC : CR M A) (hk : A.ok)  : Ct l G b0 yX9_save cX9_save 1 (some .int) (rmZ 3 102) LAY LAY M [.ref (b0 + 0)] (fun v M' => RES M (o_save A) v M') := by
  obtain ⟨⟨g0, g1, g2, gcu, gce⟩, hru, hbl, hbd, hsn, hss, ⟨nx, hnx, hx1, hx2, hx3⟩, ⟨htl, htx⟩, ⟨hfl, hfo⟩, htb⟩ := id hC
  have hP := hk.P
  have hr1 := hP.r1
  have hr8 := hP.r8
  have hc1 := hP.c1
  have hc8 := hP.c8
  have hk1 := hP.k1
  have hk3 := hP.k3
  have h64 := rc64 hr8 hc8
  have hH8 := hk.H8
  have hN : A.N = A.P.r + A.P.c := rfl
  refine Ct.of [some (.ref (b0 + 0))] (by decide) (Nat.le_of_ble_eq_true rfl) rfl rfl ?_
  refine S_aload_0 (q := 1) dX9_save_0 rfl ?_
  refine S_getR (q := 4) dX9_save_1 fl_X9_19 (by first | assumption | rfl) (by rfl) rfl ?_
  refine S_aload_0 (q := 5) dX9_save_4 rfl ?_
  refine S_getR (q := 8) dX9_save_5 fl_X9_12 (by first | assumption | rfl) (by rfl) rfl ?_
  refine S_callV1v (q := 11) dX9_save_8 lk_X9_209 (by first | assumption | rfl) rfl rfl (k_X1_copyFrom gO_13 gO_1 (by decide)) rfl rfl (Nat.le_of_ble_eq_true rfl) ⟨Nat.le_of_ble_eq_true rfl, Nat.le_of_ble_eq_true rfl⟩ ⟨Nat.le_of_ble_eq_true rfl, Nat.le_of_ble_eq_true rfl⟩ rfl (fun v8 M8 hv8 => ?_)
  refine S_aload_0 (q := 12) dX9_save_11 rfl ?_
  refine S_iconst (q := 13) (nI 1) dX9_save_12 (by decide) rfl ?_
  refine S_putI (q := 16) dX9_save_13 fp_X9_22 (by first | assumption | rfl) (by rfl) (by rfl) (by rfl) rfl ?_
  refine S_aload_0 (q := 17) dX9_save_16 rfl ?_
  refine S_getR (q := 20) dX9_save_17 fl_X9_12 (by first | assumption | rfl) (by rfl) rfl ?_
  refine S_callV0i (q := 23) dX9_save_20 lk_X9_190 (by first | assumption | rfl) rfl rfl (k_X1_decidedTotal gO_1 (r := A.P.r) (c := A.P.c) (f := A.f) (by rw [up_n (by omega), hv8.1 1 (by omega)]; exact g0) (by rw [up_n (by omega), hv8.1 1 (by omega)]; exact g1) hr8 hc8 (gce.fr (by rw [up_n (by omega), hv8.1 _ (by omega)]))) rfl rfl (Nat.le_of_ble_eq_true rfl) ⟨Nat.le_of_ble_eq_true rfl, Nat.le_of_ble_eq_true rfl⟩ ⟨Nat.le_of_ble_eq_true rfl, Nat.le_of_ble_eq_true rfl⟩ rfl (fun v20 M20 hv20 => ?_)
  obtain ⟨e20, rfl⟩ := hv20
  rw [e20]
  exact S_iret rfl dX9_save_23 rfl rfl (RES.to (A := mkA A.P A.f A.H A.ru A.bad A.tx A.fo A.tb (some (A.P, A.f))) (hC.zero (fun a h1 h2 => by rw [up_n h1, hv8.1 a (by omega)]) (by rw [up_eq, if_neg (by decide), hv8.1 0 (by omega)]; exact hru) (by rw [up_eq, if_neg (by decide), hv8.1 0 (by omega)]; exact hbl) (by rw [up_eq, if_neg (by decide), hv8.1 0 (by omega)]; exact hbd) up_s (fun P f e => by cases e; exact (hC.1.cpy hP hv8.2).fr (fun a _ _ => up_n (by omega)))) (fun a ha => by rw [up_n (by omega), hv8.1 a (by omega)]) rfl)
set_option maxHeartbeats 4000000 in
set_option maxRecDepth 100000 in
theorem k_X9_restore {l : Launch} {G : Gd} {b0 : Nat} {M : Mem} {A : Ab}  (hC : CR M A) (hk : A.ok)  : Ct l G b0 yX9_restore cX9_restore 1 (some .int) (rmZ 3 102) LAY LAY M [.ref (b0 + 0)] (fun v M' => RES M (o_rest A) v M') := by
  obtain ⟨⟨g0, g1, g2, gcu, gce⟩, hru, hbl, hbd, hsn, hss, ⟨nx, hnx, hx1, hx2, hx3⟩, ⟨htl, htx⟩, ⟨hfl, hfo⟩, htb⟩ := id hC
  have hP := hk.P
  have hr1 := hP.r1
  have hr8 := hP.r8
  have hc1 := hP.c1
  have hc8 := hP.c8
  have hk1 := hP.k1
  have hk3 := hP.k3
  have h64 := rc64 hr8 hc8
  have hH8 := hk.H8
  have hN : A.N = A.P.r + A.P.c := rfl
  refine Ct.of [some (.ref (b0 + 0))] (by decide) (Nat.le_of_ble_eq_true rfl) rfl rfl ?_
  refine S_aload_0 (q := 1) dX9_restore_0 rfl ?_
  refine S_getI (q := 4) dX9_restore_1 fl_X9_22 (by first | assumption | rfl) (by rfl) rfl ?_
  refine S_if_ne (t := 10) (q := 7) dX9_restore_4 (by decide) rfl (fun hb4 => ?_) (fun hb4 => ?_)
  · obtain ⟨P1, f1, hq⟩ : ∃ P1 f1, A.sn = some (P1, f1) := by
      cases e : A.sn with
      | none => rw [e] at hsn; exact absurd hsn hb4
      | some q => exact ⟨q.1, q.2, rfl⟩
    have hP1 := (hk.sn P1 f1 hq).1
    refine S_aload_0 (q := 11) dX9_restore_10 rfl ?_
    refine S_getR (q := 14) dX9_restore_11 fl_X9_12 (by first | assumption | rfl) (by rfl) rfl ?_
    refine S_aload_0 (q := 15) dX9_restore_14 rfl ?_
    refine S_getR (q := 18) dX9_restore_15 fl_X9_19 (by first | assumption | rfl) (by rfl) rfl ?_
    refine S_callV1v (q := 21) dX9_restore_18 lk_X9_209 (by first | assumption | rfl) rfl rfl (k_X1_copyFrom gO_1 gO_13 (by decide)) rfl rfl (Nat.le_of_ble_eq_true rfl) ⟨Nat.le_of_ble_eq_true rfl, Nat.le_of_ble_eq_true rfl⟩ ⟨Nat.le_of_ble_eq_true rfl, Nat.le_of_ble_eq_true rfl⟩ rfl (fun v18 M18 hv18 => ?_)
    have hG1 : GR M18 1 P1 f1 := (hss P1 f1 hq).cpy hP1 hv18.2
    refine S_aload_0 (q := 22) dX9_restore_21 rfl ?_
    refine S_getR (q := 25) dX9_restore_22 fl_X9_29 (by first | assumption | rfl) (by rfl) rfl ?_
    refine S_callV0v (q := 28) dX9_restore_25 lk_X9_105 (by first | assumption | rfl) rfl rfl (k_X2_forget) rfl rfl (Nat.le_of_ble_eq_true rfl) ⟨Nat.le_of_ble_eq_true rfl, Nat.le_of_ble_eq_true rfl⟩ ⟨Nat.le_of_ble_eq_true rfl, Nat.le_of_ble_eq_true rfl⟩ rfl (fun v25 M25 hv25 => ?_)
    subst hv25
    refine S_aload_0 (q := 29) dX9_restore_28 rfl ?_
    refine S_callV0v (q := 32) dX9_restore_29 lk_X9_108 (by first | assumption | rfl) rfl rfl (k_X9_forgetContradiction) rfl rfl (Nat.le_of_ble_eq_true rfl) ⟨Nat.le_of_ble_eq_true rfl, Nat.le_of_ble_eq_true rfl⟩ ⟨Nat.le_of_ble_eq_true rfl, Nat.le_of_ble_eq_true rfl⟩ rfl (fun v29 M29 hv29 => ?_)
    subst hv29
    refine S_aload_0 (q := 33) dX9_restore_32 rfl ?_
    refine S_getR (q := 36) dX9_restore_33 fl_X9_12 (by first | assumption | rfl) (by rfl) rfl ?_
    refine S_callV0i (q := 39) dX9_restore_36 lk_X9_190 (by first | assumption | rfl) rfl rfl (k_X1_decidedTotal gO_1 (r := P1.r) (c := P1.c) (f := f1) (by rw [up_n (by omega), up_n (by omega), up_n (by omega)]; exact hG1.1) (by rw [up_n (by omega), up_n (by omega), up_n (by omega)]; exact hG1.2.1) hP1.r8 hP1.c8 (hG1.2.2.2.2.fr (by rw [up_n (by omega), up_n (by omega), up_n (by omega)]))) rfl rfl (Nat.le_of_ble_eq_true rfl) ⟨Nat.le_of_ble_eq_true rfl, Nat.le_of_ble_eq_true rfl⟩ ⟨Nat.le_of_ble_eq_true rfl, Nat.le_of_ble_eq_true rfl⟩ rfl (fun v36 M36 hv36 => ?_)
    obtain ⟨e36, rfl⟩ := hv36
    rw [e36]
    exact S_iret rfl dX9_restore_39 rfl rfl (RES.to (A := (A.sG P1 f1 []).sB none) (CR.bad (hC.nil (fun a ha => by rw [up_n (by omega), hv18.1 a (by omega)]) (hG1.fr (fun a _ _ => up_n (by omega))) hnx (by rw [up_eq, if_neg (by decide), hv18.1 19 (by omega)]; exact hx1) up_s) rfl rfl) (fun a ha => by rw [up_n (by omega), up_n (by omega), up_n (by omega), hv18.1 a (by omega)]) (by unfold o_rest; rw [hq]))
  · have hq : A.sn = none := by
      cases e : A.sn with
      | none => rfl
      | some q => rw [e] at hsn; exact absurd (show nI 1 = 0 from hsn.symm.trans hb4) (by decide)
    refine S_bipush (q := 9) (-8) dX9_restore_7 (by decide) rfl ?_
    exact S_iret rfl dX9_restore_9 rfl rfl (RES.same hC (by unfold o_rest; rw [hq]))
set_option maxHeartbeats 4000000 in
set_option maxRecDepth 100000 in
theorem k_X9_createTable {l : Launch} {G : Gd} {b0 : Nat} {M : Mem} {A : Ab} {x y n : Int32}  (hC : CR M A) (hk : A.ok)  : Ct l G b0 yX9_createTable cX9_createTable 4 (some .int) (rmZ 2 45) LAY LAY M [.ref (b0 + 0), .int x, .int y, .int n] (fun v M' => RES M (o_ctab A x y n) v M') := by
  obtain ⟨⟨g0, g1, g2, gcu, gce⟩, hru, hbl, hbd, hsn, hss, ⟨nx, hnx, hx1, hx2, hx3⟩, ⟨htl, htx⟩, ⟨hfl, hfo⟩, htb⟩ := id hC
  have hP := hk.P
  have hr1 := hP.r1
  have hr8 := hP.r8
  have hc1 := hP.c1
  have hc8 := hP.c8
  have hk1 := hP.k1
  have hk3 := hP.k3
  have h64 := rc64 hr8 hc8
  have hH8 := hk.H8
  have hN : A.N = A.P.r + A.P.c := rfl
  refine Ct.of [some (.ref (b0 + 0)), some (.int x), some (.int y), some (.int n)] (by decide) (Nat.le_of_ble_eq_true rfl) rfl rfl ?_
  refine S_iload_1 (q := 1) dX9_createTable_0 rfl ?_
  refine S_callS1i (q := 4) dX9_createTable_1 lk_X9_305 (k_X9_hasTable) rfl rfl (Nat.le_of_ble_eq_true rfl) ⟨Nat.le_of_ble_eq_true rfl, Nat.le_of_ble_eq_true rfl⟩ ⟨Nat.le_of_ble_eq_true rfl, Nat.le_of_ble_eq_true rfl⟩ rfl (fun v1 M1 hv1 => ?_)
  obtain ⟨e1, rfl⟩ := hv1
  rw [e1]
  refine S_if_eq (t := 22) (q := 7) dX9_createTable_4 (by decide) rfl (fun hb4 => ?_) (fun hb4 => ?_)
  · have hq := ix_no (bI_0.mp hb4)
    refine S_bipush (q := 24) (-2) dX9_createTable_22 (by decide) rfl ?_
    exact S_iret rfl dX9_createTable_24 rfl rfl (RES.same hC (by unfold o_ctab; rw [hq]))
  · obtain ⟨t, ht, rfl, hq⟩ := ix_ok (n := 3) (by decide) (bI_n.mp hb4)
    refine S_iload_2 (q := 8) dX9_createTable_7 rfl ?_
    refine S_iconst (q := 9) (nI 0) dX9_createTable_8 (by decide) rfl ?_
    refine S_iconst (q := 10) (nI 2) dX9_createTable_9 (by decide) rfl ?_
    refine S_callS3i (q := 13) dX9_createTable_10 lk_X9_101 (k_X9_isWithin) rfl rfl (Nat.le_of_ble_eq_true rfl) ⟨Nat.le_of_ble_eq_true rfl, Nat.le_of_ble_eq_true rfl⟩ ⟨Nat.le_of_ble_eq_true rfl, Nat.le_of_ble_eq_true rfl⟩ rfl (fun v10 M10 hv10 => ?_)
    obtain ⟨e10, rfl⟩ := hv10
    rw [e10]
    refine S_if_eq (t := 22) (q := 16) dX9_createTable_13 (by decide) rfl (fun hb13 => ?_) (fun hb13 => ?_)
    · have hy := iw_no (bI_0.mp hb13)
      refine S_bipush (q := 24) (-2) dX9_createTable_22 (by decide) rfl ?_
      exact S_iret rfl dX9_createTable_24 rfl rfl (RES.same hC (by unfold o_ctab; rw [hq]; simp only; rw [show iw y 0 2 = none from hy]))
    · obtain ⟨ty, hty, rfl, hy⟩ := iw0 (by decide) (bI_n.mp hb13)
      refine S_iload_3 (q := 17) dX9_createTable_16 rfl ?_
      refine S_bipush (q := 19) (nI 64) dX9_createTable_17 (by decide) rfl ?_
      refine S_icmp_le (t := 25) (q := 22) dX9_createTable_19 (by decide) rfl (fun hb19 => ?_) (fun hb19 => ?_)
      · have hn : ¬ nI 64 < n := Int32.not_lt.mpr hb19
        refine S_iload_3 (q := 26) dX9_createTable_25 rfl ?_
        refine S_if_ge (t := 32) (q := 29) dX9_createTable_26 (by decide) rfl (fun hb26 => ?_) (fun hb26 => ?_)
        · have hn0 : ¬ n < 0 := Int32.not_lt.mpr hb26
          obtain ⟨m, hm, rfl⟩ := nI_of hn0
          have hm64 : m ≤ 64 := Nat.le_of_not_lt (fun y => hn ((nI_ltI (by decide) hm).mpr y))
          refine S_aload_0 (q := 33) dX9_createTable_32 rfl ?_
          refine S_getR (q := 36) dX9_createTable_33 fl_X9_93 (by first | assumption | rfl | exact (tst_t t ht).1 | exact (tst_t t ht).2) (by rfl) rfl ?_
          refine S_iload_1 (q := 37) dX9_createTable_36 rfl ?_
          refine S_aald (q := 38) dX9_createTable_37 (by first | assumption | rfl | exact (tst_t t ht).1 | exact (tst_t t ht).2) (by decide) (by exact vp_in_nI (N := 3) ht (by decide)) (by rw [nI_clamp (by omega)]; exact tst_at t ht) rfl ?_
          refine S_iload_2 (q := 39) dX9_createTable_38 rfl ?_
          refine S_iload_3 (q := 40) dX9_createTable_39 rfl ?_
          refine S_callV2v (q := 43) dX9_createTable_40 lk_X9_308 (by first | assumption | rfl | exact (tst_t t ht).1 | exact (tst_t t ht).2) rfl rfl (k_X7_start (tst_t t ht)) rfl rfl (Nat.le_of_ble_eq_true rfl) ⟨Nat.le_of_ble_eq_true rfl, Nat.le_of_ble_eq_true rfl⟩ ⟨Nat.le_of_ble_eq_true rfl, Nat.le_of_ble_eq_true rfl⟩ rfl (fun v40 M40 hv40 => ?_)
          refine S_iconst (q := 44) (nI 1) dX9_createTable_43 (by decide) rfl ?_
          exact S_iret rfl dX9_createTable_44 rfl rfl (RES.to (A := A.sE t (ty, m, fun _ => nI 0)) (hC.tab ht (fun a h1 h2 => hv40.1 a h1 (by omega)) hv40.2.1 hv40.2.2.1 (fun j hj => by rw [show 135 + 2 * t = 134 + 2 * t + 1 by omega]; exact hv40.2.2.2 j hj)) (fun a ha => hv40.1 a (by omega) (by omega)) (by unfold o_ctab; rw [hq]; simp only; rw [show iw (nI ty) 0 2 = some ty from hy]; simp only [if_neg hn, if_neg hn0]; rw [nI_clamp hm]))
        · have hn0 : n < 0 := Int32.not_le.mp hb26
          refine S_bipush (q := 31) (-14) dX9_createTable_29 (by decide) rfl ?_
          exact S_iret rfl dX9_createTable_31 rfl rfl (RES.same hC (by unfold o_ctab; rw [hq]; simp only; rw [show iw (nI ty) 0 2 = some ty from hy]; simp only [if_neg hn, if_pos hn0]))
      · have hn : nI 64 < n := Int32.not_le.mp hb19
        refine S_bipush (q := 24) (-2) dX9_createTable_22 (by decide) rfl ?_
        exact S_iret rfl dX9_createTable_24 rfl rfl (RES.same hC (by unfold o_ctab; rw [hq]; simp only; rw [show iw (nI ty) 0 2 = some ty from hy]; simp only [if_pos hn]))
set_option maxHeartbeats 4000000 in
set_option maxRecDepth 100000 in
theorem k_X9_writeTable {l : Launch} {G : Gd} {b0 : Nat} {M : Mem} {A : Ab} {x y v0 : Int32}  (hC : CR M A) (hk : A.ok)  : Ct l G b0 yX9_writeTable cX9_writeTable 5 (some .int) (rmZ 4 86) LAY LAY M [.ref (b0 + 0), .int x, .int y, .int v0] (fun v M' => RES M (o_wtab A x y v0) v M') := by
  obtain ⟨⟨g0, g1, g2, gcu, gce⟩, hru, hbl, hbd, hsn, hss, ⟨nx, hnx, hx1, hx2, hx3⟩, ⟨htl, htx⟩, ⟨hfl, hfo⟩, htb⟩ := id hC
  have hP := hk.P
  have hr1 := hP.r1
  have hr8 := hP.r8
  have hc1 := hP.c1
  have hc8 := hP.c8
  have hk1 := hP.k1
  have hk3 := hP.k3
  have h64 := rc64 hr8 hc8
  have hH8 := hk.H8
  have hN : A.N = A.P.r + A.P.c := rfl
  refine Ct.of [some (.ref (b0 + 0)), some (.int x), some (.int y), some (.int v0), none] (by decide) (Nat.le_of_ble_eq_true rfl) rfl rfl ?_
  refine S_aload_0 (q := 1) dX9_writeTable_0 rfl ?_
  refine S_iload_1 (q := 2) dX9_writeTable_1 rfl ?_
  refine S_iload_2 (q := 3) dX9_writeTable_2 rfl ?_
  refine S_callV2i (q := 6) dX9_writeTable_3 lk_X9_311 (by first | assumption | rfl | exact (tst_t t ht).1 | exact (tst_t t ht).2) rfl rfl (k_X9_elementError hC hk) rfl rfl (Nat.le_of_ble_eq_true rfl) ⟨Nat.le_of_ble_eq_true rfl, Nat.le_of_ble_eq_true rfl⟩ ⟨Nat.le_of_ble_eq_true rfl, Nat.le_of_ble_eq_true rfl⟩ rfl (fun v3 M3 hv3 => ?_)
  obtain ⟨e3, rfl⟩ := hv3
  rw [e3]
  refine S_istore_4 (q := 8) dX9_writeTable_6 rfl ?_
  refine S_iload_4 (q := 10) dX9_writeTable_8 rfl ?_
  refine S_if_eq (t := 16) (q := 13) dX9_writeTable_10 (by decide) rfl (fun hb10 => ?_) (fun hb10 => ?_)
  · obtain ⟨t, ty, n, it, j, ht, rfl, hj, rfl, hq, hn, hz⟩ := eE_0 hk hb10
    have h64n := (hk.tb t ty n it hn).2.1
    obtain ⟨q1, q2, q3⟩ := (htb t ht).2 ty n it hn
    refine S_aload_0 (q := 17) dX9_writeTable_16 rfl ?_
    refine S_getR (q := 20) dX9_writeTable_17 fl_X9_93 (by first | assumption | rfl | exact (tst_t t ht).1 | exact (tst_t t ht).2) (by rfl) rfl ?_
    refine S_iload_1 (q := 21) dX9_writeTable_20 rfl ?_
    refine S_aald (q := 22) dX9_writeTable_21 (by first | assumption | rfl | exact (tst_t t ht).1 | exact (tst_t t ht).2) (by decide) (by exact vp_in_nI (N := 3) ht (by decide)) (by rw [nI_clamp (by omega)]; exact tst_at t ht) rfl ?_
    refine S_iload_2 (q := 23) dX9_writeTable_22 rfl ?_
    refine S_iload_3 (q := 24) dX9_writeTable_23 rfl ?_
    refine S_callV2v (q := 27) dX9_writeTable_24 lk_X9_314 (by first | assumption | rfl | exact (tst_t t ht).1 | exact (tst_t t ht).2) rfl rfl (k_X7_store (tst_t t ht) (show j < 64 by omega) q1 (hk.tb t ty n it hn).1) rfl rfl (Nat.le_of_ble_eq_true rfl) ⟨Nat.le_of_ble_eq_true rfl, Nat.le_of_ble_eq_true rfl⟩ ⟨Nat.le_of_ble_eq_true rfl, Nat.le_of_ble_eq_true rfl⟩ rfl (fun v24 M24 hv24 => ?_)
    subst hv24
    refine S_iconst (q := 28) (nI 1) dX9_writeTable_27 (by decide) rfl ?_
    exact S_iret rfl dX9_writeTable_28 rfl rfl (RES.to (A := A.sE t (ty, n, fun z => if z = j then kpV ty v0 else it z)) (hC.tab ht (fun a h1 h2 => up_n (by omega)) (by rw [up_n (by omega)]; exact q1) (by rw [up_n (by omega)]; exact q2) (fun z hz => tb_set (q3 z hz))) (fun a ha => up_n (by omega)) (by unfold o_wtab; rw [hq]; simp only [hn, hz]))
  · refine S_iload_4 (q := 15) dX9_writeTable_13 rfl ?_
    exact S_iret rfl dX9_writeTable_15 rfl rfl (RES.same hC (wtab_n hb10))
-- compareTable
set_option maxHeartbeats 4000000 in
set_option maxRecDepth 100000 in
theorem k_X9_compareTable {l : Launch} {G : Gd} {b0 : Nat} {M : Mem} {A : Ab} {x : Int32}  (hC : CR M A) (hk : A.ok)  : Ct l G b0 yX9_compareTable cX9_compareTable 6 (some .int) (rmZ 3 63) LAY LAY M [.ref (b0 + 0), .int x] (fun v M' => RES M (o_cmp A x) v M') := by
  obtain ⟨⟨g0, g1, g2, gcu, gce⟩, hru, hbl, hbd, hsn, hss, ⟨nx, hnx, hx1, hx2, hx3⟩, ⟨htl, htx⟩, ⟨hfl, hfo⟩, htb⟩ := id hC
  have hP := hk.P
  have hr1 := hP.r1
  have hr8 := hP.r8
  have hc1 := hP.c1
  have hc8 := hP.c8
  have hk1 := hP.k1
  have hk3 := hP.k3
  have h64 := rc64 hr8 hc8
  have hH8 := hk.H8
  have hN : A.N = A.P.r + A.P.c := rfl
  refine Ct.of [some (.ref (b0 + 0)), some (.int x), none, none, none, none] (by decide) (Nat.le_of_ble_eq_true rfl) rfl rfl ?_
  refine S_aload_0 (q := 1) dX9_compareTable_0 rfl ?_
  refine S_iload_1 (q := 2) dX9_compareTable_1 rfl ?_
  refine S_callV1i (q := 5) dX9_compareTable_2 lk_X9_320 (by first | assumption | rfl | exact (tst_t t ht).1 | exact (tst_t t ht).2) rfl rfl (k_X9_tableError hC hk) rfl rfl (Nat.le_of_ble_eq_true rfl) ⟨Nat.le_of_ble_eq_true rfl, Nat.le_of_ble_eq_true rfl⟩ ⟨Nat.le_of_ble_eq_true rfl, Nat.le_of_ble_eq_true rfl⟩ rfl (fun v2 M2 hv2 => ?_)
  obtain ⟨e2, rfl⟩ := hv2
  rw [e2]
  refine S_istore_2 (q := 6) dX9_compareTable_5 rfl ?_
  refine S_iload_2 (q := 7) dX9_compareTable_6 rfl ?_
  refine S_if_eq (t := 12) (q := 10) dX9_compareTable_7 (by decide) rfl (fun hb7 => ?_) (fun hb7 => ?_)
  · obtain ⟨t, ty, n, it, ht, rfl, hq, hn⟩ := tE_0 hb7
    have h64n := (hk.tb t ty n it hn).2.1
    have hty2 := (hk.tb t ty n it hn).1
    obtain ⟨q1, q2, q3⟩ := (htb t ht).2 ty n it hn
    refine S_aload_0 (q := 13) dX9_compareTable_12 rfl ?_
    refine S_getR (q := 16) dX9_compareTable_13 fl_X9_93 (by first | assumption | rfl | exact (tst_t t ht).1 | exact (tst_t t ht).2) (by rfl) rfl ?_
    refine S_iload_1 (q := 17) dX9_compareTable_16 rfl ?_
    refine S_aald (q := 18) dX9_compareTable_17 (by first | assumption | rfl | exact (tst_t t ht).1 | exact (tst_t t ht).2) (by decide) (by exact vp_in_nI (N := 3) ht (by decide)) (by rw [nI_clamp (by omega)]; exact tst_at t ht) rfl ?_
    refine S_astore_3 (q := 19) dX9_compareTable_18 rfl ?_
    refine S_aload_3 (q := 20) dX9_compareTable_19 rfl ?_
    refine S_getI (q := 23) dX9_compareTable_20 fl_X9_323 (by first | assumption | rfl | exact (tst_t t ht).1 | exact (tst_t t ht).2) (by rfl) rfl ?_
    rw [q1]
    refine S_iconst (q := 24) (nI 2) dX9_compareTable_23 (by decide) rfl ?_
    refine S_icmp_eq (t := 30) (q := 27) dX9_compareTable_24 (by decide) rfl (fun hb24 => ?_) (fun hb24 => ?_)
    · have h2 : ty = 2 := nI_inj (by omega) (by decide) hb24
      refine S_iconst (q := 31) (nI 0) dX9_compareTable_30 (by decide) rfl ?_
      refine S_istore_4 (q := 33) dX9_compareTable_31 rfl ?_
      suffices H : ∀ (d : Nat) (i : Nat), (A.P.r * A.P.c) - i = d → i ≤ (A.P.r * A.P.c) → cmT A.f it n (A.P.r * A.P.c) (A.P.r * A.P.c - (i)) = cmT A.f it n (A.P.r * A.P.c) (A.P.r * A.P.c) → S l G b0 yX9_compareTable cX9_compareTable 6 (some .int) (rmZ 3 63) LAY (fun v M' => RES M (o_cmp A (nI t)) v M') 0 0 0 0 LAY 33 [some (.ref (b0 + 0)), some (.int (nI t)), some (.int (tE A (nI t))), some (.ref (b0 + (134 + 2 * t))), some (.int (nI (i))), none] [] M from H _ 0 rfl (by omega) rfl
      intro d
      induction d with
      | zero =>
        intro i hd hi hI
        have e : (A.P.r * A.P.c) = i := by omega
        subst e
        refine S_iload_4 (q := 35) dX9_compareTable_33 rfl ?_
        refine S_aload_0 (q := 36) dX9_compareTable_35 rfl ?_
        refine S_getR (q := 39) dX9_compareTable_36 fl_X9_12 (by first | assumption | rfl) (by rfl) rfl ?_
        refine S_callV0i (q := 42) dX9_compareTable_39 lk_X9_275 (by first | assumption | rfl) rfl rfl (k_X1_cellTotal gO_1 g0 g1) rfl rfl (Nat.le_of_ble_eq_true rfl) ⟨Nat.le_of_ble_eq_true rfl, Nat.le_of_ble_eq_true rfl⟩ ⟨Nat.le_of_ble_eq_true rfl, Nat.le_of_ble_eq_true rfl⟩ rfl (fun v39 M39 hv39 => ?_)
        obtain ⟨e39, rfl⟩ := hv39
        rw [e39]
        refine S_icmp_ge (t := 98) (q := 45) dX9_compareTable_42 (by decide) rfl (fun hb42 => ?_) (fun hb42 => ?_)
        · refine S_bipush (q := 100) (-8) dX9_compareTable_98 (by decide) rfl ?_
          exact S_iret rfl dX9_compareTable_100 rfl rfl (RES.same hC (by unfold o_cmp; rw [hq]; simp only [hn, if_pos h2]; rw [← hI, Nat.sub_self]; rfl))
        · exact absurd (Int32.le_refl _) hb42
      | succ d ih =>
        intro i hd hi hI
        have hlt : i < (A.P.r * A.P.c) := by omega
        have hcm : cmT A.f it n (A.P.r * A.P.c) (A.P.r * A.P.c - i) = if n ≤ i then -13 else if (it i = nI 0) ↔ ((A.f i).testBit 0 = true) then cmT A.f it n (A.P.r * A.P.c) (A.P.r * A.P.c - (i + 1)) else nI i := by
          rw [show A.P.r * A.P.c - i = A.P.r * A.P.c - (i + 1) + 1 by omega]
          show (if n ≤ A.P.r * A.P.c - (A.P.r * A.P.c - (i + 1) + 1) then _ else if (it (A.P.r * A.P.c - (A.P.r * A.P.c - (i + 1) + 1)) = nI 0) ↔ ((A.f (A.P.r * A.P.c - (A.P.r * A.P.c - (i + 1) + 1))).testBit 0 = true) then _ else nI (A.P.r * A.P.c - (A.P.r * A.P.c - (i + 1) + 1))) = _
          rw [show A.P.r * A.P.c - (A.P.r * A.P.c - (i + 1) + 1) = i by omega]
        refine S_iload_4 (q := 35) dX9_compareTable_33 rfl ?_
        refine S_aload_0 (q := 36) dX9_compareTable_35 rfl ?_
        refine S_getR (q := 39) dX9_compareTable_36 fl_X9_12 (by first | assumption | rfl | exact (tst_t t ht).1 | exact (tst_t t ht).2) (by rfl) rfl ?_
        refine S_callV0i (q := 42) dX9_compareTable_39 lk_X9_275 (by first | assumption | rfl | exact (tst_t t ht).1 | exact (tst_t t ht).2) rfl rfl (k_X1_cellTotal gO_1 g0 g1) rfl rfl (Nat.le_of_ble_eq_true rfl) ⟨Nat.le_of_ble_eq_true rfl, Nat.le_of_ble_eq_true rfl⟩ ⟨Nat.le_of_ble_eq_true rfl, Nat.le_of_ble_eq_true rfl⟩ rfl (fun v39 M39 hv39 => ?_)
        obtain ⟨e39, rfl⟩ := hv39
        rw [e39]
        refine S_icmp_ge (t := 98) (q := 45) dX9_compareTable_42 (by decide) rfl (fun hb42 => ?_) (fun hb42 => ?_)
        · exact absurd hb42 (nI_ge hlt (by omega))
        · refine S_iload_4 (q := 47) dX9_compareTable_45 rfl ?_
          refine S_aload_3 (q := 48) dX9_compareTable_47 rfl ?_
          refine S_getI (q := 51) dX9_compareTable_48 fl_X9_326 (by first | assumption | rfl | exact (tst_t t ht).1 | exact (tst_t t ht).2) (by rfl) rfl ?_
          rw [q2]
          refine S_icmp_lt (t := 57) (q := 54) dX9_compareTable_51 (by decide) rfl (fun hb51 => ?_) (fun hb51 => ?_)
          · have hin : i < n := (nI_ltI (by omega) (by omega)).mp hb51
            refine S_aload_3 (q := 58) dX9_compareTable_57 rfl ?_
            refine S_getR (q := 61) dX9_compareTable_58 fl_X9_317 (by first | assumption | rfl | exact (tst_t t ht).1 | exact (tst_t t ht).2) (by rfl) rfl ?_
            refine S_iload_4 (q := 63) dX9_compareTable_61 rfl ?_
            refine S_ialdV (i := i) (val := it i) (q := 64) dX9_compareTable_63 (by first | assumption | rfl | exact (tst_t t ht).1 | exact (tst_t t ht).2) (by first | (simp only [nI_add, pk_mul, nI_1]; done) | rfl) (by omega) (by decide) (by rw [show 134 + 2 * t + 1 = 135 + 2 * t by omega]; exact q3 i (by omega)) rfl ?_
            refine S_if_eq (t := 71) (q := 67) dX9_compareTable_64 (by decide) rfl (fun hb64 => ?_) (fun hb64 => ?_)
            · have hm : it i = nI 0 := hb64
              refine S_iconst (q := 72) (nI 0) dX9_compareTable_71 (by decide) rfl ?_
              refine S_istore_5 (q := 74) dX9_compareTable_72 rfl ?_
              refine S_iload_5 (q := 76) dX9_compareTable_74 rfl ?_
              refine S_aload_0 (q := 77) dX9_compareTable_76 rfl ?_
              refine S_getR (q := 80) dX9_compareTable_77 fl_X9_12 (by first | assumption | rfl | exact (tst_t t ht).1 | exact (tst_t t ht).2) (by rfl) rfl ?_
              refine S_iload_4 (q := 82) dX9_compareTable_80 rfl ?_
              refine S_iconst (q := 83) (nI 0) dX9_compareTable_82 (by decide) rfl ?_
              refine S_callV2i (q := 86) dX9_compareTable_83 lk_X9_332 (by first | assumption | rfl | exact (tst_t t ht).1 | exact (tst_t t ht).2) rfl rfl (k_X1_hasCandidate gO_1 (show i < 64 by omega) ((gce i hlt).1) ((gce i hlt).2.2) (show 0 < 32 by decide)) rfl rfl (Nat.le_of_ble_eq_true rfl) ⟨Nat.le_of_ble_eq_true rfl, Nat.le_of_ble_eq_true rfl⟩ ⟨Nat.le_of_ble_eq_true rfl, Nat.le_of_ble_eq_true rfl⟩ rfl (fun v83 M83 hv83 => ?_)
              obtain ⟨e83, rfl⟩ := hv83
              rw [e83]
              refine S_icmp_ne (t := 92) (q := 89) dX9_compareTable_86 (by decide) rfl (fun hb86 => ?_) (fun hb86 => ?_)
              · have hx : (A.f i).testBit 0 = true := Decidable.byContradiction (fun y => hb86 (by rw [bI_f y]))
                refine S_iinc_4 (q := 95) (nI (i + 1)) dX9_compareTable_92 (inc1 _) rfl ?_
                refine S_goto (t := 33) dX9_compareTable_95 (by decide) ?_
                refine S_fgt5 ?_
                exact ih (i + 1) (by omega) hlt (by rw [← hI, hcm, if_neg (by omega), if_pos (⟨fun _ => hx, fun _ => hm⟩)])
              · have hx : ¬ (A.f i).testBit 0 = true := fun y => by rw [bI_t y] at hb86; exact absurd hb86 (by decide)
                refine S_iload_4 (q := 91) dX9_compareTable_89 rfl ?_
                exact S_iret rfl dX9_compareTable_91 rfl rfl (RES.same hC (by unfold o_cmp; rw [hq]; simp only [hn, if_pos h2]; rw [← hI, hcm, if_neg (by omega), if_neg (fun y => hx (y.mp hm))]))
            · have hm : ¬ it i = nI 0 := hb64
              refine S_iconst (q := 68) (nI 1) dX9_compareTable_67 (by decide) rfl ?_
              refine S_goto (t := 72) dX9_compareTable_68 (by decide) ?_
              refine S_istore_5 (q := 74) dX9_compareTable_72 rfl ?_
              refine S_iload_5 (q := 76) dX9_compareTable_74 rfl ?_
              refine S_aload_0 (q := 77) dX9_compareTable_76 rfl ?_
              refine S_getR (q := 80) dX9_compareTable_77 fl_X9_12 (by first | assumption | rfl | exact (tst_t t ht).1 | exact (tst_t t ht).2) (by rfl) rfl ?_
              refine S_iload_4 (q := 82) dX9_compareTable_80 rfl ?_
              refine S_iconst (q := 83) (nI 0) dX9_compareTable_82 (by decide) rfl ?_
              refine S_callV2i (q := 86) dX9_compareTable_83 lk_X9_332 (by first | assumption | rfl | exact (tst_t t ht).1 | exact (tst_t t ht).2) rfl rfl (k_X1_hasCandidate gO_1 (show i < 64 by omega) ((gce i hlt).1) ((gce i hlt).2.2) (show 0 < 32 by decide)) rfl rfl (Nat.le_of_ble_eq_true rfl) ⟨Nat.le_of_ble_eq_true rfl, Nat.le_of_ble_eq_true rfl⟩ ⟨Nat.le_of_ble_eq_true rfl, Nat.le_of_ble_eq_true rfl⟩ rfl (fun v83 M83 hv83 => ?_)
              obtain ⟨e83, rfl⟩ := hv83
              rw [e83]
              refine S_icmp_ne (t := 92) (q := 89) dX9_compareTable_86 (by decide) rfl (fun hb86 => ?_) (fun hb86 => ?_)
              · have hx : ¬ (A.f i).testBit 0 = true := fun y => hb86 (by rw [bI_t y])
                refine S_iinc_4 (q := 95) (nI (i + 1)) dX9_compareTable_92 (inc1 _) rfl ?_
                refine S_goto (t := 33) dX9_compareTable_95 (by decide) ?_
                refine S_fgt5 ?_
                exact ih (i + 1) (by omega) hlt (by rw [← hI, hcm, if_neg (by omega), if_pos (⟨fun y => absurd y hm, fun y => absurd y hx⟩)])
              · have hx : (A.f i).testBit 0 = true := Decidable.byContradiction (fun y => by rw [bI_f y] at hb86; exact absurd hb86 (by decide))
                refine S_iload_4 (q := 91) dX9_compareTable_89 rfl ?_
                exact S_iret rfl dX9_compareTable_91 rfl rfl (RES.same hC (by unfold o_cmp; rw [hq]; simp only [hn, if_pos h2]; rw [← hI, hcm, if_neg (by omega), if_neg (fun y => hm (y.mpr hx))]))
          · have hin : ¬ i < n := fun y => hb51 ((nI_ltI (by omega) (by omega)).mpr y)
            refine S_bipush (q := 56) (-13) dX9_compareTable_54 (by decide) rfl ?_
            exact S_iret rfl dX9_compareTable_56 rfl rfl (RES.same hC (by unfold o_cmp; rw [hq]; simp only [hn, if_pos h2]; rw [← hI, hcm, if_pos (by omega)]))
    · have h2 : ¬ ty = 2 := fun e => hb24 (by rw [e])
      refine S_bipush (q := 29) (-12) dX9_compareTable_27 (by decide) rfl ?_
      exact S_iret rfl dX9_compareTable_29 rfl rfl (RES.same hC (by unfold o_cmp; rw [hq]; simp only [hn, if_neg h2]))
  · refine S_iload_2 (q := 11) dX9_compareTable_10 rfl ?_
    exact S_iret rfl dX9_compareTable_11 rfl rfl (RES.same hC (cmp_n hb7))
