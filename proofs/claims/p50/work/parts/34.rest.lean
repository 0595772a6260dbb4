/-- other fields, another snapshot -/
theorem CR.zero {M M1 : Mem} {A : Ab} {ru : Nat} {bad : Option (Nat × Nat)} {sn : Option (Pz × (Nat → Nat))} (h : CR M A) (hf : ∀ a, a ≠ 0 → (a < 13 ∨ 19 ≤ a) → M1 a = M a) (h9 : M1 0 9 = nI ru) (h10 : M1 0 10 = (badI bad).1) (h11 : M1 0 11 = (badI bad).2) (h3 : M1 0 3 = nI (if sn.isSome then 1 else 0)) (hs : ∀ P f, sn = some (P, f) → GR M1 13 P f) : CR M1 (mkA A.P A.f A.H ru bad A.tx A.fo A.tb sn) := by
  obtain ⟨h1, -, -, -, -, -, ⟨nx, n1, n2, n3, n4⟩, ⟨t1, t2⟩, ⟨f1, f2⟩, ht⟩ := h
  refine ⟨h1.fr (fun a _ _ => hf a (by omega) (by omega)), h9, h10, h11, h3, hs, ⟨nx, n1, by rw [hf 19 (by omega) (by omega)]; exact n2, by rw [hf 19 (by omega) (by omega)]; exact n3, fun s e he => (n4 s e he).fr (fun a _ _ => hf a (by have := hst_in nx s; omega) (by have := hst_in nx s; omega))⟩, ⟨by rw [hf 125 (by omega) (by omega)]; exact t1, fun j hj => by rw [hf 126 (by omega) (by omega)]; exact t2 j hj⟩, ⟨by rw [hf 127 (by omega) (by omega)]; exact f1, fun j hj => by rw [hf 128 (by omega) (by omega)]; exact f2 j hj⟩, fun t htt => ?_⟩
  rw [hf (134 + 2 * t) (by omega) (by omega), hf (135 + 2 * t) (by omega) (by omega)]
  exact ht t htt
abbrev hPx : Pz → HE → Pz := hP
/-- a text in memory -/
def TX (M : Mem) (t : Nat) (s : (Nat → Nat) × Nat) : Prop := M t 1 = nI s.2 ∧ ∀ j, j < s.2 → M (t + 1) j = nI (s.1 j)
theorem TX.psh {M : Mem} {t ch : Nat} {s : (Nat → Nat) × Nat} (h : TX M t s) : TX (up (up M (t + 1) s.2 (nI ch)) t 1 (nI (s.2 + 1))) t (psh s ch) := by
  refine ⟨up_s, fun j hj => ?_⟩
  have hj' : j < s.2 + 1 := hj
  show _ = nI (upf s.1 s.2 ch j)
  rw [up_n (by omega)]
  by_cases e : j = s.2
  · rw [e, up_s, upf_s]
  · rw [up_eq, if_neg (by omega), upf_n e]; exact h.2 j (by omega)
theorem CR.text {M M1 : Mem} {A : Ab} {s : (Nat → Nat) × Nat} (h : CR M A) (hf : ∀ a, a ≠ 125 → a ≠ 126 → M1 a = M a) (ht : TX M1 125 s) : CR M1 (A.sT s) := by
  obtain ⟨h1, h2, h3, h4, h5, h6, ⟨nx, n1, n2, n3, n4⟩, -, ⟨f1, f2⟩, htb⟩ := h
  refine ⟨h1.fr (fun a _ _ => hf a (by omega) (by omega)), by rw [hf 0 (by omega) (by omega)]; exact h2, by rw [hf 0 (by omega) (by omega)]; exact h3, by rw [hf 0 (by omega) (by omega)]; exact h4, by rw [hf 0 (by omega) (by omega)]; exact h5, fun P f e => (h6 P f e).fr (fun a _ _ => hf a (by omega) (by omega)), ⟨nx, n1, by rw [hf 19 (by omega) (by omega)]; exact n2, by rw [hf 19 (by omega) (by omega)]; exact n3, fun s e he => (n4 s e he).fr (fun a _ _ => hf a (by have := hst_in nx s; omega) (by have := hst_in nx s; omega))⟩, ht, ⟨by rw [hf 127 (by omega) (by omega)]; exact f1, fun j hj => by rw [hf 128 (by omega) (by omega)]; exact f2 j hj⟩, fun t htt => ?_⟩
  rw [hf (134 + 2 * t) (by omega) (by omega), hf (135 + 2 * t) (by omega) (by omega)]
  exact htb t htt
theorem CR.form {M M1 : Mem} {A : Ab} {s : (Nat → Nat) × Nat} (h : CR M A) (hf : ∀ a, a ≠ 127 → a ≠ 128 → M1 a = M a) (ht : TX M1 127 s) : CR M1 (A.sF s) := by
  obtain ⟨h1, h2, h3, h4, h5, h6, ⟨nx, n1, n2, n3, n4⟩, ⟨f1, f2⟩, -, htb⟩ := h
  refine ⟨h1.fr (fun a _ _ => hf a (by omega) (by omega)), by rw [hf 0 (by omega) (by omega)]; exact h2, by rw [hf 0 (by omega) (by omega)]; exact h3, by rw [hf 0 (by omega) (by omega)]; exact h4, by rw [hf 0 (by omega) (by omega)]; exact h5, fun P f e => (h6 P f e).fr (fun a _ _ => hf a (by omega) (by omega)), ⟨nx, n1, by rw [hf 19 (by omega) (by omega)]; exact n2, by rw [hf 19 (by omega) (by omega)]; exact n3, fun s e he => (n4 s e he).fr (fun a _ _ => hf a (by have := hst_in nx s; omega) (by have := hst_in nx s; omega))⟩, ⟨by rw [hf 125 (by omega) (by omega)]; exact f1, fun j hj => by rw [hf 126 (by omega) (by omega)]; exact f2 j hj⟩, ht, fun t htt => ?_⟩
  rw [hf (134 + 2 * t) (by omega) (by omega), hf (135 + 2 * t) (by omega) (by omega)]
  exact htb t htt
theorem CR.tab {M M1 : Mem} {A : Ab} {t ty n : Nat} {it : Nat → Int32} (h : CR M A) (ht : t < 3) (hf : ∀ a, a ≠ 134 + 2 * t → a ≠ 135 + 2 * t → M1 a = M a) (q1 : M1 (134 + 2 * t) 1 = nI ty) (q2 : M1 (134 + 2 * t) 2 = nI n) (q3 : ∀ j, j < 64 → M1 (135 + 2 * t) j = it j) : CR M1 (A.sE t (ty, n, it)) := by
  obtain ⟨h1, h2, h3, h4, h5, h6, ⟨nx, n1, n2, n3, n4⟩, ⟨f1, f2⟩, ⟨f3, f4⟩, htb⟩ := h
  refine ⟨h1.fr (fun a _ _ => hf a (by omega) (by omega)), by rw [hf 0 (by omega) (by omega)]; exact h2, by rw [hf 0 (by omega) (by omega)]; exact h3, by rw [hf 0 (by omega) (by omega)]; exact h4, by rw [hf 0 (by omega) (by omega)]; exact h5, fun P f e => (h6 P f e).fr (fun a _ _ => hf a (by omega) (by omega)), ⟨nx, n1, by rw [hf 19 (by omega) (by omega)]; exact n2, by rw [hf 19 (by omega) (by omega)]; exact n3, fun s e he => (n4 s e he).fr (fun a _ _ => hf a (by have := hst_in nx s; omega) (by have := hst_in nx s; omega))⟩, ⟨by rw [hf 125 (by omega) (by omega)]; exact f1, fun j hj => by rw [hf 126 (by omega) (by omega)]; exact f2 j hj⟩, ⟨by rw [hf 127 (by omega) (by omega)]; exact f3, fun j hj => by rw [hf 128 (by omega) (by omega)]; exact f4 j hj⟩, fun u hu => ?_⟩
  by_cases e : u = t
  · subst e
    refine ⟨fun y => ?_, fun ty' n' it' y => ?_⟩
    · have y' : (if u = u then some (ty, n, it) else A.tb u) = none := y
      rw [if_pos rfl] at y'; cases y'
    · have y' : (if u = u then some (ty, n, it) else A.tb u) = some (ty', n', it') := y
      rw [if_pos rfl] at y'; cases y'
      exact ⟨q1, q2, q3⟩
  · rw [hf (134 + 2 * u) (by omega) (by omega), hf (135 + 2 * u) (by omega) (by omega)]
    have y : (A.sE t (ty, n, it)).tb u = A.tb u := if_neg e
    rw [y]
    exact htb u hu
theorem tb_set {M : Mem} {t z j : Nat} {v : Int32} {it : Nat → Int32} (h : M (135 + 2 * t) z = it z) : up M (134 + 2 * t + 1) j v (135 + 2 * t) z = if z = j then v else it z := by
  rw [up_eq]
  by_cases e : z = j
  · rw [if_pos ⟨by omega, e⟩, if_pos e]
  · rw [if_neg (fun y => e y.2), if_neg e]; exact h
theorem CR.nil {M M1 : Mem} {A : Ab} {P : Pz} {f : Nat → Nat} {nx : Nat} (h : CR M A) (hf : ∀ a, (a < 1 ∨ (13 ≤ a ∧ a < 19) ∨ (125 ≤ a ∧ a < 129) ∨ (134 ≤ a ∧ a < 140)) → M1 a = M a) (h1 : GR M1 1 P f) (n1 : nx < 8) (n2 : M1 19 1 = nI nx) (n3 : M1 19 2 = nI 0) : CR M1 (A.sG P f []) := h.grid hf h1 ⟨nx, n1, n2, n3, fun s e he => by cases he⟩
theorem fl_16 {k : Nat} (h : k ≤ 3) : 1 ≤ 2 ^ (k + 1) - 1 ∧ 2 ^ (k + 1) - 1 < 16 := by
  rcases (show k = 0 ∨ k = 1 ∨ k = 2 ∨ k = 3 by omega) with rfl | rfl | rfl | rfl <;> decide
theorem ush16 (x : Int32) : (x.toUInt32 >>> ((nI 16).toUInt32 &&& Int32.toUInt32 31)).toInt32 = nI (x.toBitVec.toNat / 65536) := i32_ext (by
  have h1 := pk_ushr x (nI 16) 16 (by decide)
  have h2 := x.toBitVec.isLt
  rw [h1, pk_tn (by omega)])
theorem nI_n0 {a : Nat} (h : a ≠ 0) (ha : a < 2 ^ 31) : ¬ nI a = 0 := fun e => h (nI_inj (by omega) (by decide) (show nI a = nI 0 from e))
theorem PIC.clu {M : Mem} {g : Nat} {P : Pz} {f : Nat → Nat} (hP : P.ok) (hf : GF P f) (h : PIC M g P.r P.c f (P.r + P.c)) : CLU M (g + 1) (pcP P f) := by
  intro i hi
  have hr8 := hP.r8
  have hc8 := hP.c8
  by_cases e : i < P.r + P.c
  · obtain ⟨q1, q2⟩ := h.1 i e
    have hl8 := lnLen_le (i := i) hr8 hc8
    obtain ⟨b1, b2, b3⟩ := bkT_ok (C := lco P.r P.c f i) (lnLen P.r P.c i) (fun q hq => clo_le3 _ (hf _ (lnCell_lt e hq)).2 (hf _ (lnCell_lt e hq)).1)
    have eR : (pcP P f).R i = (bkT (lco P.r P.c f i) (lnLen P.r P.c i)).1 := if_pos e
    refine ⟨by rw [eR]; exact q1, by rw [eR]; omega, fun j hj => ?_⟩
    rw [eR] at hj
    obtain ⟨c1, c2, c3, c4⟩ := b3 j hj
    exact ⟨(q2 j hj).1, c1, Nat.le_trans c2 hl8, (q2 j hj).2, c3, c4⟩
  · have eR : (pcP P f).R i = 0 := if_neg e
    exact ⟨by rw [eR]; exact h.2 i (by omega) hi, by rw [eR]; omega, fun j hj => by rw [eR] at hj; exact absurd hj (Nat.not_lt_zero j)⟩
set_option maxHeartbeats 4000000 in
set_option maxRecDepth 100000 in
theorem k_X9_reset {Z : Lay} {l : Launch} {G : Gd} {b0 : Nat} {M : Mem} {A : Ab} {x y z : Int32}  (hC : CR M A) (hk : A.ok)  : Ct l G b0 yX9_reset cX9_reset 4 (some .int) (rmZ 3 66) (LYZ Z) (LYZ Z) M [.ref (b0 + 0), .int x, .int y, .int z] (fun v M' => RES M (o_reset A x y z) v M') := by
  obtain ⟨⟨g0, g1, g2, gcu, gce⟩, hru, hbl, hbd, hsn, hss, ⟨nx, hnx, hx1, hx2, hx3⟩, ⟨htl, htx⟩, ⟨hfl, hfo⟩, htb⟩ := id hC
  have hP := hk.P
  have hr1 := hP.r1
  have hr8 := hP.r8
  have hc1 := hP.c1
  have hc8 := hP.c8
  have hk1 := hP.k1
  have hk3 := hP.k3
  have h64 := rc64 hr8 hc8
  have hH8 := hk.H8
  have hN : A.N = A.P.r + A.P.c := rfl
  refine Ct.of [some (.ref (b0 + 0)), some (.int x), some (.int y), some (.int z)] (by decide) (Nat.le_of_ble_eq_true rfl) rfl rfl ?_
  refine S_iload_1 (q := 1) dX9_reset_0 rfl ?_
  refine S_iconst (q := 2) (nI 1) dX9_reset_1 (by decide) rfl ?_
  refine S_bipush (q := 4) (nI 8) dX9_reset_2 (by decide) rfl ?_
  refine S_callS3i (q := 7) dX9_reset_4 lk_X9_101 (k_X9_isWithin) rfl rfl (Nat.le_of_ble_eq_true rfl) ⟨Nat.le_of_ble_eq_true rfl, Nat.le_of_ble_eq_true rfl⟩ ⟨Nat.le_of_ble_eq_true rfl, Nat.le_of_ble_eq_true rfl⟩ rfl (fun v4 M4 hv4 => ?_)
  obtain ⟨e4, rfl⟩ := hv4
  rw [e4]
  refine S_if_eq (t := 29) (q := 10) dX9_reset_7 (by decide) rfl (fun hb7 => ?_) (fun hb7 => ?_)
  · have h1 := iw_no (bI_0.mp hb7)
    refine S_bipush (q := 31) (-2) dX9_reset_29 (by decide) rfl ?_
    exact S_iret rfl dX9_reset_31 rfl rfl (RES.same hC (by unfold o_reset; rw [h1]))
  · obtain ⟨r, hr1', hr8', rfl, h1⟩ := iw_ok (by decide) (by decide) (bI_n.mp hb7)
    refine S_iload_2 (q := 11) dX9_reset_10 rfl ?_
    refine S_iconst (q := 12) (nI 1) dX9_reset_11 (by decide) rfl ?_
    refine S_bipush (q := 14) (nI 8) dX9_reset_12 (by decide) rfl ?_
    refine S_callS3i (q := 17) dX9_reset_14 lk_X9_101 (k_X9_isWithin) rfl rfl (Nat.le_of_ble_eq_true rfl) ⟨Nat.le_of_ble_eq_true rfl, Nat.le_of_ble_eq_true rfl⟩ ⟨Nat.le_of_ble_eq_true rfl, Nat.le_of_ble_eq_true rfl⟩ rfl (fun v14 M14 hv14 => ?_)
    obtain ⟨e14, rfl⟩ := hv14
    rw [e14]
    refine S_if_eq (t := 29) (q := 20) dX9_reset_17 (by decide) rfl (fun hb17 => ?_) (fun hb17 => ?_)
    · have h2 := iw_no (bI_0.mp hb17)
      refine S_bipush (q := 31) (-2) dX9_reset_29 (by decide) rfl ?_
      exact S_iret rfl dX9_reset_31 rfl rfl (RES.same hC (by unfold o_reset; rw [h1]; simp only [h2]))
    · obtain ⟨c, hc1', hc8', rfl, h2⟩ := iw_ok (by decide) (by decide) (bI_n.mp hb17)
      refine S_iload_3 (q := 21) dX9_reset_20 rfl ?_
      refine S_iconst (q := 22) (nI 1) dX9_reset_21 (by decide) rfl ?_
      refine S_iconst (q := 23) (nI 3) dX9_reset_22 (by decide) rfl ?_
      refine S_callS3i (q := 26) dX9_reset_23 lk_X9_101 (k_X9_isWithin) rfl rfl (Nat.le_of_ble_eq_true rfl) ⟨Nat.le_of_ble_eq_true rfl, Nat.le_of_ble_eq_true rfl⟩ ⟨Nat.le_of_ble_eq_true rfl, Nat.le_of_ble_eq_true rfl⟩ rfl (fun v23 M23 hv23 => ?_)
      obtain ⟨e23, rfl⟩ := hv23
      rw [e23]
      refine S_if_ne (t := 32) (q := 29) dX9_reset_26 (by decide) rfl (fun hb26 => ?_) (fun hb26 => ?_)
      · obtain ⟨k, hk1', hk3', rfl, h3⟩ := iw_ok (by decide) (by decide) (bI_n.mp hb26)
        refine S_aload_0 (q := 33) dX9_reset_32 rfl ?_
        refine S_getR (q := 36) dX9_reset_33 fl_X9_12 (by first | assumption | rfl) (by rfl) rfl ?_
        refine S_iload_1 (q := 37) dX9_reset_36 rfl ?_
        refine S_iload_2 (q := 38) dX9_reset_37 rfl ?_
        refine S_iload_3 (q := 39) dX9_reset_38 rfl ?_
        refine S_callV3v (q := 42) dX9_reset_39 lk_X9_97 (by first | assumption | rfl) rfl rfl (k_X1_start (gO_1 (Z := Z)) hk3') rfl rfl (Nat.le_of_ble_eq_true rfl) ⟨Nat.le_of_ble_eq_true rfl, Nat.le_of_ble_eq_true rfl⟩ ⟨Nat.le_of_ble_eq_true rfl, Nat.le_of_ble_eq_true rfl⟩ rfl (fun v39 M39 hv39 => ?_)
        refine S_aload_0 (q := 43) dX9_reset_42 rfl ?_
        refine S_getR (q := 46) dX9_reset_43 fl_X9_29 (by first | assumption | rfl) (by rfl) rfl ?_
        refine S_callV0v (q := 49) dX9_reset_46 lk_X9_105 (by first | assumption | rfl) rfl rfl (k_X2_forget) rfl rfl (Nat.le_of_ble_eq_true rfl) ⟨Nat.le_of_ble_eq_true rfl, Nat.le_of_ble_eq_true rfl⟩ ⟨Nat.le_of_ble_eq_true rfl, Nat.le_of_ble_eq_true rfl⟩ rfl (fun v46 M46 hv46 => ?_)
        subst hv46
        refine S_aload_0 (q := 50) dX9_reset_49 rfl ?_
        refine S_callV0v (q := 53) dX9_reset_50 lk_X9_108 (by first | assumption | rfl) rfl rfl (k_X9_forgetContradiction) rfl rfl (Nat.le_of_ble_eq_true rfl) ⟨Nat.le_of_ble_eq_true rfl, Nat.le_of_ble_eq_true rfl⟩ ⟨Nat.le_of_ble_eq_true rfl, Nat.le_of_ble_eq_true rfl⟩ rfl (fun v50 M50 hv50 => ?_)
        subst hv50
        refine S_aload_0 (q := 54) dX9_reset_53 rfl ?_
        refine S_getR (q := 57) dX9_reset_54 fl_X9_12 (by first | assumption | rfl) (by rfl) rfl ?_
        refine S_callV0i (q := 60) dX9_reset_57 lk_X9_111 (by first | assumption | rfl) rfl rfl (k_X1_lineTotal (gO_1 (Z := Z)) (r := r) (c := c) (by rw [up_n (by omega), up_n (by omega), up_n (by omega)]; exact hv39.2.1) (by rw [up_n (by omega), up_n (by omega), up_n (by omega)]; exact hv39.2.2.1)) rfl rfl (Nat.le_of_ble_eq_true rfl) ⟨Nat.le_of_ble_eq_true rfl, Nat.le_of_ble_eq_true rfl⟩ ⟨Nat.le_of_ble_eq_true rfl, Nat.le_of_ble_eq_true rfl⟩ rfl (fun v57 M57 hv57 => ?_)
        obtain ⟨e57, rfl⟩ := hv57
        rw [e57]
        exact S_iret rfl dX9_reset_60 rfl rfl (RES.to (A := (A.sG (r, c, k, fun _ => 0, fun _ _ => 0, fun _ _ => 0) (fun _ => 2 ^ (k + 1) - 1) []).sB none) (CR.bad (hC.nil (P := (r, c, k, fun _ => 0, fun _ _ => 0, fun _ _ => 0)) (f := fun _ => 2 ^ (k + 1) - 1) (fun a ha => by rw [up_n (by omega), hv39.1 a (by omega) (by omega) (by omega)]) ⟨by rw [up_n (by omega)]; exact hv39.2.1, by rw [up_n (by omega)]; exact hv39.2.2.1, by rw [up_n (by omega)]; exact hv39.2.2.2.1, fun i hi => ⟨by rw [up_n (by omega)]; exact hv39.2.2.2.2.1 i hi, Nat.zero_le _, fun j (hj : j < 0) => absurd hj (Nat.not_lt_zero j)⟩, fun x hx => ⟨by
                  have hx' : x < r * c := hx
                  have := rc64 hr8' hc8'
                  rw [up_n (by omega)]; exact hv39.2.2.2.2.2 x (by omega), (fl_16 hk3').1, (fl_16 hk3').2⟩⟩ hnx (by rw [up_eq, if_neg (by decide), hv39.1 19 (by decide) (by decide) (by decide)]; exact hx1) up_s) rfl rfl) (fun a ha => by rw [up_n (by omega), up_n (by omega), up_n (by omega), hv39.1 a (by omega) (by omega) (by omega)]) (by unfold o_reset; rw [h1]; simp only [h2, h3]; rfl))
      · have h3 := iw_no (bI_0.mp hb26)
        refine S_bipush (q := 31) (-2) dX9_reset_29 (by decide) rfl ?_
        exact S_iret rfl dX9_reset_31 rfl rfl (RES.same hC (by unfold o_reset; rw [h1]; simp only [h2, h3]))
set_option maxHeartbeats 4000000 in
set_option maxRecDepth 100000 in
theorem k_X9_countSolutions {Z : Lay} {l : Launch} {G : Gd} {b0 : Nat} {M : Mem} {A : Ab} {x : Int32}  (hC : CR M A) (hk : A.ok)  : Ct l G b0 yX9_countSolutions cX9_countSolutions 2 (some .int) (rmZ 7 166) (LYZ Z) (LYZ Z) M [.ref (b0 + 0), .int x] (fun v M' => RES M (o_cnt A x) v M') := by
  obtain ⟨⟨g0, g1, g2, gcu, gce⟩, hru, hbl, hbd, hsn, hss, ⟨nx, hnx, hx1, hx2, hx3⟩, ⟨htl, htx⟩, ⟨hfl, hfo⟩, htb⟩ := id hC
  have hP := hk.P
  have hr1 := hP.r1
  have hr8 := hP.r8
  have hc1 := hP.c1
  have hc8 := hP.c8
  have hk1 := hP.k1
  have hk3 := hP.k3
  have h64 := rc64 hr8 hc8
  have hH8 := hk.H8
  have hN : A.N = A.P.r + A.P.c := rfl
  refine Ct.of [some (.ref (b0 + 0)), some (.int x)] (by decide) (Nat.le_of_ble_eq_true rfl) rfl rfl ?_
  refine S_iload_1 (q := 1) dX9_countSolutions_0 rfl ?_
  refine S_iconst (q := 2) (nI 1) dX9_countSolutions_1 (by decide) rfl ?_
  refine S_bipush (q := 4) (nI 20) dX9_countSolutions_2 (by decide) rfl ?_
  refine S_callS3i (q := 7) dX9_countSolutions_4 lk_X9_101 (k_X9_isWithin) rfl rfl (Nat.le_of_ble_eq_true rfl) ⟨Nat.le_of_ble_eq_true rfl, Nat.le_of_ble_eq_true rfl⟩ ⟨Nat.le_of_ble_eq_true rfl, Nat.le_of_ble_eq_true rfl⟩ rfl (fun v4 M4 hv4 => ?_)
  obtain ⟨e4, rfl⟩ := hv4
  rw [e4]
  refine S_if_ne (t := 13) (q := 10) dX9_countSolutions_7 (by decide) rfl (fun hb7 => ?_) (fun hb7 => ?_)
  · obtain ⟨n, hn1, hn2, rfl, hn⟩ := iw_ok (by decide) (by decide) (bI_n.mp hb7)
    refine S_aload_0 (q := 14) dX9_countSolutions_13 rfl ?_
    refine S_getR (q := 17) dX9_countSolutions_14 fl_X9_57 (by first | assumption | rfl) (by rfl) rfl ?_
    refine S_aload_0 (q := 18) dX9_countSolutions_17 rfl ?_
    refine S_getR (q := 21) dX9_countSolutions_18 fl_X9_12 (by first | assumption | rfl) (by rfl) rfl ?_
    refine S_aload_0 (q := 22) dX9_countSolutions_21 rfl ?_
    refine S_getI (q := 25) dX9_countSolutions_22 fl_X9_61 (by first | assumption | rfl) (by rfl) rfl ?_
    refine S_iload_1 (q := 26) dX9_countSolutions_25 rfl ?_
    rw [hru]
    refine S_callV3v (q := 29) dX9_countSolutions_26 lk_X9_249 (by first | assumption | rfl) rfl rfl (k_X6_find (zO_105 (Z := Z)) (gO_1 (Z := Z)) hP g0 g1 g2 (by decide) gcu gce hk.ru hn1 hn2) rfl rfl (Nat.le_of_ble_eq_true rfl) ⟨Nat.le_of_ble_eq_true rfl, Nat.le_of_ble_eq_true rfl⟩ ⟨Nat.le_of_ble_eq_true rfl, Nat.le_of_ble_eq_true rfl⟩ rfl (fun v26 M26 hv26 => ?_)
    obtain ⟨hs1, hs2, hs3, hs4, hs5, hs6, hs7⟩ := hv26
    have hs2 : M26 105 7 = nI (A.sr (n)).1 := hs2
    have hs3 : M26 105 8 = nI (A.sr (n)).2.1 := hs3
    have hs4 : M26 105 9 = nI (if (A.sr (n)).2.2.1 then 1 else 0) := hs4
    have hs5 : (A.sr (n)).2.1 ≤ (A.sr (n)).1 := hs5
    have hs6 : (A.sr (n)).1 ≤ 60 := hs6
    refine S_aload_0 (q := 30) dX9_countSolutions_29 rfl ?_
    refine S_getR (q := 33) dX9_countSolutions_30 fl_X9_57 (by first | assumption | rfl) (by rfl) rfl ?_
    refine S_getI (q := 36) dX9_countSolutions_33 fl_X9_253 (by first | assumption | rfl) (by rfl) rfl ?_
    refine S_if_eq (t := 44) (q := 39) dX9_countSolutions_36 (by decide) rfl (fun hb36 => ?_) (fun hb36 => ?_)
    · have hF : ¬ (A.sr (n)).2.2.1 = true := fun e => absurd (hs4.symm.trans hb36) (by rw [if_pos e]; decide)
      refine S_aload_0 (q := 45) dX9_countSolutions_44 rfl ?_
      refine S_getR (q := 48) dX9_countSolutions_45 fl_X9_57 (by first | assumption | rfl) (by rfl) rfl ?_
      refine S_getI (q := 51) dX9_countSolutions_48 fl_X9_256 (by first | assumption | rfl) (by rfl) rfl ?_
      exact S_iret rfl dX9_countSolutions_51 rfl rfl (RES.scr hC (fun a ha => hs1 a (by omega)) (by unfold o_cnt; rw [show iw (nI n) 1 20 = some n from hn]; simp only [if_neg hF]; rw [hs3]))
    · have hF : (A.sr (n)).2.2.1 = true := by
        cases e : (A.sr (n)).2.2.1 with
        | true => rfl
        | false => exact absurd (by rw [hs4, e]; rfl) hb36
      refine S_bipush (q := 41) (-7) dX9_countSolutions_39 (by decide) rfl ?_
      refine S_goto (t := 51) dX9_countSolutions_41 (by decide) ?_
      exact S_iret rfl dX9_countSolutions_51 rfl rfl (RES.scr hC (fun a ha => hs1 a (by omega)) (by unfold o_cnt; rw [show iw (nI n) 1 20 = some n from hn]; simp only [if_pos hF]))
  · have hn := iw_no (bI_0.mp hb7)
    refine S_bipush (q := 12) (-2) dX9_countSolutions_10 (by decide) rfl ?_
    exact S_iret rfl dX9_countSolutions_12 rfl rfl (RES.same hC (by unfold o_cnt; rw [show iw x 1 20 = none from hn]))
set_option maxHeartbeats 4000000 in
set_option maxRecDepth 100000 in
theorem k_X9_isUnique {Z : Lay} {l : Launch} {G : Gd} {b0 : Nat} {M : Mem} {A : Ab}  (hC : CR M A) (hk : A.ok)  : Ct l G b0 yX9_isUnique cX9_isUnique 1 (some .int) (rmZ 7 166) (LYZ Z) (LYZ Z) M [.ref (b0 + 0)] (fun v M' => RES M (o_uniq A) v M') := by
  obtain ⟨⟨g0, g1, g2, gcu, gce⟩, hru, hbl, hbd, hsn, hss, ⟨nx, hnx, hx1, hx2, hx3⟩, ⟨htl, htx⟩, ⟨hfl, hfo⟩, htb⟩ := id hC
  have hP := hk.P
  have hr1 := hP.r1
  have hr8 := hP.r8
  have hc1 := hP.c1
  have hc8 := hP.c8
  have hk1 := hP.k1
  have hk3 := hP.k3
  have h64 := rc64 hr8 hc8
  have hH8 := hk.H8
  have hN : A.N = A.P.r + A.P.c := rfl
  refine Ct.of [some (.ref (b0 + 0))] (by decide) (Nat.le_of_ble_eq_true rfl) rfl rfl ?_
  refine S_aload_0 (q := 1) dX9_isUnique_0 rfl ?_
  refine S_getR (q := 4) dX9_isUnique_1 fl_X9_57 (by first | assumption | rfl) (by rfl) rfl ?_
  refine S_aload_0 (q := 5) dX9_isUnique_4 rfl ?_
  refine S_getR (q := 8) dX9_isUnique_5 fl_X9_12 (by first | assumption | rfl) (by rfl) rfl ?_
  refine S_aload_0 (q := 9) dX9_isUnique_8 rfl ?_
  refine S_getI (q := 12) dX9_isUnique_9 fl_X9_61 (by first | assumption | rfl) (by rfl) rfl ?_
  refine S_iconst (q := 13) (nI 2) dX9_isUnique_12 (by decide) rfl ?_
  rw [hru]
  refine S_callV3v (q := 16) dX9_isUnique_13 lk_X9_249 (by first | assumption | rfl) rfl rfl (k_X6_find (zO_105 (Z := Z)) (gO_1 (Z := Z)) hP g0 g1 g2 (by decide) gcu gce hk.ru (lim := 2) (by decide) (by decide)) rfl rfl (Nat.le_of_ble_eq_true rfl) ⟨Nat.le_of_ble_eq_true rfl, Nat.le_of_ble_eq_true rfl⟩ ⟨Nat.le_of_ble_eq_true rfl, Nat.le_of_ble_eq_true rfl⟩ rfl (fun v13 M13 hv13 => ?_)
  obtain ⟨hs1, hs2, hs3, hs4, hs5, hs6, hs7⟩ := hv13
  have hs2 : M13 105 7 = nI (A.sr (2)).1 := hs2
  have hs3 : M13 105 8 = nI (A.sr (2)).2.1 := hs3
  have hs4 : M13 105 9 = nI (if (A.sr (2)).2.2.1 then 1 else 0) := hs4
  have hs5 : (A.sr (2)).2.1 ≤ (A.sr (2)).1 := hs5
  have hs6 : (A.sr (2)).1 ≤ 60 := hs6
  refine S_aload_0 (q := 17) dX9_isUnique_16 rfl ?_
  refine S_getR (q := 20) dX9_isUnique_17 fl_X9_57 (by first | assumption | rfl) (by rfl) rfl ?_
  refine S_getI (q := 23) dX9_isUnique_20 fl_X9_253 (by first | assumption | rfl) (by rfl) rfl ?_
  refine S_if_eq (t := 29) (q := 26) dX9_isUnique_23 (by decide) rfl (fun hb23 => ?_) (fun hb23 => ?_)
  · have hF : ¬ (A.sr (2)).2.2.1 = true := fun e => absurd (hs4.symm.trans hb23) (by rw [if_pos e]; decide)
    refine S_aload_0 (q := 30) dX9_isUnique_29 rfl ?_
    refine S_getR (q := 33) dX9_isUnique_30 fl_X9_57 (by first | assumption | rfl) (by rfl) rfl ?_
    refine S_getI (q := 36) dX9_isUnique_33 fl_X9_256 (by first | assumption | rfl) (by rfl) rfl ?_
    rw [hs3]
    refine S_iconst (q := 37) (nI 1) dX9_isUnique_36 (by decide) rfl ?_
    refine S_icmp_ne (t := 44) (q := 40) dX9_isUnique_37 (by decide) rfl (fun hb37 => ?_) (fun hb37 => ?_)
    · have h1 : ¬ (A.sr 2).2.1 = 1 := fun e => hb37 (by rw [e])
      refine S_iconst (q := 45) (nI 0) dX9_isUnique_44 (by decide) rfl ?_
      exact S_iret rfl dX9_isUnique_45 rfl rfl (RES.scr hC (fun a ha => hs1 a (by omega)) (by unfold o_uniq; rw [if_neg hF, if_neg h1]))
    · have h1 : (A.sr 2).2.1 = 1 := nI_inj (by omega) (by decide) hb37
      refine S_iconst (q := 41) (nI 1) dX9_isUnique_40 (by decide) rfl ?_
      refine S_goto (t := 45) dX9_isUnique_41 (by decide) ?_
      exact S_iret rfl dX9_isUnique_45 rfl rfl (RES.scr hC (fun a ha => hs1 a (by omega)) (by unfold o_uniq; rw [if_neg hF, if_pos h1]))
  · have hF : (A.sr (2)).2.2.1 = true := by
      cases e : (A.sr (2)).2.2.1 with
      | true => rfl
      | false => exact absurd (by rw [hs4, e]; rfl) hb23
    refine S_bipush (q := 28) (-7) dX9_isUnique_26 (by decide) rfl ?_
    exact S_iret rfl dX9_isUnique_28 rfl rfl (RES.scr hC (fun a ha => hs1 a (by omega)) (by unfold o_uniq; rw [if_pos hF]))
set_option maxHeartbeats 4000000 in
set_option maxRecDepth 100000 in
theorem k_X9_solutionColor {Z : Lay} {l : Launch} {G : Gd} {b0 : Nat} {M : Mem} {A : Ab} {m x z : Int32}  (hC : CR M A) (hk : A.ok)  : Ct l G b0 yX9_solutionColor cX9_solutionColor 4 (some .int) (rmZ 7 166) (LYZ Z) (LYZ Z) M [.ref (b0 + 0), .int m, .int x, .int z] (fun v M' => RES M (o_sol A m x z) v M') := by
  obtain ⟨⟨g0, g1, g2, gcu, gce⟩, hru, hbl, hbd, hsn, hss, ⟨nx, hnx, hx1, hx2, hx3⟩, ⟨htl, htx⟩, ⟨hfl, hfo⟩, htb⟩ := id hC
  have hP := hk.P
  have hr1 := hP.r1
  have hr8 := hP.r8
  have hc1 := hP.c1
  have hc8 := hP.c8
  have hk1 := hP.k1
  have hk3 := hP.k3
  have h64 := rc64 hr8 hc8
  have hH8 := hk.H8
  have hN : A.N = A.P.r + A.P.c := rfl
  refine Ct.of [some (.ref (b0 + 0)), some (.int m), some (.int x), some (.int z)] (by decide) (Nat.le_of_ble_eq_true rfl) rfl rfl ?_
  refine S_iload_1 (q := 1) dX9_solutionColor_0 rfl ?_
  refine S_iconst (q := 2) (nI 0) dX9_solutionColor_1 (by decide) rfl ?_
  refine S_bipush (q := 4) (nI 19) dX9_solutionColor_2 (by decide) rfl ?_
  refine S_callS3i (q := 7) dX9_solutionColor_4 lk_X9_101 (k_X9_isWithin) rfl rfl (Nat.le_of_ble_eq_true rfl) ⟨Nat.le_of_ble_eq_true rfl, Nat.le_of_ble_eq_true rfl⟩ ⟨Nat.le_of_ble_eq_true rfl, Nat.le_of_ble_eq_true rfl⟩ rfl (fun v4 M4 hv4 => ?_)
  obtain ⟨e4, rfl⟩ := hv4
  rw [e4]
  refine S_if_ne (t := 13) (q := 10) dX9_solutionColor_7 (by decide) rfl (fun hb7 => ?_) (fun hb7 => ?_)
  · obtain ⟨m, hm2, rfl, hm⟩ := iw0 (by decide) (bI_n.mp hb7)
    refine S_aload_0 (q := 14) dX9_solutionColor_13 rfl ?_
    refine S_getR (q := 17) dX9_solutionColor_14 fl_X9_12 (by first | assumption | rfl) (by rfl) rfl ?_
    refine S_iload_2 (q := 18) dX9_solutionColor_17 rfl ?_
    refine S_iload_3 (q := 19) dX9_solutionColor_18 rfl ?_
    refine S_callV2i (q := 22) dX9_solutionColor_19 lk_X9_162 (by first | assumption | rfl) rfl rfl (k_X1_hasCell (gO_1 (Z := Z)) g0 g1 hr8 hc8 hr1 hc1) rfl rfl (Nat.le_of_ble_eq_true rfl) ⟨Nat.le_of_ble_eq_true rfl, Nat.le_of_ble_eq_true rfl⟩ ⟨Nat.le_of_ble_eq_true rfl, Nat.le_of_ble_eq_true rfl⟩ rfl (fun v19 M19 hv19 => ?_)
    obtain ⟨e19, rfl⟩ := hv19
    rw [e19]
    refine S_if_ne (t := 27) (q := 25) dX9_solutionColor_22 (by decide) rfl (fun hb22 => ?_) (fun hb22 => ?_)
    · obtain ⟨i, j, hi, hj, rfl, rfl, hl⟩ := cl_ok (A := A) hP (bI_n.mp hb22)
      have hij := cel_lt hi hj
      have hij64 : i * A.P.c + j < 64 := by omega
      refine S_aload_0 (q := 28) dX9_solutionColor_27 rfl ?_
      refine S_getR (q := 31) dX9_solutionColor_28 fl_X9_57 (by first | assumption | rfl) (by rfl) rfl ?_
      refine S_aload_0 (q := 32) dX9_solutionColor_31 rfl ?_
      refine S_getR (q := 35) dX9_solutionColor_32 fl_X9_12 (by first | assumption | rfl) (by rfl) rfl ?_
      refine S_aload_0 (q := 36) dX9_solutionColor_35 rfl ?_
      refine S_getI (q := 39) dX9_solutionColor_36 fl_X9_61 (by first | assumption | rfl) (by rfl) rfl ?_
      refine S_iload_1 (q := 40) dX9_solutionColor_39 rfl ?_
      refine S_iconst (q := 41) (nI 1) dX9_solutionColor_40 (by decide) rfl ?_
      refine S_iadd (q := 42) dX9_solutionColor_41 rfl ?_
      rw [hru, nI_add]
      refine S_callV3v (q := 45) dX9_solutionColor_42 lk_X9_249 (by first | assumption | rfl) rfl rfl (k_X6_find (zO_105 (Z := Z)) (gO_1 (Z := Z)) hP g0 g1 g2 (by decide) gcu gce hk.ru (lim := m + 1) (by omega) (by omega)) rfl rfl (Nat.le_of_ble_eq_true rfl) ⟨Nat.le_of_ble_eq_true rfl, Nat.le_of_ble_eq_true rfl⟩ ⟨Nat.le_of_ble_eq_true rfl, Nat.le_of_ble_eq_true rfl⟩ rfl (fun v42 M42 hv42 => ?_)
      obtain ⟨hs1, hs2, hs3, hs4, hs5, hs6, hs7⟩ := hv42
      have hs2 : M42 105 7 = nI (A.sr (m + 1)).1 := hs2
      have hs3 : M42 105 8 = nI (A.sr (m + 1)).2.1 := hs3
      have hs4 : M42 105 9 = nI (if (A.sr (m + 1)).2.2.1 then 1 else 0) := hs4
      have hs5 : (A.sr (m + 1)).2.1 ≤ (A.sr (m + 1)).1 := hs5
      have hs6 : (A.sr (m + 1)).1 ≤ 60 := hs6
      refine S_aload_0 (q := 46) dX9_solutionColor_45 rfl ?_
      refine S_getR (q := 49) dX9_solutionColor_46 fl_X9_57 (by first | assumption | rfl) (by rfl) rfl ?_
      refine S_getI (q := 52) dX9_solutionColor_49 fl_X9_253 (by first | assumption | rfl) (by rfl) rfl ?_
      refine S_if_eq (t := 58) (q := 55) dX9_solutionColor_52 (by decide) rfl (fun hb52 => ?_) (fun hb52 => ?_)
      · have hF : ¬ (A.sr (m + 1)).2.2.1 = true := fun e => absurd (hs4.symm.trans hb52) (by rw [if_pos e]; decide)
        refine S_aload_0 (q := 59) dX9_solutionColor_58 rfl ?_
        refine S_getR (q := 62) dX9_solutionColor_59 fl_X9_57 (by first | assumption | rfl) (by rfl) rfl ?_
        refine S_getI (q := 65) dX9_solutionColor_62 fl_X9_256 (by first | assumption | rfl) (by rfl) rfl ?_
        rw [hs3]
        refine S_iload_1 (q := 66) dX9_solutionColor_65 rfl ?_
        refine S_icmp_le (t := 88) (q := 69) dX9_solutionColor_66 (by decide) rfl (fun hb66 => ?_) (fun hb66 => ?_)
        · have h1 : ¬ m + 1 ≤ (A.sr (m + 1)).2.1 := fun y => absurd ((nI_leI (by omega) (by omega)).mp hb66) (by omega)
          refine S_bipush (q := 90) (-8) dX9_solutionColor_88 (by decide) rfl ?_
          exact S_iret rfl dX9_solutionColor_90 rfl rfl (RES.scr hC (fun a ha => hs1 a (by omega)) (by unfold o_sol; rw [show iw (nI m) 0 19 = some m from hm]; simp only [hl, if_neg hF, if_neg h1]))
        · have h1 : m + 1 ≤ (A.sr (m + 1)).2.1 := Nat.lt_of_not_le (fun y => hb66 ((nI_leI (by omega) (by omega)).mpr y))
          have hsc := hs7 h1
          refine S_aload_0 (q := 70) dX9_solutionColor_69 rfl ?_
          refine S_getR (q := 73) dX9_solutionColor_70 fl_X9_57 (by first | assumption | rfl) (by rfl) rfl ?_
          refine S_aload_0 (q := 74) dX9_solutionColor_73 rfl ?_
          refine S_getR (q := 77) dX9_solutionColor_74 fl_X9_12 (by first | assumption | rfl) (by rfl) rfl ?_
          refine S_iload_2 (q := 78) dX9_solutionColor_77 rfl ?_
          refine S_iload_3 (q := 79) dX9_solutionColor_78 rfl ?_
          refine S_callV2i (q := 82) dX9_solutionColor_79 lk_X9_169 (by first | assumption | rfl) rfl rfl (k_X1_cellAt (gO_1 (Z := Z)) (by rw [hs1 1 (by omega)]; exact g1)) rfl rfl (Nat.le_of_ble_eq_true rfl) ⟨Nat.le_of_ble_eq_true rfl, Nat.le_of_ble_eq_true rfl⟩ ⟨Nat.le_of_ble_eq_true rfl, Nat.le_of_ble_eq_true rfl⟩ rfl (fun v79 M79 hv79 => ?_)
          obtain ⟨e79, rfl⟩ := hv79
          rw [e79]
          refine S_callV1i (q := 85) dX9_solutionColor_82 lk_X9_259 (by first | assumption | rfl) rfl rfl (k_X6_lastSolutionColor (zO_105 (Z := Z)) hij64 (hsc _ hij).1 (hsc _ hij).2.1 (hsc _ hij).2.2) rfl rfl (Nat.le_of_ble_eq_true rfl) ⟨Nat.le_of_ble_eq_true rfl, Nat.le_of_ble_eq_true rfl⟩ ⟨Nat.le_of_ble_eq_true rfl, Nat.le_of_ble_eq_true rfl⟩ rfl (fun v82 M82 hv82 => ?_)
          obtain ⟨e82, rfl⟩ := hv82
          rw [e82]
          refine S_goto (t := 90) dX9_solutionColor_85 (by decide) ?_
          exact S_iret rfl dX9_solutionColor_90 rfl rfl (RES.scr hC (fun a ha => hs1 a (by omega)) (by unfold o_sol; rw [show iw (nI m) 0 19 = some m from hm]; simp only [hl, if_neg hF, if_pos h1]; rfl))
      · have hF : (A.sr (m + 1)).2.2.1 = true := by
          cases e : (A.sr (m + 1)).2.2.1 with
          | true => rfl
          | false => exact absurd (by rw [hs4, e]; rfl) hb52
        refine S_bipush (q := 57) (-7) dX9_solutionColor_55 (by decide) rfl ?_
        exact S_iret rfl dX9_solutionColor_57 rfl rfl (RES.scr hC (fun a ha => hs1 a (by omega)) (by unfold o_sol; rw [show iw (nI m) 0 19 = some m from hm]; simp only [hl, if_pos hF]))
    · have hl := cl_no (A := A) (bI_0.mp hb22)
      refine S_iconst (q := 26) (-1) dX9_solutionColor_25 (by decide) rfl ?_
      exact S_iret rfl dX9_solutionColor_26 rfl rfl (RES.same hC (by unfold o_sol; rw [show iw (nI m) 0 19 = some m from hm]; simp only [hl]))
  · have hm := iw_no (bI_0.mp hb7)
    refine S_bipush (q := 12) (-2) dX9_solutionColor_10 (by decide) rfl ?_
    exact S_iret rfl dX9_solutionColor_12 rfl rfl (RES.same hC (by unfold o_sol; rw [show iw m 0 19 = none from hm]))
set_option maxHeartbeats 4000000 in
set_option maxRecDepth 100000 in
theorem k_X9_clearCells {Z : Lay} {l : Launch} {G : Gd} {b0 : Nat} {M : Mem} {A : Ab}  (hC : CR M A) (hk : A.ok)  : Ct l G b0 yX9_clearCells cX9_clearCells 2 (some .int) (rmZ 3 63) (LYZ Z) (LYZ Z) M [.ref (b0 + 0)] (fun v M' => RES M (o_clear A) v M') := by
  obtain ⟨⟨g0, g1, g2, gcu, gce⟩, hru, hbl, hbd, hsn, hss, ⟨nx, hnx, hx1, hx2, hx3⟩, ⟨htl, htx⟩, ⟨hfl, hfo⟩, htb⟩ := id hC
  have hP := hk.P
  have hr1 := hP.r1
  have hr8 := hP.r8
  have hc1 := hP.c1
  have hc8 := hP.c8
  have hk1 := hP.k1
  have hk3 := hP.k3
  have h64 := rc64 hr8 hc8
  have hH8 := hk.H8
  have hN : A.N = A.P.r + A.P.c := rfl
  refine Ct.of [some (.ref (b0 + 0)), none] (by decide) (Nat.le_of_ble_eq_true rfl) rfl rfl ?_
  refine S_aload_0 (q := 1) dX9_clearCells_0 rfl ?_
  refine S_getR (q := 4) dX9_clearCells_1 fl_X9_12 (by first | assumption | rfl) (by rfl) rfl ?_
  refine S_callV0i (q := 7) dX9_clearCells_4 lk_X9_190 (by first | assumption | rfl) rfl rfl (k_X1_decidedTotal (gO_1 (Z := Z)) g0 g1 hr8 hc8 gce) rfl rfl (Nat.le_of_ble_eq_true rfl) ⟨Nat.le_of_ble_eq_true rfl, Nat.le_of_ble_eq_true rfl⟩ ⟨Nat.le_of_ble_eq_true rfl, Nat.le_of_ble_eq_true rfl⟩ rfl (fun v4 M4 hv4 => ?_)
  obtain ⟨e4, rfl⟩ := hv4
  rw [e4]
  refine S_istore_1 (q := 8) dX9_clearCells_7 rfl ?_
  refine S_aload_0 (q := 9) dX9_clearCells_8 rfl ?_
  refine S_getR (q := 12) dX9_clearCells_9 fl_X9_12 (by first | assumption | rfl) (by rfl) rfl ?_
  refine S_callV0v (q := 15) dX9_clearCells_12 lk_X9_279 (by first | assumption | rfl) rfl rfl (k_X1_fillCandidates (gO_1 (Z := Z)) g2 hk3) rfl rfl (Nat.le_of_ble_eq_true rfl) ⟨Nat.le_of_ble_eq_true rfl, Nat.le_of_ble_eq_true rfl⟩ ⟨Nat.le_of_ble_eq_true rfl, Nat.le_of_ble_eq_true rfl⟩ rfl (fun v12 M12 hv12 => ?_)
  refine S_aload_0 (q := 16) dX9_clearCells_15 rfl ?_
  refine S_getR (q := 19) dX9_clearCells_16 fl_X9_29 (by first | assumption | rfl) (by rfl) rfl ?_
  refine S_callV0v (q := 22) dX9_clearCells_19 lk_X9_105 (by first | assumption | rfl) rfl rfl (k_X2_forget) rfl rfl (Nat.le_of_ble_eq_true rfl) ⟨Nat.le_of_ble_eq_true rfl, Nat.le_of_ble_eq_true rfl⟩ ⟨Nat.le_of_ble_eq_true rfl, Nat.le_of_ble_eq_true rfl⟩ rfl (fun v19 M19 hv19 => ?_)
  subst hv19
  refine S_iload_1 (q := 23) dX9_clearCells_22 rfl ?_
  exact S_iret rfl dX9_clearCells_23 rfl rfl (RES.to (A := A.sG A.P (fun _ => 2 ^ (A.P.k + 1) - 1) []) (hC.nil (fun a ha => by rw [up_n (by omega), hv12.1 a (by omega)]) (hC.1.ce (fun a h1 h2 => by rw [up_n (by omega), hv12.1 a (by omega)]) (fun x hx => ⟨by rw [up_n (by omega)]; exact hv12.2 x (by omega), (fl_16 hk3).1, (fl_16 hk3).2⟩)) hnx (by rw [up_eq, if_neg (by decide), hv12.1 19 (by decide)]; exact hx1) up_s) (fun a ha => by rw [up_n (by omega), hv12.1 a (by omega)]) rfl)