theorem ifc {p q : Prop} [Decidable p] [Decidable q] {a b : Int32} (h : p ↔ q) : (if p then a else b) = if q then a else b := by
  by_cases y : p
  · rw [if_pos y, if_pos (h.mp y)]
  · rw [if_neg y, if_neg (fun z => y (h.mpr z))]
theorem fmT_at {P : Pz} {f : Nat → Nat} {i : Nat} (hi : i < P.r + P.c) : fmT P f (P.r + P.c - i) = if wyL P f i = 0 then nI i else fmT P f (P.r + P.c - (i + 1)) := by
  rw [show P.r + P.c - i = P.r + P.c - (i + 1) + 1 by omega]
  show (if wyL P f (P.r + P.c - (P.r + P.c - (i + 1) + 1)) = 0 then nI (P.r + P.c - (P.r + P.c - (i + 1) + 1)) else _) = _
  rw [show P.r + P.c - (P.r + P.c - (i + 1) + 1) = i by omega]
set_option maxHeartbeats 4000000 in
set_option maxRecDepth 100000 in
theorem k_X9_firstMismatch {Z : Lay} {l : Launch} {G : Gd} {b0 : Nat} {M : Mem} {A : Ab}  (hC : CR M A) (hk : A.ok)  : Ct l G b0 yX9_firstMismatch cX9_firstMismatch 2 (some .int) (rmZ 4 83) (LYZ Z) (LYZ Z) M [.ref (b0 + 0)] (fun v M' => RES M (o_fm A) v M') := by
  obtain ⟨⟨g0, g1, g2, gcu, gce⟩, hru, hbl, hbd, hsn, hss, ⟨nx, hnx, hx1, hx2, hx3⟩, ⟨htl, htx⟩, ⟨hfl, hfo⟩, htb⟩ := id hC
  have hP := hk.P
  have hr1 := hP.r1
  have hr8 := hP.r8
  have hc1 := hP.c1
  have hc8 := hP.c8
  have hk1 := hP.k1
  have hk3 := hP.k3
  have h64 := rc64 hr8 hc8
  have hH8 := hk.H8
  have hN : A.N = A.P.r + A.P.c := rfl
  refine Ct.of [some (.ref (b0 + 0)), none] (by decide) (Nat.le_of_ble_eq_true rfl) rfl rfl ?_
  refine S_aload_0 (q := 1) dX9_firstMismatch_0 rfl ?_
  refine S_getR (q := 4) dX9_firstMismatch_1 fl_X9_12 (by first | assumption | rfl) (by rfl) rfl ?_
  refine S_callV0i (q := 7) dX9_firstMismatch_4 lk_X9_265 (by first | assumption | rfl) rfl rfl (k_X1_isAllDecided (gO_1 (Z := Z)) g0 g1 hr8 hc8 gce) rfl rfl (Nat.le_of_ble_eq_true rfl) ⟨Nat.le_of_ble_eq_true rfl, Nat.le_of_ble_eq_true rfl⟩ ⟨Nat.le_of_ble_eq_true rfl, Nat.le_of_ble_eq_true rfl⟩ rfl (fun v4 M4 hv4 => ?_)
  obtain ⟨e4, rfl⟩ := hv4
  rw [e4]
  refine S_if_ne (t := 13) (q := 10) dX9_firstMismatch_7 (by decide) rfl (fun hb7 => ?_) (fun hb7 => ?_)
  · have hdd := bI_n.mp hb7
    refine S_iconst (q := 14) (nI 0) dX9_firstMismatch_13 (by decide) rfl ?_
    refine S_istore_1 (q := 15) dX9_firstMismatch_14 rfl ?_
    suffices H : ∀ (d : Nat) (i : Nat) (M1 : Mem), (A.P.r + A.P.c) - i = d → i ≤ (A.P.r + A.P.c) → ((∀ a, (a < 69 ∨ 78 ≤ a) → M1 a = M a) ∧ fmT A.P A.f (A.P.r + A.P.c - (i)) = fmT A.P A.f (A.P.r + A.P.c)) → S l G b0 yX9_firstMismatch cX9_firstMismatch 2 (some .int) (rmZ 4 83) (LYZ Z) (fun v M' => RES M (o_fm A) v M') 0 0 0 0 (LYZ Z) 15 [some (.ref (b0 + 0)), some (.int (nI (i)))] [] M1 from H _ 0 _ rfl (by omega) ⟨fun _ _ => rfl, rfl⟩
    intro d
    induction d with
    | zero =>
      intro i M1 hd hi hI
      have e : (A.P.r + A.P.c) = i := by omega
      subst e
      refine S_iload_1 (q := 16) dX9_firstMismatch_15 rfl ?_
      refine S_aload_0 (q := 17) dX9_firstMismatch_16 rfl ?_
      refine S_getR (q := 20) dX9_firstMismatch_17 fl_X9_12 (by first | assumption | rfl) (by rfl) rfl ?_
      refine S_callV0i (q := 23) dX9_firstMismatch_20 lk_X9_111 (by first | assumption | rfl) rfl rfl (k_X1_lineTotal (gO_1 (Z := Z)) (by rw [hI.1 1 (by omega)]; exact g0) (by rw [hI.1 1 (by omega)]; exact g1)) rfl rfl (Nat.le_of_ble_eq_true rfl) ⟨Nat.le_of_ble_eq_true rfl, Nat.le_of_ble_eq_true rfl⟩ ⟨Nat.le_of_ble_eq_true rfl, Nat.le_of_ble_eq_true rfl⟩ rfl (fun v20 M20 hv20 => ?_)
      obtain ⟨e20, rfl⟩ := hv20
      rw [e20]
      refine S_icmp_ge (t := 56) (q := 26) dX9_firstMismatch_23 (by decide) rfl (fun hb23 => ?_) (fun hb23 => ?_)
      · refine S_bipush (q := 58) (-8) dX9_firstMismatch_56 (by decide) rfl ?_
        exact S_iret rfl dX9_firstMismatch_58 rfl rfl (RES.scr hC (fun a ha => hI.1 a (by omega)) (by unfold o_fm; rw [if_pos hdd, show fmT A.P A.f A.N = _ from hI.2.symm, Nat.sub_self]; rfl))
      · exact absurd (Int32.le_refl _) hb23
    | succ d ih =>
      intro i M1 hd hi hI
      have hlt : i < (A.P.r + A.P.c) := by omega
      have hi16 : i < 16 := by omega
      refine S_iload_1 (q := 16) dX9_firstMismatch_15 rfl ?_
      refine S_aload_0 (q := 17) dX9_firstMismatch_16 rfl ?_
      refine S_getR (q := 20) dX9_firstMismatch_17 fl_X9_12 (by first | assumption | rfl) (by rfl) rfl ?_
      refine S_callV0i (q := 23) dX9_firstMismatch_20 lk_X9_111 (by first | assumption | rfl) rfl rfl (k_X1_lineTotal (gO_1 (Z := Z)) (by rw [hI.1 1 (by omega)]; exact g0) (by rw [hI.1 1 (by omega)]; exact g1)) rfl rfl (Nat.le_of_ble_eq_true rfl) ⟨Nat.le_of_ble_eq_true rfl, Nat.le_of_ble_eq_true rfl⟩ ⟨Nat.le_of_ble_eq_true rfl, Nat.le_of_ble_eq_true rfl⟩ rfl (fun v20 M20 hv20 => ?_)
      obtain ⟨e20, rfl⟩ := hv20
      rw [e20]
      refine S_icmp_ge (t := 56) (q := 26) dX9_firstMismatch_23 (by decide) rfl (fun hb23 => ?_) (fun hb23 => ?_)
      · exact absurd hb23 (nI_ge hlt (by omega))
      · refine S_aload_0 (q := 27) dX9_firstMismatch_26 rfl ?_
        refine S_getR (q := 30) dX9_firstMismatch_27 fl_X9_36 (by first | assumption | rfl) (by rfl) rfl ?_
        refine S_aload_0 (q := 31) dX9_firstMismatch_30 rfl ?_
        refine S_getR (q := 34) dX9_firstMismatch_31 fl_X9_12 (by first | assumption | rfl) (by rfl) rfl ?_
        refine S_iload_1 (q := 35) dX9_firstMismatch_34 rfl ?_
        refine S_callV2v (q := 38) dX9_firstMismatch_35 lk_X9_199 (by first | assumption | rfl) rfl rfl (k_X3_load (lO_69 (Z := Z)) (gO_1 (Z := Z)) (by rw [hI.1 1 (by omega)]; exact g0) (by rw [hI.1 1 (by omega)]; exact g1) hr8 hc8 hr1 hc1 hlt (by decide) (gce.fr (hI.1 _ (by omega))) ((gcu.fr (hI.1 _ (by omega)) (hI.1 _ (by omega)) (hI.1 _ (by omega))) i hi16)) rfl rfl (Nat.le_of_ble_eq_true rfl) ⟨Nat.le_of_ble_eq_true rfl, Nat.le_of_ble_eq_true rfl⟩ ⟨Nat.le_of_ble_eq_true rfl, Nat.le_of_ble_eq_true rfl⟩ rfl (fun v35 M35 hv35 => ?_)
        obtain ⟨hs1, hs2, hs3⟩ := hv35
        refine S_aload_0 (q := 39) dX9_firstMismatch_38 rfl ?_
        refine S_getR (q := 42) dX9_firstMismatch_39 fl_X9_36 (by first | assumption | rfl) (by rfl) rfl ?_
        refine S_callV0i (q := 45) dX9_firstMismatch_42 lk_X9_203 (by first | assumption | rfl) rfl rfl (k_X3_total (lO_69 (Z := Z))) rfl rfl (Nat.le_of_ble_eq_true rfl) ⟨Nat.le_of_ble_eq_true rfl, Nat.le_of_ble_eq_true rfl⟩ ⟨Nat.le_of_ble_eq_true rfl, Nat.le_of_ble_eq_true rfl⟩ rfl (fun v42 M42 hv42 => ?_)
        obtain ⟨e42, rfl⟩ := hv42
        rw [e42, hs2.2.2.2.2 0 (Nat.zero_le _) 0 (Nat.zero_le _), show wy (lnLen A.P.r A.P.c i) (A.P.R i) (A.P.len i) (A.P.col i) (fun q => A.f (lnCell A.P.r A.P.c i q)) 0 0 = wyL A.P A.f i from rfl]
        have hwl : wyL A.P A.f i < 2 ^ 30 := Nat.lt_of_le_of_lt (wy_256 (fun j z => hP.h1 i j z) (lnLen_le hr8 hc8) (Nat.zero_le _)) (by decide)
        refine S_if_ne (t := 50) (q := 48) dX9_firstMismatch_45 (by decide) rfl (fun hb45 => ?_) (fun hb45 => ?_)
        · have hz : ¬ wyL A.P A.f i = 0 := fun e => hb45 (by rw [e]; rfl)
          refine S_iinc_1 (q := 53) (nI (i + 1)) dX9_firstMismatch_50 (inc1 _) rfl ?_
          refine S_goto (t := 15) dX9_firstMismatch_53 (by decide) ?_
          exact ih (i + 1) _ (by omega) hlt ⟨fun a ha => by rw [hs1 a ha]; exact hI.1 a ha, by rw [← hI.2, fmT_at hlt, if_neg hz]⟩
        · have hz : wyL A.P A.f i = 0 := nI_inj (by omega) (by decide) hb45
          refine S_iload_1 (q := 49) dX9_firstMismatch_48 rfl ?_
          exact S_iret rfl dX9_firstMismatch_49 rfl rfl (RES.scr hC (fun a ha => by rw [hs1 a (by omega)]; exact hI.1 a (by omega)) (by unfold o_fm; rw [if_pos hdd, show fmT A.P A.f A.N = _ from hI.2.symm, fmT_at hlt, if_pos hz]))
  · have hdd := bI_0.mp hb7
    refine S_bipush (q := 12) (-6) dX9_firstMismatch_10 (by decide) rfl ?_
    exact S_iret rfl dX9_firstMismatch_12 rfl rfl (RES.same hC (by unfold o_fm; rw [if_neg hdd]))
theorem lcg_s {s : Int32} {i : Nat} : lcg s i * 1103515245 + nI 12345 = lcg s (i + 1) := by
  rw [show nI 12345 = (12345 : Int32) by decide]; rfl
theorem drC_le {s : Int32} {k x : Nat} (hk : k ≤ 3) : drC s k x ≤ 3 := by
  have := Nat.mod_lt ((lcg s (x + 1)).toBitVec.toNat / 65536) (show 0 < k + 1 by omega)
  unfold drC
  omega
set_option maxHeartbeats 4000000 in
set_option maxRecDepth 100000 in
theorem k_X9_drawPicture {Z : Lay} {l : Launch} {G : Gd} {b0 : Nat} {M : Mem} {A : Ab} {s : Int32}  (hC : CR M A) (hk : A.ok)  : Ct l G b0 yX9_drawPicture cX9_drawPicture 7 (some .int) (rmZ 4 90) (LYZ Z) (LYZ Z) M [.ref (b0 + 0), .int s] (fun v M' => RES M (o_draw A s) v M') := by
  obtain ⟨⟨g0, g1, g2, gcu, gce⟩, hru, hbl, hbd, hsn, hss, ⟨nx, hnx, hx1, hx2, hx3⟩, ⟨htl, htx⟩, ⟨hfl, hfo⟩, htb⟩ := id hC
  have hP := hk.P
  have hr1 := hP.r1
  have hr8 := hP.r8
  have hc1 := hP.c1
  have hc8 := hP.c8
  have hk1 := hP.k1
  have hk3 := hP.k3
  have h64 := rc64 hr8 hc8
  have hH8 := hk.H8
  have hN : A.N = A.P.r + A.P.c := rfl
  refine Ct.of [some (.ref (b0 + 0)), some (.int s), none, none, none, none, none] (by decide) (Nat.le_of_ble_eq_true rfl) rfl rfl ?_
  refine S_aload_0 (q := 1) dX9_drawPicture_0 rfl ?_
  refine S_getR (q := 4) dX9_drawPicture_1 fl_X9_12 (by first | assumption | rfl) (by rfl) rfl ?_
  refine S_getI (q := 7) dX9_drawPicture_4 fl_X9_121 (by first | assumption | rfl) (by rfl) rfl ?_
  refine S_iconst (q := 8) (nI 1) dX9_drawPicture_7 (by decide) rfl ?_
  refine S_iadd (q := 9) dX9_drawPicture_8 rfl ?_
  rw [g2, nI_add]
  refine S_istore_2 (q := 10) dX9_drawPicture_9 rfl ?_
  refine S_iload_1 (q := 11) dX9_drawPicture_10 rfl ?_
  refine S_istore_3 (q := 12) dX9_drawPicture_11 rfl ?_
  refine S_iconst (q := 13) (nI 0) dX9_drawPicture_12 (by decide) rfl ?_
  refine S_istore_4 (q := 15) dX9_drawPicture_13 rfl ?_
  refine S_iconst (q := 16) (nI 0) dX9_drawPicture_15 (by decide) rfl ?_
  refine S_istore_5 (q := 18) dX9_drawPicture_16 rfl ?_
  suffices H : ∀ (d : Nat) (i : Nat) (M1 : Mem), (A.P.r * A.P.c) - i = d → i ≤ (A.P.r * A.P.c) → ((∀ a, a ≠ 6 → M1 a = M a) ∧ ∀ x, x < i → M1 6 x = nI (2 ^ drC s A.P.k x)) → S l G b0 yX9_drawPicture cX9_drawPicture 7 (some .int) (rmZ 4 90) (LYZ Z) (fun v M' => RES M (o_draw A s) v M') 0 0 0 0 (LYZ Z) 18 [some (.ref (b0 + 0)), some (.int s), some (.int (nI (A.P.k + 1))), some (.int (lcg s (i))), some (.int (nI (sm (fun x => if drC s A.P.k x = 0 then 0 else 1) (i)))), some (.int (nI (i))), none] [] M1 from H _ 0 _ rfl (by omega) ⟨fun _ _ => rfl, fun x hx => absurd hx (Nat.not_lt_zero x)⟩
  intro d
  induction d with
  | zero =>
    intro i M1 hd hi hI
    have e : (A.P.r * A.P.c) = i := by omega
    subst e
    refine S_iload_5 (q := 20) dX9_drawPicture_18 rfl ?_
    refine S_aload_0 (q := 21) dX9_drawPicture_20 rfl ?_
    refine S_getR (q := 24) dX9_drawPicture_21 fl_X9_12 (by first | assumption | rfl) (by rfl) rfl ?_
    refine S_callV0i (q := 27) dX9_drawPicture_24 lk_X9_275 (by first | assumption | rfl) rfl rfl (k_X1_cellTotal (gO_1 (Z := Z)) (by rw [hI.1 1 (by omega)]; exact g0) (by rw [hI.1 1 (by omega)]; exact g1)) rfl rfl (Nat.le_of_ble_eq_true rfl) ⟨Nat.le_of_ble_eq_true rfl, Nat.le_of_ble_eq_true rfl⟩ ⟨Nat.le_of_ble_eq_true rfl, Nat.le_of_ble_eq_true rfl⟩ rfl (fun v24 M24 hv24 => ?_)
    obtain ⟨e24, rfl⟩ := hv24
    rw [e24]
    refine S_icmp_ge (t := 84) (q := 30) dX9_drawPicture_27 (by decide) rfl (fun hb27 => ?_) (fun hb27 => ?_)
    · have hce : CE M1 6 (A.P.r * A.P.c) (fun x => 2 ^ drC s A.P.k x) := fun x hx => ⟨hI.2 x hx, (p2_16 (drC_le hk3)).1, (p2_16 (drC_le hk3)).2⟩
      refine S_aload_0 (q := 85) dX9_drawPicture_84 rfl ?_
      refine S_getR (q := 88) dX9_drawPicture_85 fl_X9_12 (by first | assumption | rfl) (by rfl) rfl ?_
      refine S_callV0v (q := 91) dX9_drawPicture_88 lk_X9_269 (by first | assumption | rfl) rfl rfl (k_X1_describePicture (gO_1 (Z := Z)) (by rw [hI.1 1 (by omega)]; exact g0) (by rw [hI.1 1 (by omega)]; exact g1) hr8 hc8 hr1 hc1 hce) rfl rfl (Nat.le_of_ble_eq_true rfl) ⟨Nat.le_of_ble_eq_true rfl, Nat.le_of_ble_eq_true rfl⟩ ⟨Nat.le_of_ble_eq_true rfl, Nat.le_of_ble_eq_true rfl⟩ rfl (fun v88 M88 hv88 => ?_)
      have hcl : CLU M88 2 (pcP A.P (fun x => 2 ^ drC s A.P.k x)) := PIC.clu hP hce.gf hv88.2
      refine S_aload_0 (q := 92) dX9_drawPicture_91 rfl ?_
      refine S_getR (q := 95) dX9_drawPicture_92 fl_X9_29 (by first | assumption | rfl) (by rfl) rfl ?_
      refine S_callV0v (q := 98) dX9_drawPicture_95 lk_X9_105 (by first | assumption | rfl) rfl rfl (k_X2_forget) rfl rfl (Nat.le_of_ble_eq_true rfl) ⟨Nat.le_of_ble_eq_true rfl, Nat.le_of_ble_eq_true rfl⟩ ⟨Nat.le_of_ble_eq_true rfl, Nat.le_of_ble_eq_true rfl⟩ rfl (fun v95 M95 hv95 => ?_)
      subst hv95
      refine S_iload_4 (q := 100) dX9_drawPicture_98 rfl ?_
      exact S_iret rfl dX9_drawPicture_100 rfl rfl (RES.to (A := A.sG (pcP A.P (fun x => 2 ^ drC s A.P.k x)) (fun x => 2 ^ drC s A.P.k x) []) (hC.nil (fun a ha => by rw [up_n (by omega), hv88.1 a (by omega) (by omega) (by omega), hI.1 a (by omega)]) ⟨by rw [up_n (by omega), hv88.1 1 (by omega) (by omega) (by omega), hI.1 1 (by omega)]; exact g0, by rw [up_n (by omega), hv88.1 1 (by omega) (by omega) (by omega), hI.1 1 (by omega)]; exact g1, by rw [up_n (by omega), hv88.1 1 (by omega) (by omega) (by omega), hI.1 1 (by omega)]; exact g2, hcl.fr (up_n (by omega)) (up_n (by omega)) (up_n (by omega)), hce.fr (by rw [up_n (by omega), hv88.1 _ (by omega) (by omega) (by omega)])⟩ hnx (by rw [up_eq, if_neg (by decide), hv88.1 19 (by omega) (by omega) (by omega), hI.1 19 (by omega)]; exact hx1) up_s) (fun a ha => by rw [up_n (by omega), hv88.1 a (by omega) (by omega) (by omega), hI.1 a (by omega)]) rfl)
    · exact absurd (Int32.le_refl _) hb27
  | succ d ih =>
    intro i M1 hd hi hI
    have hlt : i < (A.P.r * A.P.c) := by omega
    refine S_iload_5 (q := 20) dX9_drawPicture_18 rfl ?_
    refine S_aload_0 (q := 21) dX9_drawPicture_20 rfl ?_
    refine S_getR (q := 24) dX9_drawPicture_21 fl_X9_12 (by first | assumption | rfl) (by rfl) rfl ?_
    refine S_callV0i (q := 27) dX9_drawPicture_24 lk_X9_275 (by first | assumption | rfl) rfl rfl (k_X1_cellTotal (gO_1 (Z := Z)) (by rw [hI.1 1 (by omega)]; exact g0) (by rw [hI.1 1 (by omega)]; exact g1)) rfl rfl (Nat.le_of_ble_eq_true rfl) ⟨Nat.le_of_ble_eq_true rfl, Nat.le_of_ble_eq_true rfl⟩ ⟨Nat.le_of_ble_eq_true rfl, Nat.le_of_ble_eq_true rfl⟩ rfl (fun v24 M24 hv24 => ?_)
    obtain ⟨e24, rfl⟩ := hv24
    rw [e24]
    refine S_icmp_ge (t := 84) (q := 30) dX9_drawPicture_27 (by decide) rfl (fun hb27 => ?_) (fun hb27 => ?_)
    · exact absurd hb27 (nI_ge hlt (by omega))
    · refine S_iload_3 (q := 31) dX9_drawPicture_30 rfl ?_
      refine S_ldcw (q := 34) _ dX9_drawPicture_31 ko_X9_278 rfl ?_
      refine S_imul (q := 35) dX9_drawPicture_34 rfl ?_
      refine S_sipush (q := 38) (nI 12345) dX9_drawPicture_35 (by decide) rfl ?_
      refine S_iadd (q := 39) dX9_drawPicture_38 rfl ?_
      rw [lcg_s]
      refine S_istore_3 (q := 40) dX9_drawPicture_39 rfl ?_
      refine S_iload_2 (q := 41) dX9_drawPicture_40 rfl ?_
      refine S_if_le (t := 53) (q := 44) dX9_drawPicture_41 (by decide) rfl (fun hb41 => ?_) (fun hb41 => ?_)
      · exact absurd ((nI_leI (a := A.P.k + 1) (b := 0) (by omega) (by decide)).mp hb41) (by omega)
      · refine S_iload_3 (q := 45) dX9_drawPicture_44 rfl ?_
        refine S_bipush (q := 47) (nI 16) dX9_drawPicture_45 (by decide) rfl ?_
        refine S_iushr (q := 48) dX9_drawPicture_47 rfl ?_
        rw [ush16]
        refine S_iload_2 (q := 49) dX9_drawPicture_48 rfl ?_
        refine S_irem (q := 50) dX9_drawPicture_49 (nI_n0 (show A.P.k + 1 ≠ 0 by omega) (by omega)) rfl ?_
        rw [pk_rem (by have := (lcg s (i + 1)).toBitVec.isLt; omega) (by omega) (by omega), show (lcg s (i + 1)).toBitVec.toNat / 65536 % (A.P.k + 1) = drC s A.P.k i from rfl]
        have hd3 := drC_le (s := s) (x := i) hk3
        refine S_goto (t := 54) dX9_drawPicture_50 (by decide) ?_
        refine S_istore_6 (q := 56) dX9_drawPicture_54 rfl ?_
        refine S_aload_0 (q := 57) dX9_drawPicture_56 rfl ?_
        refine S_getR (q := 60) dX9_drawPicture_57 fl_X9_12 (by first | assumption | rfl) (by rfl) rfl ?_
        refine S_getR (q := 63) dX9_drawPicture_60 fl_X9_165 (by first | assumption | rfl) (by rfl) rfl ?_
        refine S_iload_5 (q := 65) dX9_drawPicture_63 rfl ?_
        refine S_iconst (q := 66) (nI 1) dX9_drawPicture_65 (by decide) rfl ?_
        refine S_iload_6 (q := 68) dX9_drawPicture_66 rfl ?_
        refine S_ishl (q := 69) dX9_drawPicture_68 rfl ?_
        rw [nI_shl (show drC s A.P.k i < 32 by omega) (by rw [Nat.one_mul]; exact Nat.lt_trans (p2_16 hd3).2 (by decide)), Nat.one_mul]
        refine S_iastE (i := i) (q := 70) dX9_drawPicture_69 (by first | assumption | rfl) (by first | (simp only [nI_add, pk_mul, nI_1]; done) | rfl) (by omega) (by decide) rfl ?_
        refine S_iload_6 (q := 72) dX9_drawPicture_70 rfl ?_
        refine S_if_eq (t := 78) (q := 75) dX9_drawPicture_72 (by decide) rfl (fun hb72 => ?_) (fun hb72 => ?_)
        · have hz : drC s A.P.k i = 0 := nI_inj (by omega) (by decide) hb72
          have es : sm (fun x => if drC s A.P.k x = 0 then 0 else 1) (i + 1) = sm (fun x => if drC s A.P.k x = 0 then 0 else 1) i := by show _ + (if _ then _ else _) = _; rw [if_pos hz]; rfl
          refine S_iinc_5 (q := 81) (nI (i + 1)) dX9_drawPicture_78 (inc1 _) rfl ?_
          refine S_goto (t := 18) dX9_drawPicture_81 (by decide) ?_
          rw [← es]
          refine S_fgt6 ?_
          exact ih (i + 1) _ (by omega) hlt ⟨fun a ha => by rw [up_n ha]; exact hI.1 a ha, fun x hx => by
            rw [up_eq]
            by_cases e : x = i
            · rw [if_pos ⟨rfl, e⟩, e]
            · rw [if_neg (fun y => e y.2)]; exact hI.2 x (by omega)⟩
        · have hz : ¬ drC s A.P.k i = 0 := fun e => hb72 (by rw [e]; rfl)
          have es : sm (fun x => if drC s A.P.k x = 0 then 0 else 1) (i + 1) = sm (fun x => if drC s A.P.k x = 0 then 0 else 1) i + 1 := by show _ + (if _ then _ else _) = _; rw [if_neg hz]
          refine S_iinc_4 (q := 78) (nI (sm (fun x => if drC s A.P.k x = 0 then 0 else 1) i + 1)) dX9_drawPicture_75 (inc1 _) rfl ?_
          refine S_iinc_5 (q := 81) (nI (i + 1)) dX9_drawPicture_78 (inc1 _) rfl ?_
          refine S_goto (t := 18) dX9_drawPicture_81 (by decide) ?_
          rw [← es]
          refine S_fgt6 ?_
          exact ih (i + 1) _ (by omega) hlt ⟨fun a ha => by rw [up_n ha]; exact hI.1 a ha, fun x hx => by
            rw [up_eq]
            by_cases e : x = i
            · rw [if_pos ⟨rfl, e⟩, e]
            · rw [if_neg (fun y => e y.2)]; exact hI.2 x (by omega)⟩
theorem prA_at {P : Pz} {f g : Nat → Nat} {n m : Nat} (h : prX P (P.r * P.c) f n = .inr (g, m)) : prA P f n = if WT P g < WT P f then prA P g m else .inr (g, m) := by
  rw [prA, h]
  simp only
  by_cases y : WT P g < WT P f
  · rw [dif_pos y, if_pos y]
  · rw [dif_neg y, if_neg y]
theorem prA_bad {P : Pz} {f : Nat → Nat} {n : Nat} {e : Nat × Nat} (h : prX P (P.r * P.c) f n = .inl e) : prA P f n = .inl e := by
  rw [prA, h]
set_option maxHeartbeats 4000000 in
set_option maxRecDepth 100000 in
theorem q_probeEnd {Z : Lay} {l : Launch} {G : Gd} {b0 : Nat} {M : Mem} {A : Ab} {M2 : Mem} {ls3 ls4 : Option Value} {j m : Nat} (hC : CR M A) (hk : A.ok) (hf : ∀ a, (a < 7 ∨ (13 ≤ a ∧ a < 69) ∨ 125 ≤ a) → M2 a = M a) (e1 : M2 88 3 = nI j) (e2 : M2 88 2 = nI m) (ho : o_all A = (A.sB (some (j, m)), -4)) {d : Option Value} : S l G b0 yX9_probeAll cX9_probeAll 5 (some .int) (rmZ 7 168) (LYZ Z) (fun v M' => RES M (o_all A) v M') 0 0 0 0 (LYZ Z) 87 [some (.ref (b0 + 0)), some (.int (nI 0)), d, ls3, ls4] [] M2 := by
  have hC3 : CR M2 A := hC.fr (fun a ha => hf a (by omega))
  refine S_iload_1 (q := 88) dX9_probeAll_87 rfl ?_
  refine S_if_ne (t := 110) (q := 91) dX9_probeAll_88 (by decide) rfl (fun hb88 => ?_) (fun hb88 => ?_)
  · exact absurd rfl hb88
  · refine S_aload_0 (q := 92) dX9_probeAll_91 rfl ?_
    refine S_aload_0 (q := 93) dX9_probeAll_92 rfl ?_
    refine S_getR (q := 96) dX9_probeAll_93 fl_X9_50 (by first | assumption | rfl) (by rfl) rfl ?_
    refine S_getI (q := 99) dX9_probeAll_96 fl_X9_248 (by first | assumption | rfl) (by rfl) rfl ?_
    rw [e1]
    refine S_aload_0 (q := 100) dX9_probeAll_99 rfl ?_
    refine S_getR (q := 103) dX9_probeAll_100 fl_X9_50 (by first | assumption | rfl) (by rfl) rfl ?_
    refine S_getI (q := 106) dX9_probeAll_103 fl_X9_242 (by first | assumption | rfl) (by rfl) rfl ?_
    rw [e2]
    refine S_callV2i (q := 109) dX9_probeAll_106 lk_X9_216 (by first | assumption | rfl) rfl rfl (k_X9_remember) rfl rfl (Nat.le_of_ble_eq_true rfl) ⟨Nat.le_of_ble_eq_true rfl, Nat.le_of_ble_eq_true rfl⟩ ⟨Nat.le_of_ble_eq_true rfl, Nat.le_of_ble_eq_true rfl⟩ rfl (fun v106 M106 hv106 => ?_)
    obtain ⟨e106, rfl⟩ := hv106
    rw [e106]
    exact S_iret rfl dX9_probeAll_109 rfl rfl (RES.to (A := A.sB (some (j, m))) (CR.bad hC3 rfl rfl) (fun a ha => by rw [up_n (by omega), up_n (by omega)]; exact hf a (by omega)) ho)
set_option maxHeartbeats 4000000 in
set_option maxRecDepth 100000 in
theorem q_probeDone {Z : Lay} {l : Launch} {G : Gd} {b0 : Nat} {M : Mem} {A : Ab} {M2 : Mem} {ls3 ls4 : Option Value} {m : Nat} {g : Nat → Nat} (hC : CR M A) (hk : A.ok) (hf : ∀ a, (a < 7 ∨ (13 ≤ a ∧ a < 69) ∨ 125 ≤ a) → M2 a = M a) (hw : GR M2 7 A.P g) (e2 : M2 88 2 = nI m) (ho : o_all A = (A.sG A.P g A.ps, nI m)) {d : Option Value} : S l G b0 yX9_probeAll cX9_probeAll 5 (some .int) (rmZ 7 168) (LYZ Z) (fun v M' => RES M (o_all A) v M') 0 0 0 0 (LYZ Z) 87 [some (.ref (b0 + 0)), some (.int (nI 1)), d, ls3, ls4] [] M2 := by
  have hC3 : CR M2 A := hC.fr (fun a ha => hf a (by omega))
  refine S_iload_1 (q := 88) dX9_probeAll_87 rfl ?_
  refine S_if_ne (t := 110) (q := 91) dX9_probeAll_88 (by decide) rfl (fun hb88 => ?_) (fun hb88 => ?_)
  · refine S_aload_0 (q := 111) dX9_probeAll_110 rfl ?_
    refine S_callV0v (q := 114) dX9_probeAll_111 lk_X9_219 (by first | assumption | rfl) rfl rfl (k_X9_commitWork hC3 hk hw) rfl rfl (Nat.le_of_ble_eq_true rfl) ⟨Nat.le_of_ble_eq_true rfl, Nat.le_of_ble_eq_true rfl⟩ ⟨Nat.le_of_ble_eq_true rfl, Nat.le_of_ble_eq_true rfl⟩ rfl (fun v111 M111 hv111 => ?_)
    refine S_aload_0 (q := 115) dX9_probeAll_114 rfl ?_
    refine S_getR (q := 118) dX9_probeAll_115 fl_X9_50 (by first | assumption | rfl) (by rfl) rfl ?_
    refine S_getI (q := 121) dX9_probeAll_118 fl_X9_242 (by first | assumption | rfl) (by rfl) rfl ?_
    rw [hv111.2 88 (by omega), e2]
    exact S_iret rfl dX9_probeAll_121 rfl rfl (RES.to hv111.1 (fun a ha => by rw [hv111.2 a (by omega)]; exact hf a (by omega)) ho)
  · exact absurd hb88 (by decide)
set_option maxHeartbeats 4000000 in
set_option maxRecDepth 100000 in
theorem q_probeLoop {Z : Lay} {l : Launch} {G : Gd} {b0 : Nat} {M : Mem} {A : Ab} {f0 : Nat → Nat} {z0 : Nat} (hC : CR M A) (hk : A.ok) (hs0 : spr A.P A.f = .inr (f0, z0)) (hf0 : GF A.P f0) : ∀ (w : Nat) (f : Nat → Nat) (n i : Nat) (M1 : Mem) (ls4 : Option Value), WT A.P f = w → WT A.P f + i ≤ WT A.P f0 → GF A.P f → (∀ i, i < A.P.r + A.P.c → stbl A.P f i) → GR M1 7 A.P f → M1 88 2 = nI n → n ≤ 2 ^ 20 - w → (∀ a, (a < 7 ∨ (13 ≤ a ∧ a < 69) ∨ 125 ≤ a) → M1 a = M a) → prA A.P f n = prA A.P f0 0 → S l G b0 yX9_probeAll cX9_probeAll 5 (some .int) (rmZ 7 168) (LYZ Z) (fun v M' => RES M (o_all A) v M') 0 0 0 0 (LYZ Z) 27 [some (.ref (b0 + 0)), some (.int (nI 1)), some (.int (nI 0)), some (.int (nI i)), ls4] [] M1 := by
  obtain ⟨⟨g0, g1, g2, gcu, gce⟩, hru, hbl, hbd, hsn, hss, ⟨nx, hnx, hx1, hx2, hx3⟩, ⟨htl, htx⟩, ⟨hfl, hfo⟩, htb⟩ := id hC
  have hP := hk.P
  have hr1 := hP.r1
  have hr8 := hP.r8
  have hc1 := hP.c1
  have hc8 := hP.c8
  have hk1 := hP.k1
  have hk3 := hP.k3
  have h64 := rc64 hr8 hc8
  have hH8 := hk.H8
  have hN : A.N = A.P.r + A.P.c := rfl
  intro w
  induction w using Nat.strongRecOn with
  | ind w ih =>
    intro f n i M1 ls4 hwt hwi hgf hst1 hw1 hn1 hn2 hfr hpr
    have h192 := WT_192 hP hf0 hgf
    have h256 := WT_le hP (f := f)
    cases hx : prX A.P (A.P.r * A.P.c) f n with
    | inl e =>
      obtain ⟨j, m⟩ := e
      refine S_iload_1 (q := 28) dX9_probeAll_27 rfl ?_
      refine S_if_eq (t := 87) (q := 31) dX9_probeAll_28 (by decide) rfl (fun hb28 => ?_) (fun hb28 => ?_)
      · exact absurd hb28 (by decide)
      · refine S_iload_2 (q := 32) dX9_probeAll_31 rfl ?_
        refine S_if_ne (t := 87) (q := 35) dX9_probeAll_32 (by decide) rfl (fun hb32 => ?_) (fun hb32 => ?_)
        · exact absurd rfl hb32
        · refine S_iload_3 (q := 36) dX9_probeAll_35 rfl ?_
          refine S_sipush (q := 39) (nI 192) dX9_probeAll_36 (by decide) rfl ?_
          refine S_icmp_gt (t := 87) (q := 42) dX9_probeAll_39 (by decide) rfl (fun hb39 => ?_) (fun hb39 => ?_)
          · exact absurd ((nI_ltI (a := 192) (by decide) (by omega)).mp hb39) (by omega)
          · refine S_aload_0 (q := 43) dX9_probeAll_42 rfl ?_
            refine S_getR (q := 46) dX9_probeAll_43 fl_X9_50 (by first | assumption | rfl) (by rfl) rfl ?_
            refine S_getI (q := 49) dX9_probeAll_46 fl_X9_242 (by first | assumption | rfl) (by rfl) rfl ?_
            rw [hn1]
            refine S_istore_4 (q := 51) dX9_probeAll_49 rfl ?_
            refine S_aload_0 (q := 52) dX9_probeAll_51 rfl ?_
            refine S_getR (q := 55) dX9_probeAll_52 fl_X9_50 (by first | assumption | rfl) (by rfl) rfl ?_
            refine S_aload_0 (q := 56) dX9_probeAll_55 rfl ?_
            refine S_getR (q := 59) dX9_probeAll_56 fl_X9_16 (by first | assumption | rfl) (by rfl) rfl ?_
            refine S_callV1i (q := 62) dX9_probeAll_59 lk_X9_245 (by first | assumption | rfl) rfl rfl (k_X4_probeRound (qO_88 (Z := Z)) (gO_7 (Z := Z)) hP hw1.1 hw1.2.1 (by decide) hw1.2.2.2.1 hw1.2.2.1 hw1.2.2.2.2 hn1 hst1) rfl rfl (Nat.le_of_ble_eq_true rfl) ⟨Nat.le_of_ble_eq_true rfl, Nat.le_of_ble_eq_true rfl⟩ ⟨Nat.le_of_ble_eq_true rfl, Nat.le_of_ble_eq_true rfl⟩ rfl (fun v59 M59 hv59 => ?_)
            obtain ⟨hs1, hs2, hs3⟩ := hv59
            obtain ⟨rfl, e1, e2⟩ := hs2 j m hx
            refine S_istore_1 (q := 63) dX9_probeAll_62 rfl ?_
            refine S_aload_0 (q := 64) dX9_probeAll_63 rfl ?_
            refine S_getR (q := 67) dX9_probeAll_64 fl_X9_50 (by first | assumption | rfl) (by rfl) rfl ?_
            refine S_getI (q := 70) dX9_probeAll_67 fl_X9_242 (by first | assumption | rfl) (by rfl) rfl ?_
            rw [e2]
            refine S_iload_4 (q := 72) dX9_probeAll_70 rfl ?_
            refine S_icmp_ne (t := 79) (q := 75) dX9_probeAll_72 (by decide) rfl (fun hb72 => ?_) (fun hb72 => ?_)
            · refine S_iconst (q := 80) (nI 0) dX9_probeAll_79 (by decide) rfl ?_
              refine S_istore_2 (q := 81) dX9_probeAll_80 rfl ?_
              refine S_iinc_3 (q := 84) (nI (i + 1)) dX9_probeAll_81 (inc1 _) rfl ?_
              refine S_goto (t := 27) dX9_probeAll_84 (by decide) ?_
              refine S_iload_1 (q := 28) dX9_probeAll_27 rfl ?_
              refine S_if_eq (t := 87) (q := 31) dX9_probeAll_28 (by decide) rfl (fun _ => ?_) (fun y => absurd rfl y)
              exact q_probeEnd hC hk (fun a ha => by rw [hs1 a (by omega) (by omega)]; exact hfr a ha) e1 e2 (by unfold o_all; rw [hs0]; simp only; rw [← hpr, prA_bad hx])
            · refine S_iconst (q := 76) (nI 1) dX9_probeAll_75 (by decide) rfl ?_
              refine S_goto (t := 80) dX9_probeAll_76 (by decide) ?_
              refine S_istore_2 (q := 81) dX9_probeAll_80 rfl ?_
              refine S_iinc_3 (q := 84) (nI (i + 1)) dX9_probeAll_81 (inc1 _) rfl ?_
              refine S_goto (t := 27) dX9_probeAll_84 (by decide) ?_
              refine S_iload_1 (q := 28) dX9_probeAll_27 rfl ?_
              refine S_if_eq (t := 87) (q := 31) dX9_probeAll_28 (by decide) rfl (fun _ => ?_) (fun y => absurd rfl y)
              exact q_probeEnd hC hk (fun a ha => by rw [hs1 a (by omega) (by omega)]; exact hfr a ha) e1 e2 (by unfold o_all; rw [hs0]; simp only; rw [← hpr, prA_bad hx])
    | inr q =>
      obtain ⟨g, m⟩ := q
      obtain ⟨r1, r2, r3, r4, r5⟩ := prX_ok hP (A.P.r * A.P.c) f n g m (Nat.le_refl _) hgf hst1 hx
      refine S_iload_1 (q := 28) dX9_probeAll_27 rfl ?_
      refine S_if_eq (t := 87) (q := 31) dX9_probeAll_28 (by decide) rfl (fun hb28 => ?_) (fun hb28 => ?_)
      · exact absurd hb28 (by decide)
      · refine S_iload_2 (q := 32) dX9_probeAll_31 rfl ?_
        refine S_if_ne (t := 87) (q := 35) dX9_probeAll_32 (by decide) rfl (fun hb32 => ?_) (fun hb32 => ?_)
        · exact absurd rfl hb32
        · refine S_iload_3 (q := 36) dX9_probeAll_35 rfl ?_
          refine S_sipush (q := 39) (nI 192) dX9_probeAll_36 (by decide) rfl ?_
          refine S_icmp_gt (t := 87) (q := 42) dX9_probeAll_39 (by decide) rfl (fun hb39 => ?_) (fun hb39 => ?_)
          · exact absurd ((nI_ltI (a := 192) (by decide) (by omega)).mp hb39) (by omega)
          · refine S_aload_0 (q := 43) dX9_probeAll_42 rfl ?_
            refine S_getR (q := 46) dX9_probeAll_43 fl_X9_50 (by first | assumption | rfl) (by rfl) rfl ?_
            refine S_getI (q := 49) dX9_probeAll_46 fl_X9_242 (by first | assumption | rfl) (by rfl) rfl ?_
            rw [hn1]
            refine S_istore_4 (q := 51) dX9_probeAll_49 rfl ?_
            refine S_aload_0 (q := 52) dX9_probeAll_51 rfl ?_
            refine S_getR (q := 55) dX9_probeAll_52 fl_X9_50 (by first | assumption | rfl) (by rfl) rfl ?_
            refine S_aload_0 (q := 56) dX9_probeAll_55 rfl ?_
            refine S_getR (q := 59) dX9_probeAll_56 fl_X9_16 (by first | assumption | rfl) (by rfl) rfl ?_
            refine S_callV1i (q := 62) dX9_probeAll_59 lk_X9_245 (by first | assumption | rfl) rfl rfl (k_X4_probeRound (qO_88 (Z := Z)) (gO_7 (Z := Z)) hP hw1.1 hw1.2.1 (by decide) hw1.2.2.2.1 hw1.2.2.1 hw1.2.2.2.2 hn1 hst1) rfl rfl (Nat.le_of_ble_eq_true rfl) ⟨Nat.le_of_ble_eq_true rfl, Nat.le_of_ble_eq_true rfl⟩ ⟨Nat.le_of_ble_eq_true rfl, Nat.le_of_ble_eq_true rfl⟩ rfl (fun v59 M59 hv59 => ?_)
            obtain ⟨hs1, hs2, hs3⟩ := hv59
            obtain ⟨rfl, e1, e2⟩ := hs3 g m hx
            have hw3 : GR M59 7 A.P g := hw1.ce (fun a h1 h2 => hs1 a (by omega) (by omega)) e1
            have hf3 : ∀ a, (a < 7 ∨ (13 ≤ a ∧ a < 69) ∨ 125 ≤ a) → M59 a = M a := fun a ha => by rw [hs1 a (by omega) (by omega)]; exact hfr a ha
            refine S_istore_1 (q := 63) dX9_probeAll_62 rfl ?_
            refine S_aload_0 (q := 64) dX9_probeAll_63 rfl ?_
            refine S_getR (q := 67) dX9_probeAll_64 fl_X9_50 (by first | assumption | rfl) (by rfl) rfl ?_
            refine S_getI (q := 70) dX9_probeAll_67 fl_X9_242 (by first | assumption | rfl) (by rfl) rfl ?_
            rw [e2]
            refine S_iload_4 (q := 72) dX9_probeAll_70 rfl ?_
            refine S_icmp_ne (t := 79) (q := 75) dX9_probeAll_72 (by decide) rfl (fun hb72 => ?_) (fun hb72 => ?_)
            · have hmn : m ≠ n := fun y => hb72 (by rw [y])
              have hnl : WT A.P g < WT A.P f := by omega
              refine S_iconst (q := 80) (nI 0) dX9_probeAll_79 (by decide) rfl ?_
              refine S_istore_2 (q := 81) dX9_probeAll_80 rfl ?_
              refine S_iinc_3 (q := 84) (nI (i + 1)) dX9_probeAll_81 (inc1 _) rfl ?_
              refine S_goto (t := 27) dX9_probeAll_84 (by decide) ?_
              exact ih (WT A.P g) (by omega) g m (i + 1) M59 _ rfl (by omega) r1 r2 hw3 e2 (by omega) hf3 (by rw [← hpr, prA_at hx, if_pos hnl])
            · have hmn : m = n := nI_inj (by omega) (by omega) hb72
              have hnl : ¬ WT A.P g < WT A.P f := by rw [r5 hmn]; exact Nat.lt_irrefl _
              refine S_iconst (q := 76) (nI 1) dX9_probeAll_75 (by decide) rfl ?_
              refine S_goto (t := 80) dX9_probeAll_76 (by decide) ?_
              refine S_istore_2 (q := 81) dX9_probeAll_80 rfl ?_
              refine S_iinc_3 (q := 84) (nI (i + 1)) dX9_probeAll_81 (inc1 _) rfl ?_
              refine S_goto (t := 27) dX9_probeAll_84 (by decide) ?_
              refine S_iload_1 (q := 28) dX9_probeAll_27 rfl ?_
              refine S_if_eq (t := 87) (q := 31) dX9_probeAll_28 (by decide) rfl (fun y => absurd y (by decide)) (fun _ => ?_)
              refine S_iload_2 (q := 32) dX9_probeAll_31 rfl ?_
              refine S_if_ne (t := 87) (q := 35) dX9_probeAll_32 (by decide) rfl (fun _ => ?_) (fun y => absurd y (by decide))
              exact q_probeDone hC hk hf3 hw3 e2 (by unfold o_all; rw [hs0]; simp only; rw [← hpr, prA_at hx, if_neg hnl])

set_option maxHeartbeats 4000000 in
set_option maxRecDepth 100000 in
theorem k_X9_probeAll {Z : Lay} {l : Launch} {G : Gd} {b0 : Nat} {M : Mem} {A : Ab}  (hC : CR M A) (hk : A.ok)  : Ct l G b0 yX9_probeAll cX9_probeAll 5 (some .int) (rmZ 7 168) (LYZ Z) (LYZ Z) M [.ref (b0 + 0)] (fun v M' => RES M (o_all A) v M') := by
  obtain ⟨⟨g0, g1, g2, gcu, gce⟩, hru, hbl, hbd, hsn, hss, ⟨nx, hnx, hx1, hx2, hx3⟩, ⟨htl, htx⟩, ⟨hfl, hfo⟩, htb⟩ := id hC
  have hP := hk.P
  have hr1 := hP.r1
  have hr8 := hP.r8
  have hc1 := hP.c1
  have hc8 := hP.c8
  have hk1 := hP.k1
  have hk3 := hP.k3
  have h64 := rc64 hr8 hc8
  have hH8 := hk.H8
  have hN : A.N = A.P.r + A.P.c := rfl
  refine Ct.of [some (.ref (b0 + 0)), none, none, none, none] (by decide) (Nat.le_of_ble_eq_true rfl) rfl rfl ?_
  refine S_aload_0 (q := 1) dX9_probeAll_0 rfl ?_
  refine S_getR (q := 4) dX9_probeAll_1 fl_X9_16 (by first | assumption | rfl) (by rfl) rfl ?_
  refine S_aload_0 (q := 5) dX9_probeAll_4 rfl ?_
  refine S_getR (q := 8) dX9_probeAll_5 fl_X9_12 (by first | assumption | rfl) (by rfl) rfl ?_
  refine S_callV1v (q := 11) dX9_probeAll_8 lk_X9_209 (by first | assumption | rfl) rfl rfl (k_X1_copyFrom (gO_7 (Z := Z)) (gO_1 (Z := Z)) (by decide)) rfl rfl (Nat.le_of_ble_eq_true rfl) ⟨Nat.le_of_ble_eq_true rfl, Nat.le_of_ble_eq_true rfl⟩ ⟨Nat.le_of_ble_eq_true rfl, Nat.le_of_ble_eq_true rfl⟩ rfl (fun v8 M8 hv8 => ?_)
  have hw : GR M8 7 A.P A.f := GR.cpy hC.1 hP hv8.2
  refine S_aload_0 (q := 12) dX9_probeAll_11 rfl ?_
  refine S_getR (q := 15) dX9_probeAll_12 fl_X9_50 (by first | assumption | rfl) (by rfl) rfl ?_
  refine S_aload_0 (q := 16) dX9_probeAll_15 rfl ?_
  refine S_getR (q := 19) dX9_probeAll_16 fl_X9_16 (by first | assumption | rfl) (by rfl) rfl ?_
  refine S_callV1i (q := 22) dX9_probeAll_19 lk_X9_238 (by first | assumption | rfl) rfl rfl (k_X4_begin (qO_88 (Z := Z)) (gO_7 (Z := Z)) hP hw.1 hw.2.1 (by decide) hw.2.2.2.1 hw.2.2.2.2) rfl rfl (Nat.le_of_ble_eq_true rfl) ⟨Nat.le_of_ble_eq_true rfl, Nat.le_of_ble_eq_true rfl⟩ ⟨Nat.le_of_ble_eq_true rfl, Nat.le_of_ble_eq_true rfl⟩ rfl (fun v19 M19 hv19 => ?_)
  obtain ⟨hs1, hs2, hs3, hs4⟩ := hv19
  have hf3 : ∀ a, (a < 7 ∨ (13 ≤ a ∧ a < 69) ∨ 125 ≤ a) → M19 a = M a := fun a ha => by rw [hs1 a (by omega) (by omega) (by omega), hv8.1 a (by omega)]
  refine S_istore_1 (q := 23) dX9_probeAll_22 rfl ?_
  refine S_iconst (q := 24) (nI 0) dX9_probeAll_23 (by decide) rfl ?_
  refine S_istore_2 (q := 25) dX9_probeAll_24 rfl ?_
  refine S_iconst (q := 26) (nI 0) dX9_probeAll_25 (by decide) rfl ?_
  refine S_istore_3 (q := 27) dX9_probeAll_26 rfl ?_
  cases hs0 : spr A.P A.f with
  | inl j =>
    obtain ⟨rfl, e1⟩ := hs3 j hs0
    refine S_iload_1 (q := 28) dX9_probeAll_27 rfl ?_
    refine S_if_eq (t := 87) (q := 31) dX9_probeAll_28 (by decide) rfl (fun _ => ?_) (fun y => absurd rfl y)
    exact q_probeEnd hC hk hf3 e1 hs2 (by unfold o_all; rw [hs0])
  | inr q =>
    obtain ⟨f0, z0⟩ := q
    obtain ⟨rfl, e1⟩ := hs4 f0 z0 hs0
    obtain ⟨k1, k2, k3, k4⟩ := spr_ok hP _ A.f f0 z0 rfl gce.gf hs0
    have h256 := WT_le hP (f := f0)
    exact q_probeLoop hC hk hs0 k1 (WT A.P f0) f0 0 0 M19 none rfl (Nat.le_refl _) k1 k3 (hw.ce (fun a h1 h2 => hs1 a (by omega) (by omega) (by omega)) e1) hs2 (Nat.zero_le _) hf3 rfl
