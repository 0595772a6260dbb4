/-- a line of the reference: base b, line i -/
def AW (M : Mem) (P : Pz) (f : Nat → Nat) (b i : Nat) (ask : Int32) (ap : Nat) : Prop := M 140 0 = nI P.r ∧ M 140 1 = nI P.c ∧ M 140 17 = nI b ∧ M 140 18 = nI i ∧ CLU M 141 P ∧ RCE M b P f ∧ M 140 20 = ask ∧ M 140 21 = nI ap
theorem AW.fr {M M1 : Mem} {P : Pz} {f : Nat → Nat} {b i ap : Nat} {ask : Int32} (h : AW M P f b i ask ap) (h1 : ∀ a, a ≠ 140 → a ≠ 149 → a ≠ 150 → M1 a = M a) (h2 : ∀ k, k ≠ 19 → k ≠ 22 → M1 140 k = M 140 k) : AW M1 P f b i ask ap := by
  obtain ⟨a1, a2, a3, a4, a5, a6, a7, a8⟩ := h
  exact ⟨by rw [h2 0 (by decide) (by decide)]; exact a1, by rw [h2 1 (by decide) (by decide)]; exact a2, by rw [h2 17 (by decide) (by decide)]; exact a3, by rw [h2 18 (by decide) (by decide)]; exact a4, a5.fr (h1 _ (by decide) (by decide) (by decide)) (h1 _ (by decide) (by decide) (by decide)) (h1 _ (by decide) (by decide) (by decide)), fun x hx => by rw [h1 141 (by decide) (by decide) (by decide)]; exact a6 x hx, by rw [h2 20 (by decide) (by decide)]; exact a7, by rw [h2 21 (by decide) (by decide)]; exact a8⟩
def SE (M : Mem) (S : LSt) : Prop := (∀ i, i < 8 → M 150 i = nI (S.1 i) ∧ S.1 i < 16) ∧ M 140 19 = nI S.2.1 ∧ M 140 22 = S.2.2
def prf (tr : Nat → Nat) (p : Nat) : List Nat := (List.range p).map tr
theorem prf_at {tr : Nat → Nat} {p i : Nat} (hi : i < p) : (prf tr p).getD i 0 = tr i := by
  unfold prf
  rw [List.getD_eq_getElem?_getD, List.getElem?_map, List.getElem?_range hi]
  rfl
theorem prf_s {tr : Nat → Nat} {p v : Nat} : prf (upf tr p v) (p + 1) = prf tr p ++ [v] := by
  unfold prf
  rw [List.range_succ, List.map_append]
  congr 1
  · exact List.map_congr_left (fun i hi => upf_n (by have := List.mem_range.mp hi; omega))
  · show [upf tr p v p] = [v]
    rw [upf_s]
theorem prf_map {tr : Nat → Nat} {p v : Nat} {L : List (List Nat)} : L.map (fun t => prf (upf tr p v) (p + 1) ++ t) = (L.map (fun t => v :: t)).map (fun t => prf tr p ++ t) := by
  rw [List.map_map, prf_s]
  exact List.map_congr_left (fun t _ => by show prf tr p ++ [v] ++ t = prf tr p ++ (v :: t); rw [List.append_assoc]; rfl)
theorem may1 : ∀ m, m < 16 → (nI m &&& nI 1 = nI 1 ↔ m.testBit 0 = true) := by decide +kernel
theorem or16 : ∀ m, m < 16 → ∀ k, k < 4 → nI m ||| (nI 1 <<< (nI k &&& 31)) = nI (m ||| 2 ^ k) ∧ m ||| 2 ^ k < 16 := by decide +kernel
theorem nat_m1 : ∀ n, n < 2 ^ 31 → ¬ nI n = -1 := by
  intro n hn e
  have h1 := congrArg Int32.toInt e
  rw [nI_toInt hn] at h1
  have h2 : (-1 : Int32).toInt = -1 := by decide
  omega
theorem enu_len {n R : Nat} {len col mk : Nat → Nat} : ∀ (d j b pv : Nat), (enu n R len col mk d j b pv).length ≤ 2 ^ d := by
  intro d
  induction d with
  | zero => intro j b pv; rw [enu]; split <;> decide
  | succ d ih =>
    intro j b pv
    rw [enu, List.length_append, Nat.pow_succ]
    have h1 : (if b = 0 ∧ (mk (n - (d + 1))).testBit 0 = true then (enu n R len col mk d j 0 0).map (fun t => 0 :: t) else []).length ≤ 2 ^ d := by
      split
      · rw [List.length_map]; exact ih _ _ _
      · exact Nat.zero_le _
    have h2 : (if j < R ∧ (mk (n - (d + 1))).testBit (col j) = true ∧ ¬ (b = 0 ∧ pv = col j) then ((if b + 1 = len j then enu n R len col mk d (j + 1) 0 (col j) else enu n R len col mk d j (b + 1) (col j))).map (fun t => col j :: t) else []).length ≤ 2 ^ d := by
      split
      · rw [List.length_map]
        split
        · exact ih _ _ _
        · exact ih _ _ _
      · exact Nat.zero_le _
    omega
set_option maxHeartbeats 4000000 in
set_option maxRecDepth 100000 in
theorem k_X10_assign {l : Launch} {G : Gd} {b0 : Nat} {P : Pz} {f : Nat → Nat} {i bb ap : Nat} {ask : Int32} (hP : P.ok) (hi : i < P.r + P.c) (hbb : bb + 64 ≤ 4160) (hap : ap < 8) (hapn : ap < lnLen P.r P.c i ∨ ask = -1) : ∀ (d p j b : Nat) (M : Mem) (tr : Nat → Nat) (Sv : LSt), lnLen P.r P.c i - p = d → p ≤ lnLen P.r P.c i → j ≤ P.R i → (j < P.R i → b < P.len i j) → b ≤ 8 → AW M P f bb i ask ap → (∀ q, q < p → M 149 q = nI (tr q) ∧ tr q < 4) → SE M Sv → Sv.2.1 + 2 ^ d ≤ 2 ^ 20 → Ct l G b0 yX10_assign cX10_assign 8 none (rmZ (d + 1) (40 * (d + 1))) LAY LAY M [.ref (b0 + 140), .int (nI p), .int (nI j), .int (nI b)] (fun v M' => (∀ a, a ≠ 140 → a ≠ 149 → a ≠ 150 → M' a = M a) ∧ (∀ k, k ≠ 19 → k ≠ 22 → M' 140 k = M 140 k) ∧ (∀ i, i < p → M' 149 i = M 149 i) ∧ SE M' (leafs (lnLen P.r P.c i) ask ap ((enu (lnLen P.r P.c i) (P.R i) (P.len i) (P.col i) (lmk P f i) (d) (j) (b) (if p = 0 then 0 else tr (p - 1))).map (fun t => prf tr (p) ++ t)) (Sv))) := by
  intro d
  have hr1 := hP.r1
  have hr8 := hP.r8
  have hc1 := hP.c1
  have hc8 := hP.c8
  have hi16 : i < 16 := by omega
  have hl8 := lnLen_le (i := i) hr8 hc8
  have hl1 : 1 ≤ lnLen P.r P.c i := by unfold lnLen; split <;> omega
  induction d with
  | zero =>
    intro p j b M tr Sv hd hp hj hb hb8 hA hT hS hcn
    have e : lnLen P.r P.c i = p := by omega
    obtain ⟨hA1, hA2, hA3, hA4, hA5, hA6, hA7, hA8⟩ := id hA
    obtain ⟨hS1, hS2, hS3⟩ := id hS
    have hR := (hA5 i hi16).1
    have hR8 := (hA5 i hi16).2.1
    refine Ct.of [some (.ref (b0 + 140)), some (.int (nI p)), some (.int (nI j)), some (.int (nI b)), none, none, none, none] (by decide) (Nat.le_of_ble_eq_true rfl) rfl rfl ?_
    have hnat : ¬ nI Sv.2.1 = -1 := nat_m1 _ (by omega)
    refine S_aload_0 (q := 1) dX10_assign_0 rfl ?_
    refine S_aload_0 (q := 2) dX10_assign_1 rfl ?_
    refine S_getI (q := 5) dX10_assign_2 fl_X10_65 (by first | assumption | rfl) (by rfl) rfl ?_
    rw [hA4]
    refine S_callV1i (q := 8) dX10_assign_5 lk_X10_214 (by first | assumption | rfl) rfl rfl (k_X10_size hA1 hA2 hr8 hc8 hr1 hc1 hi16) rfl rfl (Nat.le_of_ble_eq_true rfl) ⟨by simp only [rmZ]; omega, by simp only [rmZ]; omega⟩ ⟨Nat.le_of_ble_eq_true rfl, Nat.le_of_ble_eq_true rfl⟩ rfl (fun v5 M5 hv5 => ?_)
    obtain ⟨e5, rfl⟩ := hv5
    rw [e5]
    refine S_istore_4 (q := 10) dX10_assign_8 rfl ?_
    refine S_iload_1 (q := 11) dX10_assign_10 rfl ?_
    refine S_iload_4 (q := 13) dX10_assign_11 rfl ?_
    refine S_icmp_ne (t := 100) (q := 16) dX10_assign_13 (by decide) rfl (fun hb13 => ?_) (fun hb13 => ?_)
    · exact absurd (by rw [e]) hb13
    · refine S_iload_2 (q := 17) dX10_assign_16 rfl ?_
      refine S_aload_0 (q := 18) dX10_assign_17 rfl ?_
      refine S_getR (q := 21) dX10_assign_18 fl_X10_26 (by first | assumption | rfl) (by rfl) rfl ?_
      refine S_aload_0 (q := 22) dX10_assign_21 rfl ?_
      refine S_getI (q := 25) dX10_assign_22 fl_X10_65 (by first | assumption | rfl) (by rfl) rfl ?_
      skip
      refine S_ialdV (i := i) (val := nI (P.R i)) (q := 26) dX10_assign_25 (by first | assumption | rfl) hA4 (by omega) (by decide) hR rfl ?_
      refine S_icmp_ge (t := 30) (q := 29) dX10_assign_26 (by decide) rfl (fun hb26 => ?_) (fun hb26 => ?_)
      · have hjR : P.R i = j := by have := (nI_leI (by omega) (by omega)).mp hb26; omega
        refine S_iconst (q := 31) (nI 0) dX10_assign_30 (by decide) rfl ?_
        refine S_istore_5 (q := 33) dX10_assign_31 rfl ?_
        suffices H : ∀ (e q : Nat) (M1 : Mem), p - q = e → q ≤ p → ((∀ a, a ≠ 150 → M1 a = M a) ∧ ∀ x, x < 8 → M1 150 x = nI (if x < q then Sv.1 x ||| 2 ^ tr x else Sv.1 x)) → S l G b0 yX10_assign cX10_assign 8 none (rmZ (0 + 1) (40 * (0 + 1))) LAY (fun v M' => (∀ a, a ≠ 140 → a ≠ 149 → a ≠ 150 → M' a = M a) ∧ (∀ k, k ≠ 19 → k ≠ 22 → M' 140 k = M 140 k) ∧ (∀ i, i < p → M' 149 i = M 149 i) ∧ SE M' (leafs (lnLen P.r P.c i) ask ap ((enu (lnLen P.r P.c i) (P.R i) (P.len i) (P.col i) (lmk P f i) (0) (j) (b) (if p = 0 then 0 else tr (p - 1))).map (fun t => prf tr (p) ++ t)) (Sv))) 0 0 0 0 LAY 33 [some (.ref (b0 + 140)), some (.int (nI p)), some (.int (nI j)), some (.int (nI b)), some (.int (nI (lnLen P.r P.c i))), some (.int (nI (q))), none, none] [] M1 from H _ 0 M rfl (Nat.zero_le _) ⟨fun _ _ => rfl, fun x hx => by rw [if_neg (Nat.not_lt_zero x)]; exact (hS1 x hx).1⟩
        intro e
        induction e with
        | zero =>
          intro q M1 he hq hI
          have e2 : q = p := by omega
          subst e2
          have hln : enu (lnLen P.r P.c i) (P.R i) (P.len i) (P.col i) (lmk P f i) (0) (j) (b) (if q = 0 then 0 else tr (q - 1)) = [[]] := if_neg (by omega)
          rw [hln]
          have hsen : ∀ x, x < 8 → M1 150 x = nI (if x < lnLen P.r P.c i then Sv.1 x ||| 2 ^ tr x else Sv.1 x) ∧ (if x < lnLen P.r P.c i then Sv.1 x ||| 2 ^ tr x else Sv.1 x) < 16 := fun x hx => by
            rw [hI.2 x hx, e]
            refine ⟨rfl, ?_⟩
            by_cases h : x < q
            · rw [if_pos h]; exact (or16 _ (hS1 x hx).2 _ (hT x h).2).2
            · rw [if_neg h]; exact (hS1 x hx).2
          have hT1 : ∀ x, x < q → M1 149 x = nI (tr x) := fun x hx => by rw [hI.1 149 (by decide)]; exact (hT x hx).1
          have hlf : ∀ ans : Int32, ans = (if nI Sv.2.1 = ask then nI (tr ap) else Sv.2.2) → leafs (lnLen P.r P.c i) ask ap ([[]].map (fun t => prf tr q ++ t)) Sv = (fun x => if x < lnLen P.r P.c i then Sv.1 x ||| 2 ^ tr x else Sv.1 x, Sv.2.1 + 1, ans) := fun ans ha => by
            show leaf (lnLen P.r P.c i) ask ap Sv (prf tr q ++ []) = _
            rw [List.append_nil]
            unfold leaf
            rw [ha]
            refine Prod.ext (funext fun x => ?_) (Prod.ext rfl ?_)
            · show (if x < lnLen P.r P.c i then Sv.1 x ||| 2 ^ (prf tr q).getD x 0 else Sv.1 x) = (if x < lnLen P.r P.c i then Sv.1 x ||| 2 ^ tr x else Sv.1 x)
              by_cases hx : x < lnLen P.r P.c i
              · rw [if_pos hx, if_pos hx, prf_at (by omega)]
              · rw [if_neg hx, if_neg hx]
            · show (if nI Sv.2.1 = ask then nI ((prf tr q).getD ap 0) else Sv.2.2) = _
              rcases hapn with h | h
              · rw [prf_at (by omega)]
              · rw [if_neg (fun y => hnat (y.trans h)), if_neg (fun y => hnat (y.trans h))]
          refine S_iload_5 (q := 35) dX10_assign_33 rfl ?_
          refine S_iload_4 (q := 37) dX10_assign_35 rfl ?_
          refine S_icmp_ge (t := 65) (q := 40) dX10_assign_37 (by decide) rfl (fun hb37 => ?_) (fun hb37 => ?_)
          · refine S_aload_0 (q := 66) dX10_assign_65 rfl ?_
            refine S_getI (q := 69) dX10_assign_66 fl_X10_68 (by first | assumption | rfl) (by rfl) rfl ?_
            refine S_aload_0 (q := 70) dX10_assign_69 rfl ?_
            refine S_getI (q := 73) dX10_assign_70 fl_X10_71 (by first | assumption | rfl) (by rfl) rfl ?_
            rw [hI.1 140 (by decide), hS2, hA7]
            refine S_icmp_ne (t := 89) (q := 76) dX10_assign_73 (by decide) rfl (fun hb73 => ?_) (fun hb73 => ?_)
            · have hne : ¬ nI Sv.2.1 = ask := hb73
              refine S_aload_0 (q := 90) dX10_assign_89 rfl ?_
              refine S_dup (q := 91) dX10_assign_90 rfl rfl ?_
              refine S_getI (q := 94) dX10_assign_91 fl_X10_68 (by first | assumption | rfl) (by rfl) rfl ?_
              skip
              refine S_iconst (q := 95) (nI 1) dX10_assign_94 (by decide) rfl ?_
              skip
              refine S_iadd (q := 96) dX10_assign_95 rfl ?_
              refine S_putI (q := 99) dX10_assign_96 fp_X10_68 (by first | assumption | rfl) (by rfl) rfl (by rfl) rfl ?_
              exact S_ret (v := 0) rfl dX10_assign_99 rfl (by
                have hS' := hlf Sv.2.2 (by rw [if_neg hne])
                rw [hS']
                refine ⟨fun a h1 h2 h3 => ?_, fun k h1 h2 => ?_, fun x hx => ?_, fun x hx => ?_, up_s.trans (by rw [hI.1 140 (by decide), hS2, nI_add]), ?_⟩
                · rw [up_n h1]; exact hI.1 a h3
                · rw [up_eq, if_neg (by omega)]; exact congrFun (hI.1 140 (by decide)) k
                · rw [up_n (by decide)]; exact congrFun (hI.1 149 (by decide)) x
                · rw [up_n (by decide)]; exact hsen x hx
                · rw [up_eq, if_neg (by decide), hI.1 140 (by decide)]; exact hS3)
            · have heq : nI Sv.2.1 = ask := hb73
              have hapl : ap < q := by
                rcases hapn with h | h
                · omega
                · exact absurd (heq.trans h) hnat
              refine S_aload_0 (q := 77) dX10_assign_76 rfl ?_
              refine S_aload_0 (q := 78) dX10_assign_77 rfl ?_
              refine S_getR (q := 81) dX10_assign_78 fl_X10_56 (by first | assumption | rfl) (by rfl) rfl ?_
              refine S_aload_0 (q := 82) dX10_assign_81 rfl ?_
              refine S_getI (q := 85) dX10_assign_82 fl_X10_74 (by first | assumption | rfl) (by rfl) rfl ?_
              refine S_ialdV (i := ap) (val := nI (tr ap)) (q := 86) dX10_assign_85 (by first | assumption | rfl) (by rw [hI.1 140 (by decide)]; exact hA8) (by omega) (by decide) (hT1 ap hapl) rfl ?_
              skip
              refine S_putI (q := 89) dX10_assign_86 fp_X10_77 (by first | assumption | rfl) (by rfl) rfl (by rfl) rfl ?_
              refine S_aload_0 (q := 90) dX10_assign_89 rfl ?_
              refine S_dup (q := 91) dX10_assign_90 rfl rfl ?_
              refine S_getI (q := 94) dX10_assign_91 fl_X10_68 (by first | assumption | rfl) (by rfl) rfl ?_
              skip
              refine S_iconst (q := 95) (nI 1) dX10_assign_94 (by decide) rfl ?_
              skip
              refine S_iadd (q := 96) dX10_assign_95 rfl ?_
              refine S_putI (q := 99) dX10_assign_96 fp_X10_68 (by first | assumption | rfl) (by rfl) rfl (by rfl) rfl ?_
              exact S_ret (v := 0) rfl dX10_assign_99 rfl (by
                have hS' := hlf (nI (tr ap)) (by rw [if_pos heq])
                rw [hS']
                refine ⟨fun a h1 h2 h3 => ?_, fun k h1 h2 => ?_, fun x hx => ?_, fun x hx => ?_, up_s.trans (by rw [up_eq, if_neg (by decide), hI.1 140 (by decide), hS2, nI_add]), ?_⟩
                · rw [up_n h1, up_n h1]; exact hI.1 a h3
                · rw [up_eq, if_neg (by omega), up_eq, if_neg (by omega)]; exact congrFun (hI.1 140 (by decide)) k
                · rw [up_n (by decide), up_n (by decide)]; exact congrFun (hI.1 149 (by decide)) x
                · rw [up_n (by decide), up_n (by decide)]; exact hsen x hx
                · rw [up_eq, if_neg (by decide), up_s])
          · exact absurd (by rw [e]; exact Int32.le_refl _) hb37
        | succ e ih =>
          intro q M1 he hq hI
          have hlt : q < p := by omega
          have h16 := hS1 q (by omega)
          have hor := or16 _ h16.2 _ (hT q hlt).2
          refine S_iload_5 (q := 35) dX10_assign_33 rfl ?_
          refine S_iload_4 (q := 37) dX10_assign_35 rfl ?_
          refine S_icmp_ge (t := 65) (q := 40) dX10_assign_37 (by decide) rfl (fun hb37 => ?_) (fun hb37 => ?_)
          · exact absurd hb37 (nI_ge (show q < lnLen P.r P.c i by omega) (by omega))
          · refine S_aload_0 (q := 41) dX10_assign_40 rfl ?_
            refine S_getR (q := 44) dX10_assign_41 fl_X10_59 (by first | assumption | rfl) (by rfl) rfl ?_
            refine S_iload_5 (q := 46) dX10_assign_44 rfl ?_
            refine S_dup2 (q := 47) dX10_assign_46 rfl rfl rfl ?_
            refine S_ialdV (i := q) (val := nI (Sv.1 q)) (q := 48) dX10_assign_47 (by first | assumption | rfl) (by first | (simp only [nI_add, pk_mul, nI_1]; done) | rfl) (by omega) (by decide) (by rw [hI.2 q (by omega), if_neg (Nat.lt_irrefl q)]) rfl ?_
            refine S_iconst (q := 49) (nI 1) dX10_assign_48 (by decide) rfl ?_
            refine S_aload_0 (q := 50) dX10_assign_49 rfl ?_
            refine S_getR (q := 53) dX10_assign_50 fl_X10_56 (by first | assumption | rfl) (by rfl) rfl ?_
            refine S_iload_5 (q := 55) dX10_assign_53 rfl ?_
            refine S_ialdV (i := q) (val := nI (tr q)) (q := 56) dX10_assign_55 (by first | assumption | rfl) (by first | (simp only [nI_add, pk_mul, nI_1]; done) | rfl) (by omega) (by decide) (by rw [hI.1 149 (by decide)]; exact (hT q hlt).1) rfl ?_
            refine S_ishl (q := 57) dX10_assign_56 rfl ?_
            refine S_ior (q := 58) dX10_assign_57 rfl ?_
            rw [hor.1]
            refine S_iastE (i := q) (q := 59) dX10_assign_58 (by first | assumption | rfl) (by first | (simp only [nI_add, pk_mul, nI_1]; done) | rfl) (by omega) (by decide) rfl ?_
            refine S_iinc_5 (q := 62) (nI (q + 1)) dX10_assign_59 (inc1 _) rfl ?_
            refine S_goto (t := 33) dX10_assign_62 (by decide) ?_
            exact ih (q + 1) _ (by omega) hlt ⟨fun a ha => by rw [up_n ha]; exact hI.1 a ha, fun x hx => by
              rw [up_eq]
              by_cases ex : x = q
              · rw [if_pos ⟨rfl, ex⟩, ex, if_pos (Nat.lt_succ_self q)]
              · rw [if_neg (fun y => ex y.2), hI.2 x hx]
                by_cases h : x < q
                · rw [if_pos h, if_pos (by omega)]
                · rw [if_neg h, if_neg (by omega)]⟩
      · have hjR : j < P.R i := Nat.lt_of_not_le (fun y => hb26 ((nI_leI (by omega) (by omega)).mpr y))
        exact S_ret (v := 0) rfl dX10_assign_29 rfl (⟨fun _ _ _ _ => rfl, fun _ _ _ => rfl, fun _ _ => rfl, (by rw [show enu (lnLen P.r P.c i) (P.R i) (P.len i) (P.col i) (lmk P f i) (0) (j) (b) (if p = 0 then 0 else tr (p - 1)) = [] from if_pos hjR]; exact hS)⟩)
  | succ d ih =>
    intro p j b M tr Sv hd hp hj hb hb8 hA hT hS hcn
    have hlt : p < lnLen P.r P.c i := by omega
    have ep : lnLen P.r P.c i - (d + 1) = p := by omega
    obtain ⟨hA1, hA2, hA3, hA4, hA5, hA6, hA7, hA8⟩ := id hA
    have hmk := hA6.ln hi hlt
    have hG64 := lnG_64 hr8 hc8 hi hlt
    have hR := (hA5 i hi16).1
    have hR8 := (hA5 i hi16).2.1
    have hpn : ∀ S1, S1 = leafs (lnLen P.r P.c i) ask ap ((if b = 0 ∧ (lmk P f i p).testBit 0 = true then (enu (lnLen P.r P.c i) (P.R i) (P.len i) (P.col i) (lmk P f i) (d) (j) (0) (0)).map (fun t => 0 :: t) else []).map (fun t => prf tr p ++ t)) Sv → leafs (lnLen P.r P.c i) ask ap ((enu (lnLen P.r P.c i) (P.R i) (P.len i) (P.col i) (lmk P f i) (d + 1) (j) (b) (if p = 0 then 0 else tr (p - 1))).map (fun t => prf tr p ++ t)) Sv = leafs (lnLen P.r P.c i) ask ap ((if j < P.R i ∧ (lmk P f i p).testBit (P.col i j) = true ∧ ¬ (b = 0 ∧ (if p = 0 then 0 else tr (p - 1)) = P.col i j) then ((if b + 1 = P.len i j then enu (lnLen P.r P.c i) (P.R i) (P.len i) (P.col i) (lmk P f i) (d) (j + 1) (0) (P.col i j) else enu (lnLen P.r P.c i) (P.R i) (P.len i) (P.col i) (lmk P f i) (d) (j) (b + 1) (P.col i j))).map (fun t => P.col i j :: t) else []).map (fun t => prf tr p ++ t)) S1 := fun S1 h => by
      rw [h, enu, ep, List.map_append, leafs_app]
    have H149 : ∀ (M1 : Mem) (S1 : LSt), S1 = leafs (lnLen P.r P.c i) ask ap ((if b = 0 ∧ (lmk P f i p).testBit 0 = true then (enu (lnLen P.r P.c i) (P.R i) (P.len i) (P.col i) (lmk P f i) (d) (j) (0) (0)).map (fun t => 0 :: t) else []).map (fun t => prf tr p ++ t)) Sv → ((∀ a, a ≠ 140 → a ≠ 149 → a ≠ 150 → M1 a = M a) ∧ (∀ k, k ≠ 19 → k ≠ 22 → M1 140 k = M 140 k) ∧ (∀ i, i < p → M1 149 i = M 149 i)) → SE M1 S1 → S l G b0 yX10_assign cX10_assign 8 none (rmZ (d + 1 + 1) (40 * (d + 1 + 1))) LAY (fun v M' => (∀ a, a ≠ 140 → a ≠ 149 → a ≠ 150 → M' a = M a) ∧ (∀ k, k ≠ 19 → k ≠ 22 → M' 140 k = M 140 k) ∧ (∀ i, i < p → M' 149 i = M 149 i) ∧ SE M' (leafs (lnLen P.r P.c i) ask ap ((enu (lnLen P.r P.c i) (P.R i) (P.len i) (P.col i) (lmk P f i) (d + 1) (j) (b) (if p = 0 then 0 else tr (p - 1))).map (fun t => prf tr (p) ++ t)) (Sv))) 0 0 0 0 LAY 149 [some (.ref (b0 + 140)), some (.int (nI p)), some (.int (nI j)), some (.int (nI b)), some (.int (nI (lnLen P.r P.c i))), some (.int (nI (lmk P f i p))), none, none] [] M1 := by
      intro M1 S1 hS1 hf hSE
      obtain ⟨hf1, hf2, hf3⟩ := hf
      have hB : AW M1 P f bb i ask ap := hA.fr hf1 hf2
      obtain ⟨hB1, hB2, hB3, hB4, hB5, hB6, hB7, hB8⟩ := id hB
      have hcn1 : S1.2.1 + 2 ^ d ≤ 2 ^ 20 := by
        rw [hS1, leafs_n, List.length_map]
        rw [Nat.pow_succ] at hcn
        have h0 := enu_len (n := lnLen P.r P.c i) (R := P.R i) (len := P.len i) (col := P.col i) (mk := lmk P f i) d j 0 0
        split
        · rw [List.length_map]; omega
        · show Sv.2.1 + 0 + 2 ^ d ≤ 2 ^ 20; omega
      have hTB : ∀ q, q < p → M1 149 q = nI (tr q) ∧ tr q < 4 := fun q hq => by rw [hf3 q hq]; exact hT q hq
      have H211 : j < P.R i → P.col i j < 4 → b < P.len i j → P.len i j ≤ 8 → M1 143 (i * 8 + j) = nI (P.len i j) → (lmk P f i p).testBit (P.col i j) = true → ¬ (b = 0 ∧ (if p = 0 then 0 else tr (p - 1)) = P.col i j) → S l G b0 yX10_assign cX10_assign 8 none (rmZ (d + 1 + 1) (40 * (d + 1 + 1))) LAY (fun v M' => (∀ a, a ≠ 140 → a ≠ 149 → a ≠ 150 → M' a = M a) ∧ (∀ k, k ≠ 19 → k ≠ 22 → M' 140 k = M 140 k) ∧ (∀ i, i < p → M' 149 i = M 149 i) ∧ SE M' (leafs (lnLen P.r P.c i) ask ap ((enu (lnLen P.r P.c i) (P.R i) (P.len i) (P.col i) (lmk P f i) (d + 1) (j) (b) (if p = 0 then 0 else tr (p - 1))).map (fun t => prf tr (p) ++ t)) (Sv))) 0 0 0 0 LAY 211 [some (.ref (b0 + 140)), some (.int (nI p)), some (.int (nI j)), some (.int (nI b)), some (.int (nI (lnLen P.r P.c i))), some (.int (nI (lmk P f i p))), some (.int (nI (P.col i j))), none] [] M1 := by
        intro hjR hc4 hlj hl8' hln hbit hpv
        refine S_aload_0 (q := 212) dX10_assign_211 rfl ?_
        refine S_getR (q := 215) dX10_assign_212 fl_X10_56 (by first | assumption | rfl) (by rfl) rfl ?_
        refine S_iload_1 (q := 216) dX10_assign_215 rfl ?_
        refine S_iload_6 (q := 218) dX10_assign_216 rfl ?_
        refine S_iastE (i := p) (q := 219) dX10_assign_218 (by first | assumption | rfl) (by first | (simp only [nI_add, pk_mul, nI_1]; done) | rfl) (by omega) (by decide) rfl ?_
        refine S_iload_3 (q := 220) dX10_assign_219 rfl ?_
        refine S_iconst (q := 221) (nI 1) dX10_assign_220 (by decide) rfl ?_
        refine S_iadd (q := 222) dX10_assign_221 rfl ?_
        refine S_aload_0 (q := 223) dX10_assign_222 rfl ?_
        refine S_getR (q := 226) dX10_assign_223 fl_X10_29 (by first | assumption | rfl) (by rfl) rfl ?_
        refine S_bipush (q := 228) (nI 8) dX10_assign_226 (by decide) rfl ?_
        refine S_aload_0 (q := 229) dX10_assign_228 rfl ?_
        refine S_getI (q := 232) dX10_assign_229 fl_X10_65 (by first | assumption | rfl) (by rfl) rfl ?_
        refine S_imul (q := 233) dX10_assign_232 rfl ?_
        refine S_iload_2 (q := 234) dX10_assign_233 rfl ?_
        refine S_iadd (q := 235) dX10_assign_234 rfl ?_
        refine S_ialdV (i := 8 * i + j) (val := nI (P.len i j)) (q := 236) dX10_assign_235 (by first | assumption | rfl) (by rw [up_n (by decide), hB4, pk_mul, nI_add]) (by omega) (by decide) (by rw [up_n (by decide), Nat.mul_comm 8 i]; exact hln) rfl ?_
        refine S_icmp_ne (t := 243) (q := 239) dX10_assign_236 (by decide) rfl (fun hb236 => ?_) (fun hb236 => ?_)
        · have hle : ¬ b + 1 = P.len i j := fun e => hb236 (by rw [nI_add, e])
          refine S_iconst (q := 244) (nI 0) dX10_assign_243 (by decide) rfl ?_
          refine S_istore_7 (q := 246) dX10_assign_244 rfl ?_
          refine S_aload_0 (q := 247) dX10_assign_246 rfl ?_
          refine S_iload_1 (q := 248) dX10_assign_247 rfl ?_
          refine S_iconst (q := 249) (nI 1) dX10_assign_248 (by decide) rfl ?_
          refine S_iadd (q := 250) dX10_assign_249 rfl ?_
          refine S_iload_7 (q := 252) dX10_assign_250 rfl ?_
          refine S_if_eq (t := 261) (q := 255) dX10_assign_252 (by decide) rfl (fun hb252 => ?_) (fun hb252 => ?_)
          · refine S_iload_2 (q := 262) dX10_assign_261 rfl ?_
            refine S_iload_7 (q := 264) dX10_assign_262 rfl ?_
            refine S_if_eq (t := 271) (q := 267) dX10_assign_264 (by decide) rfl (fun hb264 => ?_) (fun hb264 => ?_)
            · refine S_iload_3 (q := 272) dX10_assign_271 rfl ?_
              refine S_iconst (q := 273) (nI 1) dX10_assign_272 (by decide) rfl ?_
              refine S_iadd (q := 274) dX10_assign_273 rfl ?_
              rw [nI_add p 1, nI_add b 1]
              refine S_callV3v (q := 277) dX10_assign_274 lk_X10_221 (by first | assumption | rfl) rfl rfl ((ih (p + 1) j (b + 1) (up M1 149 p (nI (P.col i j))) (upf tr p (P.col i j)) S1 (by omega) (by omega) (by omega) (fun _ => by omega) (by omega) (hB.fr (fun a h1 h2 h3 => up_n h2) (fun k _ _ => by rw [up_n (by decide)])) (fun q hq => by
              by_cases e : q = p
              · rw [e, up_s, upf_s]; exact ⟨rfl, by omega⟩
              · rw [up_eq, if_neg (fun y => e y.2), upf_n e]; exact hTB q (by omega)) ⟨fun x hx => by rw [up_n (by decide)]; exact hSE.1 x hx, by rw [up_n (by decide)]; exact hSE.2.1, by rw [up_n (by decide)]; exact hSE.2.2⟩ hcn1)) rfl rfl (Nat.le_of_ble_eq_true rfl) ⟨by simp only [rmZ]; omega, by simp only [rmZ]; omega⟩ ⟨Nat.le_of_ble_eq_true rfl, Nat.le_of_ble_eq_true rfl⟩ rfl (fun v274 M274 hv274 => ?_)
              exact S_ret (v := 0) rfl dX10_assign_277 rfl (⟨fun a h1 h2 h3 => (by rw [hv274.1 a h1 h2 h3, up_n h2]; exact hf1 a h1 h2 h3), fun k h1 h2 => (by rw [hv274.2.1 k h1 h2, up_n (by decide)]; exact hf2 k h1 h2), fun q hq => (by rw [hv274.2.2.1 q (by omega), up_eq, if_neg (by omega)]; exact hf3 q hq), (by rw [hpn S1 hS1, if_pos ⟨hjR, hbit, hpv⟩, if_neg hle, ← prf_map]; have h := hv274.2.2.2; rw [if_neg (Nat.succ_ne_zero p), Nat.add_sub_cancel, upf_s] at h; exact h)⟩)
            · exact absurd rfl hb264
          · exact absurd rfl hb252
        · have hle : b + 1 = P.len i j := nI_inj (by omega) (by omega) ((nI_add b 1).symm.trans hb236)
          refine S_iconst (q := 240) (nI 1) dX10_assign_239 (by decide) rfl ?_
          refine S_goto (t := 244) dX10_assign_240 (by decide) ?_
          refine S_istore_7 (q := 246) dX10_assign_244 rfl ?_
          refine S_aload_0 (q := 247) dX10_assign_246 rfl ?_
          refine S_iload_1 (q := 248) dX10_assign_247 rfl ?_
          refine S_iconst (q := 249) (nI 1) dX10_assign_248 (by decide) rfl ?_
          refine S_iadd (q := 250) dX10_assign_249 rfl ?_
          refine S_iload_7 (q := 252) dX10_assign_250 rfl ?_
          refine S_if_eq (t := 261) (q := 255) dX10_assign_252 (by decide) rfl (fun hb252 => ?_) (fun hb252 => ?_)
          · exact absurd hb252 (by decide)
          · refine S_iload_2 (q := 256) dX10_assign_255 rfl ?_
            refine S_iconst (q := 257) (nI 1) dX10_assign_256 (by decide) rfl ?_
            refine S_iadd (q := 258) dX10_assign_257 rfl ?_
            refine S_goto (t := 262) dX10_assign_258 (by decide) ?_
            refine S_iload_7 (q := 264) dX10_assign_262 rfl ?_
            refine S_if_eq (t := 271) (q := 267) dX10_assign_264 (by decide) rfl (fun hb264 => ?_) (fun hb264 => ?_)
            · exact absurd hb264 (by decide)
            · refine S_iconst (q := 268) (nI 0) dX10_assign_267 (by decide) rfl ?_
              refine S_goto (t := 274) dX10_assign_268 (by decide) ?_
              rw [nI_add p 1, nI_add j 1]
              refine S_callV3v (q := 277) dX10_assign_274 lk_X10_221 (by first | assumption | rfl) rfl rfl ((ih (p + 1) (j + 1) 0 (up M1 149 p (nI (P.col i j))) (upf tr p (P.col i j)) S1 (by omega) (by omega) (by omega) (fun y => ((hB5 i hi16).2.2 (j + 1) y).2.1) (by omega) (hB.fr (fun a h1 h2 h3 => up_n h2) (fun k _ _ => by rw [up_n (by decide)])) (fun q hq => by
              by_cases e : q = p
              · rw [e, up_s, upf_s]; exact ⟨rfl, by omega⟩
              · rw [up_eq, if_neg (fun y => e y.2), upf_n e]; exact hTB q (by omega)) ⟨fun x hx => by rw [up_n (by decide)]; exact hSE.1 x hx, by rw [up_n (by decide)]; exact hSE.2.1, by rw [up_n (by decide)]; exact hSE.2.2⟩ hcn1)) rfl rfl (Nat.le_of_ble_eq_true rfl) ⟨by simp only [rmZ]; omega, by simp only [rmZ]; omega⟩ ⟨Nat.le_of_ble_eq_true rfl, Nat.le_of_ble_eq_true rfl⟩ rfl (fun v274 M274 hv274 => ?_)
              exact S_ret (v := 0) rfl dX10_assign_277 rfl (⟨fun a h1 h2 h3 => (by rw [hv274.1 a h1 h2 h3, up_n h2]; exact hf1 a h1 h2 h3), fun k h1 h2 => (by rw [hv274.2.1 k h1 h2, up_n (by decide)]; exact hf2 k h1 h2), fun q hq => (by rw [hv274.2.2.1 q (by omega), up_eq, if_neg (by omega)]; exact hf3 q hq), (by rw [hpn S1 hS1, if_pos ⟨hjR, hbit, hpv⟩, if_pos hle, ← prf_map]; have h := hv274.2.2.2; rw [if_neg (Nat.succ_ne_zero p), Nat.add_sub_cancel, upf_s] at h; exact h)⟩)
      refine S_iload_2 (q := 150) dX10_assign_149 rfl ?_
      refine S_aload_0 (q := 151) dX10_assign_150 rfl ?_
      refine S_getR (q := 154) dX10_assign_151 fl_X10_26 (by first | assumption | rfl) (by rfl) rfl ?_
      refine S_aload_0 (q := 155) dX10_assign_154 rfl ?_
      refine S_getI (q := 158) dX10_assign_155 fl_X10_65 (by first | assumption | rfl) (by rfl) rfl ?_
      refine S_ialdV (i := i) (val := nI (P.R i)) (q := 159) dX10_assign_158 (by first | assumption | rfl) hB4 (by omega) (by decide) (hB5 i hi16).1 rfl ?_
      refine S_icmp_ne (t := 163) (q := 162) dX10_assign_159 (by decide) rfl (fun hb159 => ?_) (fun hb159 => ?_)
      · have hjR : j < P.R i := by
          have : j ≠ P.R i := fun e => hb159 (by rw [e])
          omega
        obtain ⟨hln, hl1', hl8', hcl, hc1', hc3'⟩ := (hB5 i hi16).2.2 j hjR
        have hlj := hb hjR
        refine S_aload_0 (q := 164) dX10_assign_163 rfl ?_
        refine S_getR (q := 167) dX10_assign_164 fl_X10_32 (by first | assumption | rfl) (by rfl) rfl ?_
        refine S_bipush (q := 169) (nI 8) dX10_assign_167 (by decide) rfl ?_
        refine S_aload_0 (q := 170) dX10_assign_169 rfl ?_
        refine S_getI (q := 173) dX10_assign_170 fl_X10_65 (by first | assumption | rfl) (by rfl) rfl ?_
        refine S_imul (q := 174) dX10_assign_173 rfl ?_
        refine S_iload_2 (q := 175) dX10_assign_174 rfl ?_
        refine S_iadd (q := 176) dX10_assign_175 rfl ?_
        refine S_ialdV (i := 8 * i + j) (val := nI (P.col i j)) (q := 177) dX10_assign_176 (by first | assumption | rfl) (by rw [hB4, pk_mul, nI_add]) (by omega) (by decide) (by rw [Nat.mul_comm 8 i]; exact hcl) rfl ?_
        refine S_istore_6 (q := 179) dX10_assign_177 rfl ?_
        refine S_iload_5 (q := 181) dX10_assign_179 rfl ?_
        refine S_iload_6 (q := 183) dX10_assign_181 rfl ?_
        refine S_ishr (q := 184) dX10_assign_183 rfl ?_
        refine S_iconst (q := 185) (nI 1) dX10_assign_184 (by decide) rfl ?_
        refine S_iand (q := 186) dX10_assign_185 rfl ?_
        rw [tb_if (show lmk P f i p < 2 ^ 31 by have := hmk.2.2; unfold lmk; omega) (show P.col i j < 32 by omega)]
        refine S_if_eq (t := 210) (q := 189) dX10_assign_186 (by decide) rfl (fun hb186 => ?_) (fun hb186 => ?_)
        · have hbit : ¬ (lmk P f i p).testBit (P.col i j) = true := fun y => by rw [if_pos y] at hb186; exact absurd hb186 (by decide)
          exact S_ret (v := 0) rfl dX10_assign_210 rfl (⟨hf1, hf2, hf3, (by rw [hpn S1 hS1, if_neg (fun y => hbit y.2.1)]; exact hSE)⟩)
        · have hbit : (lmk P f i p).testBit (P.col i j) = true := Decidable.byContradiction (fun y => hb186 (by rw [if_neg y]; rfl))
          refine S_iload_3 (q := 190) dX10_assign_189 rfl ?_
          refine S_if_ne (t := 211) (q := 193) dX10_assign_190 (by decide) rfl (fun hb190 => ?_) (fun hb190 => ?_)
          · have hb0 : ¬ b = 0 := fun e => hb190 (by rw [e]; rfl)
            have hpv : ¬ (b = 0 ∧ (if p = 0 then 0 else tr (p - 1)) = P.col i j) := fun y => hb0 y.1
            exact H211 hjR (by omega) hlj hl8' hln hbit hpv
          · have hb0 : b = 0 := nI_inj (by omega) (by decide) hb190
            refine S_iload_1 (q := 194) dX10_assign_193 rfl ?_
            refine S_if_le (t := 211) (q := 197) dX10_assign_194 (by decide) rfl (fun hb194 => ?_) (fun hb194 => ?_)
            · have hp0 : p = 0 := by have := (nI_leI (b := 0) (by omega) (by decide)).mp hb194; omega
              have hpv : ¬ (b = 0 ∧ (if p = 0 then 0 else tr (p - 1)) = P.col i j) := fun y => by have := y.2; rw [if_pos hp0] at this; omega
              exact H211 hjR (by omega) hlj hl8' hln hbit hpv
            · have hp0 : 0 < p := Nat.lt_of_not_le (fun y => hb194 ((nI_leI (b := 0) (by omega) (by decide)).mpr y))
              have hTp := hTB (p - 1) (by omega)
              refine S_aload_0 (q := 198) dX10_assign_197 rfl ?_
              refine S_getR (q := 201) dX10_assign_198 fl_X10_56 (by first | assumption | rfl) (by rfl) rfl ?_
              refine S_iload_1 (q := 202) dX10_assign_201 rfl ?_
              refine S_iconst (q := 203) (nI 1) dX10_assign_202 (by decide) rfl ?_
              refine S_isub (q := 204) dX10_assign_203 rfl ?_
              refine S_ialdV (i := p - 1) (val := nI (tr (p - 1))) (q := 205) dX10_assign_204 (by first | assumption | rfl) (pk_sub (by omega)) (by omega) (by decide) hTp.1 rfl ?_
              refine S_iload_6 (q := 207) dX10_assign_205 rfl ?_
              refine S_icmp_ne (t := 211) (q := 210) dX10_assign_207 (by decide) rfl (fun hb207 => ?_) (fun hb207 => ?_)
              · have hpv : ¬ (b = 0 ∧ (if p = 0 then 0 else tr (p - 1)) = P.col i j) := fun y => by
                  have := y.2
                  rw [if_neg (by omega)] at this
                  exact hb207 (by rw [this])
                exact H211 hjR (by omega) hlj hl8' hln hbit hpv
              · have hpv : b = 0 ∧ (if p = 0 then 0 else tr (p - 1)) = P.col i j := ⟨hb0, by rw [if_neg (by omega)]; exact nI_inj (by omega) (by omega) hb207⟩
                exact S_ret (v := 0) rfl dX10_assign_210 rfl (⟨hf1, hf2, hf3, (by rw [hpn S1 hS1, if_neg (fun y => y.2.2 hpv)]; exact hSE)⟩)
      · have hjR : ¬ j < P.R i := by have := nI_inj (by omega) (by omega) hb159; omega
        exact S_ret (v := 0) rfl dX10_assign_162 rfl (⟨hf1, hf2, hf3, (by rw [hpn S1 hS1, if_neg (fun y => hjR y.1)]; exact hSE)⟩)
    refine Ct.of [some (.ref (b0 + 140)), some (.int (nI p)), some (.int (nI j)), some (.int (nI b)), none, none, none, none] (by decide) (Nat.le_of_ble_eq_true rfl) rfl rfl ?_
    refine S_aload_0 (q := 1) dX10_assign_0 rfl ?_
    refine S_aload_0 (q := 2) dX10_assign_1 rfl ?_
    refine S_getI (q := 5) dX10_assign_2 fl_X10_65 (by first | assumption | rfl) (by rfl) rfl ?_
    rw [hA4]
    refine S_callV1i (q := 8) dX10_assign_5 lk_X10_214 (by first | assumption | rfl) rfl rfl (k_X10_size hA1 hA2 hr8 hc8 hr1 hc1 hi16) rfl rfl (Nat.le_of_ble_eq_true rfl) ⟨by simp only [rmZ]; omega, by simp only [rmZ]; omega⟩ ⟨Nat.le_of_ble_eq_true rfl, Nat.le_of_ble_eq_true rfl⟩ rfl (fun v5 M5 hv5 => ?_)
    obtain ⟨e5, rfl⟩ := hv5
    rw [e5]
    refine S_istore_4 (q := 10) dX10_assign_8 rfl ?_
    refine S_iload_1 (q := 11) dX10_assign_10 rfl ?_
    refine S_iload_4 (q := 13) dX10_assign_11 rfl ?_
    refine S_icmp_ne (t := 100) (q := 16) dX10_assign_13 (by decide) rfl (fun hb13 => ?_) (fun hb13 => ?_)
    · refine S_aload_0 (q := 101) dX10_assign_100 rfl ?_
      refine S_getR (q := 104) dX10_assign_101 fl_X10_22 (by first | assumption | rfl) (by rfl) rfl ?_
      refine S_aload_0 (q := 105) dX10_assign_104 rfl ?_
      refine S_getI (q := 108) dX10_assign_105 fl_X10_62 (by first | assumption | rfl) (by rfl) rfl ?_
      refine S_aload_0 (q := 109) dX10_assign_108 rfl ?_
      refine S_aload_0 (q := 110) dX10_assign_109 rfl ?_
      refine S_getI (q := 113) dX10_assign_110 fl_X10_65 (by first | assumption | rfl) (by rfl) rfl ?_
      refine S_iload_1 (q := 114) dX10_assign_113 rfl ?_
      rw [hA4]
      refine S_callV2i (q := 117) dX10_assign_114 lk_X10_217 (by first | assumption | rfl) rfl rfl (k_X10_cellOf hA1 hA2 hr8 hc8 hr1 hc1 hi16 (q := p)) rfl rfl (Nat.le_of_ble_eq_true rfl) ⟨by simp only [rmZ]; omega, by simp only [rmZ]; omega⟩ ⟨Nat.le_of_ble_eq_true rfl, Nat.le_of_ble_eq_true rfl⟩ rfl (fun v114 M114 hv114 => ?_)
      obtain ⟨e114, rfl⟩ := hv114
      rw [e114]
      refine S_iadd (q := 118) dX10_assign_117 rfl ?_
      rw [hA3, nI_add]
      refine S_ialdV (i := bb + lnG P.r P.c i p) (val := nI (lmk P f i p)) (q := 119) dX10_assign_118 (by first | assumption | rfl) rfl (by omega) (by decide) hmk.1 rfl ?_
      refine S_istore_5 (q := 121) dX10_assign_119 rfl ?_
      refine S_iload_3 (q := 122) dX10_assign_121 rfl ?_
      refine S_if_ne (t := 149) (q := 125) dX10_assign_122 (by decide) rfl (fun hb122 => ?_) (fun hb122 => ?_)
      · have hb0 : ¬ b = 0 := fun e => hb122 (by rw [e]; rfl)
        exact H149 M Sv (by rw [if_neg (fun y => hb0 y.1)]; rfl) ⟨fun _ _ _ _ => rfl, fun _ _ _ => rfl, fun _ _ => rfl⟩ hS
      · have hb0 : b = 0 := nI_inj (by omega) (by decide) hb122
        refine S_iload_5 (q := 127) dX10_assign_125 rfl ?_
        refine S_iconst (q := 128) (nI 1) dX10_assign_127 (by decide) rfl ?_
        refine S_iand (q := 129) dX10_assign_128 rfl ?_
        refine S_iconst (q := 130) (nI 1) dX10_assign_129 (by decide) rfl ?_
        refine S_icmp_ne (t := 149) (q := 133) dX10_assign_130 (by decide) rfl (fun hb130 => ?_) (fun hb130 => ?_)
        · have hw : ¬ (lmk P f i p).testBit 0 = true := fun y => hb130 ((may1 _ hmk.2.2).mpr y)
          exact H149 M Sv (by rw [if_neg (fun y => hw y.2)]; rfl) ⟨fun _ _ _ _ => rfl, fun _ _ _ => rfl, fun _ _ => rfl⟩ hS
        · have hw : (lmk P f i p).testBit 0 = true := (may1 _ hmk.2.2).mp hb130
          refine S_aload_0 (q := 134) dX10_assign_133 rfl ?_
          refine S_getR (q := 137) dX10_assign_134 fl_X10_56 (by first | assumption | rfl) (by rfl) rfl ?_
          refine S_iload_1 (q := 138) dX10_assign_137 rfl ?_
          refine S_iconst (q := 139) (nI 0) dX10_assign_138 (by decide) rfl ?_
          refine S_iastE (i := p) (q := 140) dX10_assign_139 (by first | assumption | rfl) (by first | (simp only [nI_add, pk_mul, nI_1]; done) | rfl) (by omega) (by decide) rfl ?_
          refine S_aload_0 (q := 141) dX10_assign_140 rfl ?_
          refine S_iload_1 (q := 142) dX10_assign_141 rfl ?_
          refine S_iconst (q := 143) (nI 1) dX10_assign_142 (by decide) rfl ?_
          refine S_iadd (q := 144) dX10_assign_143 rfl ?_
          refine S_iload_2 (q := 145) dX10_assign_144 rfl ?_
          rw [nI_add]
          refine S_iconst (q := 146) (nI 0) dX10_assign_145 (by decide) rfl ?_
          refine S_callV3v (q := 149) dX10_assign_146 lk_X10_221 (by first | assumption | rfl) rfl rfl (ih (p + 1) j 0 (up M 149 p (nI 0)) (upf tr p 0) Sv (by omega) (by omega) hj (fun y => ((hA5 i hi16).2.2 j y).2.1) (by omega) (hA.fr (fun a h1 h2 h3 => up_n h2) (fun k _ _ => by rw [up_n (by decide)])) (fun q hq => by
                    by_cases e : q = p
                    · rw [e, up_s, upf_s]; exact ⟨rfl, by omega⟩
                    · rw [up_eq, if_neg (fun y => e y.2), upf_n e]; exact hT q (by omega)) ⟨fun x hx => by rw [up_n (by decide)]; exact hS.1 x hx, by rw [up_n (by decide)]; exact hS.2.1, by rw [up_n (by decide)]; exact hS.2.2⟩ (by rw [Nat.pow_succ] at hcn; omega)) rfl rfl (Nat.le_of_ble_eq_true rfl) ⟨by simp only [rmZ]; omega, by simp only [rmZ]; omega⟩ ⟨Nat.le_of_ble_eq_true rfl, Nat.le_of_ble_eq_true rfl⟩ rfl (fun v146 M146 hv146 => ?_)
          refine H149 M146 _ rfl ⟨fun a h1 h2 h3 => by rw [hv146.1 a h1 h2 h3, up_n h2], fun k h1 h2 => by rw [hv146.2.1 k h1 h2, up_n (by decide)], fun q hq => by rw [hv146.2.2.1 q (by omega), up_eq, if_neg (by omega)]⟩ ?_
          rw [if_pos ⟨hb0, hw⟩, ← prf_map]
          have h := hv146.2.2.2
          rw [if_neg (Nat.succ_ne_zero p), Nat.add_sub_cancel, upf_s] at h
          exact h
    · exact absurd (nI_inj (by omega) (by omega) hb13) (by omega)
