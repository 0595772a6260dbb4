/-! THE LAW'S BODY -/
theorem va_int : Cond.arrayClass .int ∈ TG := (TG_tab 45 (by decide +kernel) rfl)
/-- the law's end: it answers 1 -/
def QW : Array Value → State → Outcome → State → Prop := fun _ _ oc _ => oc = .returned (some (.int 1))
set_option maxRecDepth 100000 in
theorem lyz_len {Z : Lay} : (LYZ Z).length = Z.length + 140 := rfl
set_option maxRecDepth 100000 in
theorem lyz_app {Z : Lay} {x : LE} : LYZ Z ++ [x] = LYZ (Z ++ [x]) := rfl
theorem lyz_at {Z : Lay} {x : LE} : (LYZ (Z ++ [x]))[(LYZ Z).length]? = some x := by
  rw [← lyz_app, List.getElem?_append_right (Nat.le_refl _), Nat.sub_self]
  rfl
set_option maxHeartbeats 4000000 in
set_option maxRecDepth 100000 in
theorem l_C {b L : Nat} {xs : Nat → Int32} {l : Launch} {G : Gd} {b0 : Nat} {nm d0 : String} {Z : Lay} {ce sl r c pl z : Nat} {u : Nat → Nat} {x3 : Option Value} {A : Ab} {M : Mem} {v : Int32} (hC : CR M A) (h : INV A u r c) (hr : 1 ≤ r ∧ r ≤ 6) (hc : 1 ≤ c ∧ c ≤ 6) (hpl : 140 ≤ pl) (hy : (LYZ Z)[pl]? = some (.inr (.inl (r * c)))) (hce : ce ≤ 1000) (hsl : sl ≤ 20000) (hp : ∀ i, i < r * c → M pl i = nI (u i)) (hu : v = nI 1 → ∀ i j, i < r → j < c → o_sol A (nI 0) (nI i) (nI j) = (A, nI (u (i * c + j)))) (K : ∀ (M' : Mem) (A' : Ab), CR M' A' → A'.ok → SL b L xs l G b0 ⟨RL, nm, d0⟩ cL_law 8 (some .boolean) room_1 QW 600000 7302250 ce sl (LYZ Z) 269 [some (.ref b), some (.ref (b0 + 0)), some (.int (nI z)), none, none, none, none, none] [] M') : SL b L xs l G b0 ⟨RL, nm, d0⟩ cL_law 8 (some .boolean) room_1 QW 600000 7302250 ce sl (LYZ Z) 224 [some (.ref b), some (.ref (b0 + 0)), some (.int (nI z)), x3, some (.int (nI c)), some (.ref (b0 + pl)), some (.int v), some (.int (nI 0))] [] M := by
  have hrc : r * c ≤ 36 := Nat.mul_le_mul hr.2 hc.2
  have hCS : ce + 0 ≤ room_1.cells ∧ sl + 0 ≤ room_1.slots := ⟨Nat.le_trans hce (by decide), Nat.le_trans hsl (by decide)⟩
  suffices H : ∀ (d i : Nat) (M1 : Mem), r * c - i = d → i ≤ r * c → (CR M1 A ∧ ∀ i, i < r * c → M1 pl i = nI (u i)) → SL b L xs l G b0 ⟨RL, nm, d0⟩ cL_law 8 (some .boolean) room_1 QW 600000 7302250 ce sl (LYZ Z) 224 [some (.ref b), some (.ref (b0 + 0)), some (.int (nI z)), x3, some (.int (nI c)), some (.ref (b0 + pl)), some (.int v), some (.int (nI (i)))] [] M1 from H _ 0 _ rfl (Nat.zero_le _) ⟨hC, hp⟩
  intro d
  induction d with
  | zero =>
    intro i M1 hd hi hI
    have e : i = r * c := by omega
    subst e
    refine L_iload_7 (q := 226) dL_law_224 rfl ?_
    refine L_aload_5 (q := 228) dL_law_226 rfl ?_
    refine L_alen (q := 229) dL_law_228 (by first | assumption | rfl) rfl ?_
    refine L_icmp_ge (t := 269) (q := 232) dL_law_229 (by decide) rfl (fun hb229 => ?_) (fun hb229 => ?_)
    · refine L_fgt3 (L_fgt4 (L_fgt5 (L_fgt6 (L_fgt7 ?_))))
      exact K M1 A hI.1 h.1
    · exact absurd (Int32.le_refl _) hb229
  | succ d ih =>
    intro i M1 hd hi hI
    have hlt : i < r * c := by omega
    have hq1 : i / c < r := Nat.div_lt_of_lt_mul (by rw [Nat.mul_comm]; exact hlt)
    have hq2 : i % c < c := Nat.mod_lt _ hc.1
    have hq3 : i / c * c + i % c = i := by rw [Nat.mul_comm]; exact Nat.div_add_mod i c
    refine L_iload_7 (q := 226) dL_law_224 rfl ?_
    refine L_aload_5 (q := 228) dL_law_226 rfl ?_
    refine L_alen (q := 229) dL_law_228 (by first | assumption | rfl) rfl ?_
    refine L_icmp_ge (t := 269) (q := 232) dL_law_229 (by decide) rfl (fun hb229 => ?_) (fun hb229 => ?_)
    · exact absurd hb229 (nI_ge hlt (by omega))
    · refine L_iload_6 (q := 234) dL_law_232 rfl ?_
      refine L_iconst (q := 235) (nI 1) dL_law_234 (by decide) rfl ?_
      refine L_icmp_ne (t := 269) (q := 238) dL_law_235 (by decide) rfl (fun hb235 => ?_) (fun hb235 => ?_)
      · refine L_fgt3 (L_fgt4 (L_fgt5 (L_fgt6 (L_fgt7 ?_))))
        exact K M1 A hI.1 h.1
      · refine L_aload_1 (q := 239) dL_law_238 rfl ?_
        refine L_iconst (q := 240) (nI 0) dL_law_239 (by decide) rfl ?_
        refine L_iload_7 (q := 242) dL_law_240 rfl ?_
        refine L_iload_4 (q := 244) dL_law_242 rfl ?_
        refine L_idiv (q := 245) dL_law_244 (nI_n0 (by omega) (by omega)) rfl ?_
        rw [pk_div (by omega) (by omega) (by omega)]
        refine L_iload_7 (q := 247) dL_law_245 rfl ?_
        refine L_iload_4 (q := 249) dL_law_247 rfl ?_
        refine L_irem (q := 250) dL_law_249 (nI_n0 (by omega) (by omega)) rfl ?_
        rw [pk_rem (by omega) (by omega) (by omega)]
        refine L_callV3i (q := 253) dL_law_250 lk_L_76 (by first | assumption | rfl) rfl rfl (k_X9_solutionColor hI.1 h.1) rfl rfl (Nat.le_of_ble_eq_true rfl) ⟨Nat.le_of_ble_eq_true rfl, Nat.le_of_ble_eq_true rfl⟩ hCS rfl (fun v250 M250 hv250 => ?_)
        obtain ⟨hC250, hf250, rfl⟩ := hv250
        have e250 := hu hb235 (i / c) (i % c) hq1 hq2
        rw [hq3] at e250
        rw [e250] at hC250
        change CR M250 A at hC250
        rw [show (o_sol A (nI 0) (nI (i / c)) (nI (i % c))).2 = nI (u i) from by rw [e250]]
        refine L_aload_5 (q := 255) dL_law_253 rfl ?_
        refine L_iload_7 (q := 257) dL_law_255 rfl ?_
        refine L_ialdV (i := i) (val := nI (u i)) (q := 258) dL_law_257 (by first | assumption | rfl) (by first | (simp only [nI_add, pk_mul, nI_1]; done) | rfl) hlt (by omega) (by rw [hf250 _ hpl]; exact hI.2 i hlt) rfl ?_
        refine L_icmp_eq (t := 263) (q := 261) dL_law_258 (by decide) rfl (fun hb258 => ?_) (fun hb258 => ?_)
        · refine L_iinc_7 (q := 266) (nI (i + 1)) dL_law_263 (inc1 _) rfl ?_
          refine L_goto (t := 224) dL_law_266 (by decide) ?_
          exact ih (i + 1) _ (by omega) hlt ⟨hC250, fun j hj => by rw [hf250 _ hpl]; exact hI.2 j hj⟩
        · exact absurd rfl hb258
set_option maxHeartbeats 4000000 in
set_option maxRecDepth 100000 in
theorem l_P {b L : Nat} {xs : Nat → Int32} {l : Launch} {G : Gd} {b0 : Nat} {nm d0 : String} {Z : Lay} {ce sl r c pl z : Nat} {u : Nat → Nat} {x3 : Option Value} {A : Ab} {M : Mem} {x6 x7 : Option Value} (hC : CR M A) (h : INV A u r c) (hr : 1 ≤ r ∧ r ≤ 6) (hc : 1 ≤ c ∧ c ≤ 6) (hpl : 140 ≤ pl) (hy : (LYZ Z)[pl]? = some (.inr (.inl (r * c)))) (hce : ce ≤ 1000) (hsl : sl ≤ 20000) (hp : ∀ i, i < r * c → M pl i = nI (u i)) (K : ∀ (M' : Mem) (A' : Ab), CR M' A' → A'.ok → SL b L xs l G b0 ⟨RL, nm, d0⟩ cL_law 8 (some .boolean) room_1 QW 600000 7302250 ce sl (LYZ Z) 269 [some (.ref b), some (.ref (b0 + 0)), some (.int (nI z)), none, none, none, none, none] [] M') : SL b L xs l G b0 ⟨RL, nm, d0⟩ cL_law 8 (some .boolean) room_1 QW 600000 7302250 ce sl (LYZ Z) 165 [some (.ref b), some (.ref (b0 + 0)), some (.int (nI z)), x3, some (.int (nI c)), some (.ref (b0 + pl)), x6, x7] [] M := by
  have hrc : r * c ≤ 36 := Nat.mul_le_mul hr.2 hc.2
  have hCS : ce + 0 ≤ room_1.cells ∧ sl + 0 ≤ room_1.slots := ⟨Nat.le_trans hce (by decide), Nat.le_trans hsl (by decide)⟩
  refine L_aload_1 (q := 166) dL_law_165 rfl ?_
  refine L_callV0i (q := 169) dL_law_166 lk_L_63 (by first | assumption | rfl) rfl rfl (k_X9_propagate hC h.1) rfl rfl (Nat.le_of_ble_eq_true rfl) ⟨Nat.le_of_ble_eq_true rfl, Nat.le_of_ble_eq_true rfl⟩ hCS rfl (fun v166 M166 hv166 => ?_)
  obtain ⟨hC166, hf166, rfl⟩ := hv166
  refine L_if_lt (t := 197) (q := 172) dL_law_169 (by decide) rfl (fun hb169 => ?_) (fun hb169 => ?_)
  · exact absurd hb169 h.prop.2
  · refine L_aload_1 (q := 173) dL_law_172 rfl ?_
    refine L_aload_5 (q := 175) dL_law_173 rfl ?_
    refine L_callS2i (q := 178) dL_law_175 lk_L_66 (k_L_isThere hC166 h.prop.1 hr hc hpl hy (fun i hi => by rw [hf166 _ hpl]; exact hp i hi)) rfl rfl (Nat.le_of_ble_eq_true rfl) ⟨Nat.le_of_ble_eq_true rfl, Nat.le_of_ble_eq_true rfl⟩ hCS rfl (fun v175 M175 hv175 => ?_)
    obtain ⟨hC175, hf175, rfl⟩ := hv175
    refine L_if_eq (t := 197) (q := 181) dL_law_178 (by decide) rfl (fun hb178 => ?_) (fun hb178 => ?_)
    · exact absurd hb178 (by decide)
    · refine L_aload_1 (q := 182) dL_law_181 rfl ?_
      refine L_callV0i (q := 185) dL_law_182 lk_L_70 (by first | assumption | rfl) rfl rfl (k_X9_probeAll hC175 h.prop.1.1) rfl rfl (Nat.le_of_ble_eq_true rfl) ⟨Nat.le_of_ble_eq_true rfl, Nat.le_of_ble_eq_true rfl⟩ hCS rfl (fun v182 M182 hv182 => ?_)
      obtain ⟨hC182, hf182, rfl⟩ := hv182
      have hp182 : ∀ i, i < r * c → M182 pl i = nI (u i) := fun i hi => by rw [hf182 _ hpl, hf175 _ hpl, hf166 _ hpl]; exact hp i hi
      refine L_if_lt (t := 197) (q := 188) dL_law_185 (by decide) rfl (fun hb185 => ?_) (fun hb185 => ?_)
      · exact absurd hb185 h.prop.1.all.2
      · refine L_aload_1 (q := 189) dL_law_188 rfl ?_
        refine L_aload_5 (q := 191) dL_law_189 rfl ?_
        refine L_callS2i (q := 194) dL_law_191 lk_L_66 (k_L_isThere hC182 h.prop.1.all.1 hr hc hpl hy hp182) rfl rfl (Nat.le_of_ble_eq_true rfl) ⟨Nat.le_of_ble_eq_true rfl, Nat.le_of_ble_eq_true rfl⟩ hCS rfl (fun v191 M191 hv191 => ?_)
        obtain ⟨hC191, hf191, rfl⟩ := hv191
        refine L_if_ne (t := 199) (q := 197) dL_law_194 (by decide) rfl (fun hb194 => ?_) (fun hb194 => ?_)
        · refine L_aload_1 (q := 200) dL_law_199 rfl ?_
          refine L_callV0i (q := 203) dL_law_200 lk_L_54 (by first | assumption | rfl) rfl rfl (k_X9_isUnique hC191 h.prop.1.all.1.1) rfl rfl (Nat.le_of_ble_eq_true rfl) ⟨Nat.le_of_ble_eq_true rfl, Nat.le_of_ble_eq_true rfl⟩ hCS rfl (fun v200 M200 hv200 => ?_)
          obtain ⟨hC200, hf200, rfl⟩ := hv200
          have hU := h.prop.1.all.1.uniq
          rw [hU.1] at hC200
          have hp200 : ∀ i, i < r * c → M200 pl i = nI (u i) := fun i hi => by rw [hf200 _ hpl, hf191 _ hpl]; exact hp182 i hi
          refine L_istore_6 (q := 205) dL_law_203 rfl ?_
          refine L_iload_6 (q := 207) dL_law_205 rfl ?_
          refine L_if_ne (t := 221) (q := 210) dL_law_207 (by decide) rfl (fun hb207 => ?_) (fun hb207 => ?_)
          · refine L_iconst (q := 222) (nI 0) dL_law_221 (by decide) rfl ?_
            refine L_istore_7 (q := 224) dL_law_222 rfl ?_
            exact l_C hC200 h.prop.1.all.1 hr hc hpl hy hce hsl hp200 hU.2.2 K
          · refine L_aload_1 (q := 211) dL_law_210 rfl ?_
            refine L_iconst (q := 212) (nI 2) dL_law_211 (by decide) rfl ?_
            refine L_callV1i (q := 215) dL_law_212 lk_L_73 (by first | assumption | rfl) rfl rfl (k_X9_countSolutions hC200 h.prop.1.all.1.1) rfl rfl (Nat.le_of_ble_eq_true rfl) ⟨Nat.le_of_ble_eq_true rfl, Nat.le_of_ble_eq_true rfl⟩ hCS rfl (fun v212 M212 hv212 => ?_)
            obtain ⟨hC212, hf212, rfl⟩ := hv212
            rw [hU.2.1 hb207] at hC212
            change CR M212 (o_all (o_prop A).1).1 at hC212
            rw [show (o_cnt (o_all (o_prop A).1).1 (nI 2)).2 = nI 2 from by rw [hU.2.1 hb207]]
            refine L_iconst (q := 216) (nI 2) dL_law_215 (by decide) rfl ?_
            refine L_icmp_eq (t := 221) (q := 219) dL_law_216 (by decide) rfl (fun hb216 => ?_) (fun hb216 => ?_)
            · refine L_iconst (q := 222) (nI 0) dL_law_221 (by decide) rfl ?_
              refine L_istore_7 (q := 224) dL_law_222 rfl ?_
              exact l_C hC212 h.prop.1.all.1 hr hc hpl hy hce hsl (fun i hi => by rw [hf212 _ hpl]; exact hp200 i hi) hU.2.2 K
            · exact absurd rfl hb216
        · exact absurd hb194 (by decide)
set_option maxHeartbeats 4000000 in
set_option maxRecDepth 100000 in
theorem l_B {b L : Nat} {xs : Nat → Int32} {l : Launch} {G : Gd} {b0 : Nat} {nm d0 : String} {Z : Lay} {ce sl r c pl z : Nat} {u : Nat → Nat} {x3 : Option Value} {A : Ab} {M : Mem} {x7 : Option Value} (hL : L ≤ 2048) (hz : z ≤ 100) (hC : CR M A) (h : INV A u r c) (hr : 1 ≤ r ∧ r ≤ 6) (hc : 1 ≤ c ∧ c ≤ 6) (hpl : 140 ≤ pl) (hy : (LYZ Z)[pl]? = some (.inr (.inl (r * c)))) (hce : ce ≤ 1000) (hsl : sl ≤ 20000) (hp : ∀ i, i < r * c → M pl i = nI (u i)) (K : ∀ (M' : Mem) (A' : Ab), CR M' A' → A'.ok → SL b L xs l G b0 ⟨RL, nm, d0⟩ cL_law 8 (some .boolean) room_1 QW 600000 7302250 ce sl (LYZ Z) 269 [some (.ref b), some (.ref (b0 + 0)), some (.int (nI z)), none, none, none, none, none] [] M') : SL b L xs l G b0 ⟨RL, nm, d0⟩ cL_law 8 (some .boolean) room_1 QW 600000 7302250 ce sl (LYZ Z) 114 [some (.ref b), some (.ref (b0 + 0)), some (.int (nI z)), x3, some (.int (nI c)), some (.ref (b0 + pl)), some (.int (nI 0)), x7] [] M := by
  have hrc : r * c ≤ 36 := Nat.mul_le_mul hr.2 hc.2
  have hCS : ce + 0 ≤ room_1.cells ∧ sl + 0 ≤ room_1.slots := ⟨Nat.le_trans hce (by decide), Nat.le_trans hsl (by decide)⟩
  have hm1 : 0 < r * c := Nat.mul_pos hr.1 hc.1
  suffices H : ∀ (d i : Nat) (A : Ab) (M1 : Mem) (x7 : Option Value), 3 - i = d → i ≤ 3 → (CR M1 A ∧ INV A u r c ∧ ∀ i, i < r * c → M1 pl i = nI (u i)) → SL b L xs l G b0 ⟨RL, nm, d0⟩ cL_law 8 (some .boolean) room_1 QW 600000 7302250 ce sl (LYZ Z) 114 [some (.ref b), some (.ref (b0 + 0)), some (.int (nI z)), x3, some (.int (nI c)), some (.ref (b0 + pl)), some (.int (nI (i))), x7] [] M1 from H _ 0 _ _ _ rfl (Nat.zero_le _) ⟨hC, h, hp⟩
  intro d
  induction d with
  | zero =>
    intro i A M1 x7 hd hi hI
    have e : i = 3 := by omega
    subst e
    refine L_iload_6 (q := 116) dL_law_114 rfl ?_
    refine L_iconst (q := 117) (nI 3) dL_law_116 (by decide) rfl ?_
    refine L_icmp_ge (t := 165) (q := 120) dL_law_117 (by decide) rfl (fun hb117 => ?_) (fun hb117 => ?_)
    · exact l_P hI.1 hI.2.1 hr hc hpl hy hce hsl hI.2.2 K
    · exact absurd (Int32.le_refl _) hb117
  | succ d ih =>
    intro i A M1 x7 hd hi hI
    have hlt : i < 3 := by omega
    refine L_iload_6 (q := 116) dL_law_114 rfl ?_
    refine L_iconst (q := 117) (nI 3) dL_law_116 (by decide) rfl ?_
    refine L_icmp_ge (t := 165) (q := 120) dL_law_117 (by decide) rfl (fun hb117 => ?_) (fun hb117 => ?_)
    · exact absurd hb117 (nI_ge hlt (by decide))
    · refine L_aload_0 (q := 121) dL_law_120 rfl ?_
      refine L_iload_2 (q := 122) dL_law_121 rfl ?_
      refine L_iconst (q := 123) (nI 4) dL_law_122 (by decide) rfl ?_
      refine L_iadd (q := 124) dL_law_123 rfl ?_
      rw [nI_add]
      refine L_iload_6 (q := 126) dL_law_124 rfl ?_
      refine L_iadd (q := 127) dL_law_126 rfl ?_
      rw [nI_add]
      refine L_aload_5 (q := 129) dL_law_127 rfl ?_
      refine L_alen (q := 130) dL_law_129 (by first | assumption | rfl) rfl ?_
      refine L_callX3i (q := 133) dL_law_130 lk_L_21 (k_L_some hL (show z + 4 + i < 2 ^ 31 by omega) hm1 (show r * c < 2 ^ 31 by omega)) rfl rfl (Nat.le_of_ble_eq_true rfl) ⟨Nat.le_of_ble_eq_true rfl, Nat.le_of_ble_eq_true rfl⟩ hCS rfl (fun v130 M130 hv130 => ?_)
      obtain ⟨rfl, j, hlt2, rfl⟩ := hv130
      have hq1 : j / c < r := Nat.div_lt_of_lt_mul (by rw [Nat.mul_comm]; exact hlt2)
      have hq2 : j % c < c := Nat.mod_lt _ hc.1
      have hq3 : j / c * c + j % c = j := by rw [Nat.mul_comm]; exact Nat.div_add_mod j c
      refine L_istore_7 (q := 135) dL_law_133 rfl ?_
      refine L_aload_1 (q := 136) dL_law_135 rfl ?_
      refine L_iload_7 (q := 138) dL_law_136 rfl ?_
      refine L_iload_4 (q := 140) dL_law_138 rfl ?_
      refine L_idiv (q := 141) dL_law_140 (nI_n0 (by omega) (by omega)) rfl ?_
      rw [pk_div (by omega) (by omega) (by omega)]
      refine L_iload_7 (q := 143) dL_law_141 rfl ?_
      refine L_iload_4 (q := 145) dL_law_143 rfl ?_
      refine L_irem (q := 146) dL_law_145 (nI_n0 (by omega) (by omega)) rfl ?_
      rw [pk_rem (by omega) (by omega) (by omega)]
      refine L_aload_5 (q := 148) dL_law_146 rfl ?_
      refine L_iload_7 (q := 150) dL_law_148 rfl ?_
      refine L_ialdV (i := j) (val := nI (u j)) (q := 151) dL_law_150 (by first | assumption | rfl) (by first | (simp only [nI_add, pk_mul, nI_1]; done) | rfl) hlt2 (by omega) (hI.2.2 j hlt2) rfl ?_
      have hkp := hI.2.1.keep hq1 hq2
      rw [hq3] at hkp
      refine L_callV3i (q := 154) dL_law_151 lk_L_60 (by first | assumption | rfl) rfl rfl (k_X9_keepOnly hI.1 hI.2.1.1) rfl rfl (Nat.le_of_ble_eq_true rfl) ⟨Nat.le_of_ble_eq_true rfl, Nat.le_of_ble_eq_true rfl⟩ hCS rfl (fun v151 M151 hv151 => ?_)
      obtain ⟨hC151, hf151, rfl⟩ := hv151
      refine L_if_ge (t := 159) (q := 157) dL_law_154 (by decide) rfl (fun hb154 => ?_) (fun hb154 => ?_)
      · refine L_iinc_6 (q := 162) (nI (i + 1)) dL_law_159 (inc1 _) rfl ?_
        refine L_goto (t := 114) dL_law_162 (by decide) ?_
        exact ih (i + 1) _ _ _ (by omega) hlt ⟨hC151, hkp.1, fun q hq => by rw [hf151 _ hpl]; exact hI.2.2 q hq⟩
      · exact absurd (Int32.not_lt.mp hkp.2) hb154
set_option maxHeartbeats 4000000 in
set_option maxRecDepth 100000 in
theorem l_M {b L : Nat} {xs : Nat → Int32} {l : Launch} {G : Gd} {b0 : Nat} {nm d0 : String} {Z : Lay} {ce sl r c pl z : Nat} {u : Nat → Nat} {x3 : Option Value} {A : Ab} {M : Mem} {x6 x7 : Option Value} (hL : L ≤ 2048) (hz : z ≤ 100) (hC : CR M A) (h : DRW A u r c) (hr : 1 ≤ r ∧ r ≤ 6) (hc : 1 ≤ c ∧ c ≤ 6) (hpl : 140 ≤ pl) (hy : (LYZ Z)[pl]? = some (.inr (.inl (r * c)))) (hce : ce ≤ 1000) (hsl : sl ≤ 20000) (hp : ∀ i, i < r * c → M pl i = nI (u i)) (K : ∀ (M' : Mem) (A' : Ab), CR M' A' → A'.ok → SL b L xs l G b0 ⟨RL, nm, d0⟩ cL_law 8 (some .boolean) room_1 QW 600000 7302250 ce sl (LYZ Z) 269 [some (.ref b), some (.ref (b0 + 0)), some (.int (nI z)), none, none, none, none, none] [] M') : SL b L xs l G b0 ⟨RL, nm, d0⟩ cL_law 8 (some .boolean) room_1 QW 600000 7302250 ce sl (LYZ Z) 82 [some (.ref b), some (.ref (b0 + 0)), some (.int (nI z)), x3, some (.int (nI c)), some (.ref (b0 + pl)), x6, x7] [] M := by
  have hrc : r * c ≤ 36 := Nat.mul_le_mul hr.2 hc.2
  have hCS : ce + 0 ≤ room_1.cells ∧ sl + 0 ≤ room_1.slots := ⟨Nat.le_trans hce (by decide), Nat.le_trans hsl (by decide)⟩
  refine L_aload_1 (q := 83) dL_law_82 rfl ?_
  refine L_callV0i (q := 86) dL_law_83 lk_L_51 (by first | assumption | rfl) rfl rfl (k_X9_firstMismatch hC h.1.1) rfl rfl (Nat.le_of_ble_eq_true rfl) ⟨Nat.le_of_ble_eq_true rfl, Nat.le_of_ble_eq_true rfl⟩ hCS rfl (fun v83 M83 hv83 => ?_)
  obtain ⟨hC83, hf83, rfl⟩ := hv83
  rw [h.fm] at hC83
  change CR M83 A at hC83
  rw [show (o_fm A).2 = -8 from by rw [h.fm]]
  refine L_bipush (q := 88) (-8) dL_law_86 (by decide) rfl ?_
  refine L_icmp_ne (t := 109) (q := 91) dL_law_88 (by decide) rfl (fun hb88 => ?_) (fun hb88 => ?_)
  · exact absurd rfl hb88
  · refine L_aload_1 (q := 92) dL_law_91 rfl ?_
    refine L_callV0i (q := 95) dL_law_92 lk_L_54 (by first | assumption | rfl) rfl rfl (k_X9_isUnique hC83 h.1.1) rfl rfl (Nat.le_of_ble_eq_true rfl) ⟨Nat.le_of_ble_eq_true rfl, Nat.le_of_ble_eq_true rfl⟩ hCS rfl (fun v92 M92 hv92 => ?_)
    obtain ⟨hC92, hf92, rfl⟩ := hv92
    rw [h.uniq] at hC92
    change CR M92 A at hC92
    rw [show (o_uniq A).2 = nI 1 from by rw [h.uniq]]
    refine L_iconst (q := 96) (nI 1) dL_law_95 (by decide) rfl ?_
    refine L_icmp_ne (t := 109) (q := 99) dL_law_96 (by decide) rfl (fun hb96 => ?_) (fun hb96 => ?_)
    · exact absurd rfl hb96
    · refine L_aload_1 (q := 100) dL_law_99 rfl ?_
      refine L_callV0i (q := 103) dL_law_100 lk_L_57 (by first | assumption | rfl) rfl rfl (k_X9_clearCells hC92 h.1.1) rfl rfl (Nat.le_of_ble_eq_true rfl) ⟨Nat.le_of_ble_eq_true rfl, Nat.le_of_ble_eq_true rfl⟩ hCS rfl (fun v100 M100 hv100 => ?_)
      obtain ⟨hC100, hf100, rfl⟩ := hv100
      rw [h.clear.2]
      refine L_aload_5 (q := 105) dL_law_103 rfl ?_
      refine L_alen (q := 106) dL_law_105 (by first | assumption | rfl) rfl ?_
      refine L_icmp_eq (t := 111) (q := 109) dL_law_106 (by decide) rfl (fun hb106 => ?_) (fun hb106 => ?_)
      · refine L_iconst (q := 112) (nI 0) dL_law_111 (by decide) rfl ?_
        refine L_istore_6 (q := 114) dL_law_112 rfl ?_
        exact l_B hL hz hC100 h.clear.1 hr hc hpl hy hce hsl (fun i hi => by rw [hf100 _ hpl, hf92 _ hpl, hf83 _ hpl]; exact hp i hi) K
      · exact absurd rfl hb106
set_option maxHeartbeats 4000000 in
set_option maxRecDepth 100000 in
theorem l_A {b L : Nat} {xs : Nat → Int32} {l : Launch} {G : Gd} {b0 : Nat} {nm d0 : String} {Z : Lay} {ce sl r c pl z : Nat} {u : Nat → Nat} {x3 : Option Value} {A : Ab} {M : Mem} {x7 : Option Value} (hL : L ≤ 2048) (hz : z ≤ 100) (hC : CR M A) (h : DRW A u r c) (hr : 1 ≤ r ∧ r ≤ 6) (hc : 1 ≤ c ∧ c ≤ 6) (hpl : 140 ≤ pl) (hy : (LYZ Z)[pl]? = some (.inr (.inl (r * c)))) (hce : ce ≤ 1000) (hsl : sl ≤ 20000) (K : ∀ (M' : Mem) (A' : Ab), CR M' A' → A'.ok → SL b L xs l G b0 ⟨RL, nm, d0⟩ cL_law 8 (some .boolean) room_1 QW 600000 7302250 ce sl (LYZ Z) 269 [some (.ref b), some (.ref (b0 + 0)), some (.int (nI z)), none, none, none, none, none] [] M') : SL b L xs l G b0 ⟨RL, nm, d0⟩ cL_law 8 (some .boolean) room_1 QW 600000 7302250 ce sl (LYZ Z) 49 [some (.ref b), some (.ref (b0 + 0)), some (.int (nI z)), x3, some (.int (nI c)), some (.ref (b0 + pl)), some (.int (nI 0)), x7] [] M := by
  have hrc : r * c ≤ 36 := Nat.mul_le_mul hr.2 hc.2
  have hCS : ce + 0 ≤ room_1.cells ∧ sl + 0 ≤ room_1.slots := ⟨Nat.le_trans hce (by decide), Nat.le_trans hsl (by decide)⟩
  suffices H : ∀ (d i : Nat) (M1 : Mem), r * c - i = d → i ≤ r * c → (CR M1 A ∧ ∀ j, j < i → M1 pl j = nI (u j)) → SL b L xs l G b0 ⟨RL, nm, d0⟩ cL_law 8 (some .boolean) room_1 QW 600000 7302250 ce sl (LYZ Z) 49 [some (.ref b), some (.ref (b0 + 0)), some (.int (nI z)), x3, some (.int (nI c)), some (.ref (b0 + pl)), some (.int (nI (i))), x7] [] M1 from H _ 0 _ rfl (Nat.zero_le _) ⟨hC, fun j hj => absurd hj (Nat.not_lt_zero j)⟩
  intro d
  induction d with
  | zero =>
    intro i M1 hd hi hI
    have e : i = r * c := by omega
    subst e
    refine L_iload_6 (q := 51) dL_law_49 rfl ?_
    refine L_aload_5 (q := 53) dL_law_51 rfl ?_
    refine L_alen (q := 54) dL_law_53 (by first | assumption | rfl) rfl ?_
    refine L_icmp_ge (t := 82) (q := 57) dL_law_54 (by decide) rfl (fun hb54 => ?_) (fun hb54 => ?_)
    · exact l_M hL hz hI.1 h hr hc hpl hy hce hsl hI.2 K
    · exact absurd (Int32.le_refl _) hb54
  | succ d ih =>
    intro i M1 hd hi hI
    have hlt : i < r * c := by omega
    have hq1 : i / c < r := Nat.div_lt_of_lt_mul (by rw [Nat.mul_comm]; exact hlt)
    have hq2 : i % c < c := Nat.mod_lt _ hc.1
    have hq3 : i / c * c + i % c = i := by rw [Nat.mul_comm]; exact Nat.div_add_mod i c
    refine L_iload_6 (q := 51) dL_law_49 rfl ?_
    refine L_aload_5 (q := 53) dL_law_51 rfl ?_
    refine L_alen (q := 54) dL_law_53 (by first | assumption | rfl) rfl ?_
    refine L_icmp_ge (t := 82) (q := 57) dL_law_54 (by decide) rfl (fun hb54 => ?_) (fun hb54 => ?_)
    · exact absurd hb54 (nI_ge hlt (by omega))
    · refine L_aload_5 (q := 59) dL_law_57 rfl ?_
      refine L_iload_6 (q := 61) dL_law_59 rfl ?_
      refine L_aload_1 (q := 62) dL_law_61 rfl ?_
      refine L_iload_6 (q := 64) dL_law_62 rfl ?_
      refine L_iload_4 (q := 66) dL_law_64 rfl ?_
      refine L_idiv (q := 67) dL_law_66 (nI_n0 (by omega) (by omega)) rfl ?_
      rw [pk_div (by omega) (by omega) (by omega)]
      refine L_iload_6 (q := 69) dL_law_67 rfl ?_
      refine L_iload_4 (q := 71) dL_law_69 rfl ?_
      refine L_irem (q := 72) dL_law_71 (nI_n0 (by omega) (by omega)) rfl ?_
      rw [pk_rem (by omega) (by omega) (by omega)]
      refine L_callV2i (q := 75) dL_law_72 lk_L_47 (by first | assumption | rfl) rfl rfl (k_X9_color hI.1 h.1.1) rfl rfl (Nat.le_of_ble_eq_true rfl) ⟨Nat.le_of_ble_eq_true rfl, Nat.le_of_ble_eq_true rfl⟩ hCS rfl (fun v72 M72 hv72 => ?_)
      obtain ⟨hC72, hf72, rfl⟩ := hv72
      have e72 := h.color hq1 hq2
      rw [hq3] at e72
      rw [e72] at hC72
      change CR M72 A at hC72
      rw [show (o_color A (nI (i / c)) (nI (i % c))).2 = nI (u i) from by rw [e72]]
      refine L_iastE (i := i) (q := 76) dL_law_75 (by first | assumption | rfl) (by first | (simp only [nI_add, pk_mul, nI_1]; done) | rfl) hlt (by omega) rfl ?_
      refine L_iinc_6 (q := 79) (nI (i + 1)) dL_law_76 (inc1 _) rfl ?_
      refine L_goto (t := 49) dL_law_79 (by decide) ?_
      exact ih (i + 1) _ (by omega) hlt ⟨hC72.fr (fun a ha => up_n (by omega)), fun j hj => by
        rw [up_eq]
        by_cases e : j = i
        · rw [if_pos ⟨rfl, e⟩, e]
        · rw [if_neg (fun y => e y.2), hf72 _ hpl]
          exact hI.2 j (by omega)⟩
set_option maxHeartbeats 4000000 in
set_option maxRecDepth 100000 in
theorem l_R {b L : Nat} {xs : Nat → Int32} {l : Launch} {G : Gd} {b0 : Nat} {nm d0 : String} {Z : Lay} {ce sl z : Nat} {A : Ab} {M : Mem} (hL : L ≤ 2048) (hz : z ≤ 100) (hC : CR M A) (hk : A.ok) (hce : ce ≤ 900) (hsl : sl ≤ 19000) (K : ∀ (M' : Mem) (A' : Ab) (m : Nat), m ≤ 36 → CR M' A' → A'.ok → SL b L xs l G b0 ⟨RL, nm, d0⟩ cL_law 8 (some .boolean) room_1 QW 600000 7302250 (ce + 1) (sl + m) (LYZ (Z ++ [.inr (.inl m)])) 269 [some (.ref b), some (.ref (b0 + 0)), some (.int (nI z)), none, none, none, none, none] [] M') : SL b L xs l G b0 ⟨RL, nm, d0⟩ cL_law 8 (some .boolean) room_1 QW 600000 7302250 ce sl (LYZ Z) 16 [some (.ref b), some (.ref (b0 + 0)), some (.int (nI z)), none, none, none, none, none] [] M := by
  have hCS : ce + 0 ≤ room_1.cells ∧ sl + 0 ≤ room_1.slots := ⟨Nat.le_trans hce (by decide), Nat.le_trans hsl (by decide)⟩
  refine L_aload_1 (q := 17) dL_law_16 rfl ?_
  refine L_aload_0 (q := 18) dL_law_17 rfl ?_
  refine L_iload_2 (q := 19) dL_law_18 rfl ?_
  refine L_callX3i (q := 22) dL_law_19 lk_L_36 (k_L_draws hL hz hC hk) rfl rfl (Nat.le_of_ble_eq_true rfl) ⟨Nat.le_of_ble_eq_true rfl, Nat.le_of_ble_eq_true rfl⟩ hCS rfl (fun v19 M19 hv19 => ?_)
  obtain ⟨u, A1, r, c, rfl, hC19, hf19, h, hr1, hr6, hc1, hc6⟩ := hv19
  refine L_if_ne (t := 27) (q := 25) dL_law_22 (by decide) rfl (fun hb22 => ?_) (fun hb22 => ?_)
  · refine L_aload_1 (q := 28) dL_law_27 rfl ?_
    refine L_callV0i (q := 31) dL_law_28 lk_L_40 (by first | assumption | rfl) rfl rfl (k_X9_rowCount hC19 h.1.1) rfl rfl (Nat.le_of_ble_eq_true rfl) ⟨Nat.le_of_ble_eq_true rfl, Nat.le_of_ble_eq_true rfl⟩ hCS rfl (fun v28 M28 hv28 => ?_)
    obtain ⟨hC28, hf28, rfl⟩ := hv28
    change CR M28 A1 at hC28
    rw [show (o_rows A1).2 = nI r from by show nI A1.P.r = _; rw [h.1.2.1]]
    refine L_istore_3 (q := 32) dL_law_31 rfl ?_
    refine L_aload_1 (q := 33) dL_law_32 rfl ?_
    refine L_callV0i (q := 36) dL_law_33 lk_L_44 (by first | assumption | rfl) rfl rfl (k_X9_columnCount hC28 h.1.1) rfl rfl (Nat.le_of_ble_eq_true rfl) ⟨Nat.le_of_ble_eq_true rfl, Nat.le_of_ble_eq_true rfl⟩ hCS rfl (fun v33 M33 hv33 => ?_)
    obtain ⟨hC33, hf33, rfl⟩ := hv33
    change CR M33 A1 at hC33
    rw [show (o_cols A1).2 = nI c from by show nI A1.P.c = _; rw [h.1.2.2.1]]
    have hrc : r * c ≤ 36 := Nat.mul_le_mul hr6 hc6
    refine L_istore_4 (q := 38) dL_law_36 rfl ?_
    refine L_iload_3 (q := 39) dL_law_38 rfl ?_
    refine L_iload_4 (q := 41) dL_law_39 rfl ?_
    refine L_imul (q := 42) dL_law_41 rfl ?_
    rw [pk_mul]
    refine L_newarr (n := r * c) (q := 44) dL_law_42 va_int rfl (by omega) (Nat.le_trans (show ce + 1 ≤ 1000 by omega) (by decide)) (Nat.le_trans (show sl + r * c ≤ 20000 by omega) (by decide)) rfl ?_
    refine L_lay lyz_app ?_
    refine L_astore_5 (q := 46) dL_law_44 rfl ?_
    refine L_iconst (q := 47) (nI 0) dL_law_46 (by decide) rfl ?_
    refine L_istore_6 (q := 49) dL_law_47 rfl ?_
    exact l_A hL hz (hC33.fr (fun a ha => upA_n (by have := lyz_len (Z := Z); omega))) h ⟨hr1, hr6⟩ ⟨hc1, hc6⟩ (by rw [lyz_len]; omega) lyz_at (by omega) (by omega) (fun M2 A2 c1 c2 => K M2 A2 (r * c) hrc c1 c2)
  · exact absurd hb22 (by decide)
set_option maxHeartbeats 4000000 in
set_option maxRecDepth 100000 in
theorem l_L {b L : Nat} {xs : Nat → Int32} {l : Launch} {G : Gd} {b0 : Nat} {nm d0 : String} (hL : L ≤ 2048) : ∀ (d k : Nat), 5 - k = d → k ≤ 5 → ∀ (Z : Lay) (ce sl : Nat) (A : Ab) (M : Mem), CR M A → A.ok → ce ≤ 140 + k → sl ≤ 9927 + 36 * k → SL b L xs l G b0 ⟨RL, nm, d0⟩ cL_law 8 (some .boolean) room_1 QW 600000 7302250 ce sl (LYZ Z) 10 [some (.ref b), some (.ref (b0 + 0)), some (.int (nI (8 * k))), none, none, none, none, none] [] M := by
  intro d
  induction d with
  | zero =>
    intro k hd hk Z ce sl A M hC hok hce hsl
    have e : k = 5 := by omega
    subst e
    refine L_iload_2 (q := 11) dL_law_10 rfl ?_
    refine L_bipush (q := 13) (nI 40) dL_law_11 (by decide) rfl ?_
    refine L_icmp_ge (t := 275) (q := 16) dL_law_13 (by decide) rfl (fun hb13 => ?_) (fun hb13 => ?_)
    · refine L_iconst (q := 276) (nI 1) dL_law_275 (by decide) rfl ?_
      exact L_end (v := nI 1) (ty := .boolean) rfl dL_law_276 (by decide) (Nat.le_trans hce (by decide)) (Nat.le_trans hsl (by decide)) rfl
    · exact absurd (by decide : nI 40 ≤ nI (8 * 5)) hb13
  | succ d ih =>
    intro k hd hk Z ce sl A M hC hok hce hsl
    have hlt : 8 * k < 40 := by omega
    refine L_iload_2 (q := 11) dL_law_10 rfl ?_
    refine L_bipush (q := 13) (nI 40) dL_law_11 (by decide) rfl ?_
    refine L_icmp_ge (t := 275) (q := 16) dL_law_13 (by decide) rfl (fun hb13 => ?_) (fun hb13 => ?_)
    · exact absurd hb13 (nI_ge hlt (by decide))
    · refine l_R hL (by omega) hC hok (by omega) (by omega) (fun M' A' m hm c1 c2 => ?_)
      refine L_iinc_2 (q := 272) (nI (8 * (k + 1))) dL_law_269 (nI_add (8 * k) 8) rfl ?_
      refine L_goto (t := 10) dL_law_272 (by decide) ?_
      exact ih (k + 1) (by omega) (by omega) _ _ _ A' M' c1 c2 (by omega) (by omega)
theorem cw_L_26 : Cond.classLink RL 26 RX9 ∈ TG := (TG_tab 15 (by decide +kernel) rfl)
set_option maxHeartbeats 4000000 in
set_option maxRecDepth 100000 in
theorem law_S {b L : Nat} {xs : Nat → Int32} {l : Launch} {G : Gd} {b0 : Nat} {nm d0 : String} (hL : L ≤ 2048) (M : Mem) : SL b L xs l G b0 ⟨RL, nm, d0⟩ cL_law 8 (some .boolean) room_1 QW 600000 7302250 0 0 [] 0 [some (.ref b), none, none, none, none, none, none, none] [] M := by
  refine L_new (ci := 9) (dl := [some none, some none, some none, none, some none, some none, some none, some none, some none, none, none, none, some none, some none, some none, some none]) (q := 3) dL_law_0 rfl in_X9 tyX9_ok cw_L_26 ns_X9 ii_X9 df_X9 (Nat.le_of_ble_eq_true rfl) (Nat.le_of_ble_eq_true rfl) rfl ?_
  refine L_lay (lay1 := [.inl (9, [some none, some none, some none, none, some none, some none, some none, some none, some none, none, none, none, some none, some none, some none, some none])]) rfl ?_
  refine L_dup (q := 4) dL_law_3 rfl rfl ?_
  refine L_callI0 (k := 0) (q := 7) dL_law_4 lk_L_35 c_X9 rfl (Nat.le_of_ble_eq_true rfl) ⟨Nat.le_of_ble_eq_true rfl, Nat.le_of_ble_eq_true rfl⟩ ⟨Nat.le_of_ble_eq_true rfl, Nat.le_of_ble_eq_true rfl⟩ rfl (fun _ M1 hC1 => ?_)
  refine L_astore_1 (q := 8) dL_law_7 rfl ?_
  refine L_iconst (q := 9) (nI 0) dL_law_8 (by decide) rfl ?_
  refine L_istore_2 (q := 10) dL_law_9 rfl ?_
  exact l_L hL 5 0 rfl (Nat.zero_le _) [] _ _ A0 M1 hC1 A0_ok (by decide) (by decide)
