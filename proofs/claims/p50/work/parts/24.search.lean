section MORE3
variable {l : Launch} {G : Gd} {b0 : Nat} {y : MethodName} {cc : ByteArray} {nL : Nat} {ret : Option FieldType} {rm : Room} {lay' : Lay} {Post : PT} {mc ms cells slots : Nat} {lay : Lay} {pc q : Nat} {ls : List (Option Value)} {st : List Value} {M : Mem}
theorem S_copyN {k k0 n n0 idx sp dp z : Nat} {xs xd xz : Int32} (hd : decode cc pc = .ok (.invokestatic idx, 3)) (hL : LC y.cls idx) (hk0 : lay[k0]? = some (.inr (.inl n0))) (hk : lay[k]? = some (.inr (.inl n))) (es : xs = nI sp) (ed : xd = nI dp) (ez : xz = nI z) (h4 : sp + z ≤ n0) (h5 : dp + z ≤ n) (hn0 : n0 < 2 ^ 31) (hn : n < 2 ^ 31) (hfr : 1 ≤ rm.frames) (hlo : (st.map fun v => v.category).sum + (nativeFrameWords "java/lang/System" "arraycopy" 5 + 11) ≤ rm.locals) (hq : pc + 3 = q) (k1 : S l G b0 y cc nL ret rm lay' Post mc ms cells slots lay q ls st (upA M k (va_cpy (M k0) (M k) sp dp z))) : S l G b0 y cc nL ret rm lay' Post mc ms cells slots lay pc ls (.int xz :: .int xd :: .ref (b0 + k) :: .int xs :: .ref (b0 + k0) :: st) M := by
  subst es ed ez
  refine S_copy hd hL hk0 hk (nI_pos (by omega)) (nI_pos (by omega)) (nI_pos (by omega)) (by rw [nI_clamp (by omega), nI_clamp (by omega)]; exact h4) (by rw [nI_clamp (by omega), nI_clamp (by omega)]; exact h5) hfr hlo hq ?_
  rw [nI_clamp (show sp < 2 ^ 31 by omega), nI_clamp (show dp < 2 ^ 31 by omega), nI_clamp (show z < 2 ^ 31 by omega)]
  exact k1
theorem S_lookup {dflt : Int} {ps : Array (Int × Int)} {len : Nat} {x : Int32} {off : Int} {tgt : Nat} (hd : decode cc pc = .ok (.lookupswitch dflt ps, len)) (hp : (ps.toList.zip (ps.toList.drop 1)).all (fun (a, next) => a.1 < next.1) = true) (ho : Op.lookupswitch.offset ps.toList dflt x.toInt = off) (ht : (pc : Int) + off = (tgt : Int)) (k : S l G b0 y cc nL ret rm lay' Post mc ms cells slots lay tgt ls st M) : S l G b0 y cc nL ret rm lay' Post mc ms cells slots lay pc ls (.int x :: st) M := by
  intro p e s m args below meth c F hb hz H locs la hw hs hl; exact lv_lookup F.1 F.2.1 hd hp ho ht (k p e s m args below meth c F hb hz H locs la hw hs hl)
end MORE3
theorem cpy_in {α : Type} {f g : Nat → α} {sp dp n k : Nat} (h : k < n) : va_cpy f g sp dp n (dp + k) = f (sp + k) := by
  unfold va_cpy
  rw [if_pos ⟨by omega, by omega⟩, show sp + (dp + k - dp) = sp + k by omega]
theorem cpy_out {α : Type} {f g : Nat → α} {sp dp n k : Nat} (h : k < dp ∨ dp + n ≤ k) : va_cpy f g sp dp n k = g k := by
  unfold va_cpy
  rw [if_neg (by omega)]
/-- Search at z -/
def isZ (lay : Lay) (z : Nat) : Prop := lay[z]? = some (.inl (6, [some (some (z + 1)), some (some (z + 7)), some (some (z + 17)), some (some (z + 18)), some (some (z + 19)), none, none, none, none, none])) ∧ isG lay (z + 1) ∧ isP lay (z + 7) ∧ lay[z + 17]? = some (.inr (.inl 3840)) ∧ lay[z + 18]? = some (.inr (.inl 60)) ∧ lay[z + 19]? = some (.inr (.inl 60))
theorem zO_105 {Z : Lay} : isZ (LYZ Z) 105 := ⟨rfl, gO_106, pO_112, rfl, rfl, rfl⟩
section SCO
variable (P : Pz) (ρ : Nat) (f : Nat → Nat)
def dcL (i : Nat) : Nat := sm (fun p => dc1 f (lnCell P.r P.c i p)) (lnLen P.r P.c i)
def sco (x : Nat) : Nat := if ρ = 1 then 4 - pc4 (f x) else if ρ = 2 then dcL P f (x / P.c) + dcL P f (P.r + x % P.c) else 0
/-- the cell chosen, the highest score and 1 -/
def selT : Nat → Nat × Nat
  | 0 => (0, 0)
  | x + 1 => if pc4 (f x) ≠ 1 ∧ (selT x).2 ≤ sco P ρ f x then (x, sco P ρ f x + 1) else selT x
def sel : Nat := (selT P ρ f (P.r * P.c)).1
def adec : Prop := sm (dc1 f) (P.r * P.c) = P.r * P.c
end SCO
theorem dc1_le (f : Nat → Nat) (i : Nat) : dc1 f i ≤ 1 := by unfold dc1; split <;> omega
theorem dcL_le {P : Pz} {f : Nat → Nat} {i : Nat} (hP : P.ok) : dcL P f i ≤ 8 := by
  have h1 := sm_le (f := fun p => dc1 f (lnCell P.r P.c i p)) (n := lnLen P.r P.c i) (b := 1) (fun j _ => dc1_le f _)
  have h2 := lnLen_le (i := i) hP.r8 hP.c8
  unfold dcL
  omega
theorem sco_le {P : Pz} {ρ : Nat} {f : Nat → Nat} {x : Nat} (hP : P.ok) : sco P ρ f x ≤ 16 := by
  have h1 := dcL_le (f := f) (i := x / P.c) hP
  have h2 := dcL_le (f := f) (i := P.r + x % P.c) hP
  unfold sco
  split
  · omega
  · split <;> omega
theorem selT_le {P : Pz} {ρ : Nat} {f : Nat → Nat} (hP : P.ok) : ∀ n, (selT P ρ f n).2 ≤ 17 ∧ (selT P ρ f n).1 ≤ n := by
  intro n
  induction n with
  | zero => exact ⟨Nat.zero_le _, Nat.le_refl _⟩
  | succ n ih =>
    have := sco_le (ρ := ρ) (f := f) (x := n) hP
    unfold selT
    split
    · exact ⟨by show sco P ρ f n + 1 ≤ 17; omega, Nat.le_succ n⟩
    · exact ⟨ih.1, by omega⟩
theorem selT_ok {P : Pz} {ρ : Nat} {f : Nat → Nat} : ∀ n, ((selT P ρ f n).2 = 0 → ∀ x, x < n → pc4 (f x) = 1) ∧ ((selT P ρ f n).2 ≠ 0 → (selT P ρ f n).1 < n ∧ pc4 (f (selT P ρ f n).1) ≠ 1) := by
  intro n
  induction n with
  | zero => exact ⟨fun _ x hx => absurd hx (Nat.not_lt_zero x), fun h => absurd rfl h⟩
  | succ n ih =>
    unfold selT
    split
    · rename_i h
      exact ⟨fun z => absurd z (Nat.succ_ne_zero _), fun _ => ⟨Nat.lt_succ_self n, h.1⟩⟩
    · rename_i h
      refine ⟨fun z x hx => ?_, fun z => ⟨by have := (ih.2 z).1; omega, (ih.2 z).2⟩⟩
      rcases Nat.lt_or_ge x n with y | y
      · exact ih.1 z x y
      · rw [show x = n by omega]
        refine Decidable.not_not.mp (fun e => h ⟨e, ?_⟩)
        rw [z]
        exact Nat.zero_le _
theorem sm_all {g : Nat → Nat} : ∀ n, (∀ j, j < n → g j ≤ 1) → (sm g n = n ↔ ∀ j, j < n → g j = 1) := by
  intro n
  induction n with
  | zero => intro _; exact ⟨fun _ j hj => absurd hj (Nat.not_lt_zero j), fun _ => rfl⟩
  | succ n ih =>
    intro h
    have h1 := ih (fun j hj => h j (by omega))
    have h2 := h n (Nat.lt_succ_self n)
    have h3 := sm_le (f := g) (n := n) (b := 1) (fun j hj => h j (by omega))
    show sm g n + g n = n + 1 ↔ _
    constructor
    · intro e j hj
      rcases Nat.lt_or_ge j n with y | y
      · exact h1.mp (by omega) j y
      · rw [show j = n by omega]; omega
    · intro e
      rw [h1.mpr (fun j hj => e j (by omega)), e n (Nat.lt_succ_self n)]
theorem adec_iff {P : Pz} {f : Nat → Nat} : adec P f ↔ ∀ x, x < P.r * P.c → pc4 (f x) = 1 := by
  unfold adec
  rw [sm_all _ (fun j _ => dc1_le f j)]
  constructor
  · intro h x hx
    have := h x hx
    unfold dc1 at this
    split at this
    · assumption
    · omega
  · intro h x hx
    unfold dc1
    rw [if_pos (h x hx)]
theorem sel_ok {P : Pz} {ρ : Nat} {f : Nat → Nat} (h : ¬ adec P f) : sel P ρ f < P.r * P.c ∧ pc4 (f (sel P ρ f)) ≠ 1 := by
  obtain ⟨h1, h2⟩ := selT_ok (P := P) (ρ := ρ) (f := f) (P.r * P.c)
  exact h2 (fun e => h (adec_iff.mpr (h1 e)))
/-- the score's test, the highest one with 1 added -/
theorem hi_le {s h : Nat} (hs : s < 2 ^ 30) (hh : h < 2 ^ 30) : nI s ≤ nI h - nI 1 ↔ s < h := by
  rw [Int32.le_iff_toInt_le, nI_toInt (by omega)]
  have := pk_sub_toInt (a := h) (b := 1) hh (by decide)
  rw [this]
  omega
/-- the search's machine: its stack, nodes, found, failed, the last solution -/
abbrev Fm : Type := (Nat → Nat) × Nat × Nat
abbrev Qs : Type := List Fm × Nat × Nat × Bool × (Nat → Nat)
section MCH
variable (P : Pz) (ρ : Nat)
noncomputable def vst (f : Nat → Nat) (Q : Qs) : Qs :=
  if Q.2.1 = 60 then (Q.1, Q.2.1, Q.2.2.1, true, Q.2.2.2.2)
  else match spr P f with
    | .inl _ => (Q.1, Q.2.1 + 1, Q.2.2.1, Q.2.2.2.1, Q.2.2.2.2)
    | .inr (g, _) => if sm (dc1 g) (P.r * P.c) = P.r * P.c then (Q.1, Q.2.1 + 1, Q.2.2.1 + 1, Q.2.2.2.1, g) else ((g, sel P ρ g, 0) :: Q.1, Q.2.1 + 1, Q.2.2.1, Q.2.2.2.1, Q.2.2.2.2)
/-- the next candidate from k on, or K + 1 -/
def nxT (m K : Nat) : Nat → Nat
  | 0 => K + 1
  | d + 1 => if m.testBit (K + 1 - (d + 1)) then K + 1 - (d + 1) else nxT m K d
def nxC (m K k : Nat) : Nat := nxT m K (K + 1 - k)
noncomputable def mch (lim : Nat) (Q : Qs) : Qs :=
  if Q.2.2.2.1 = true ∨ lim ≤ Q.2.2.1 then Q else match Q.1 with
    | [] => Q
    | (g, x, k) :: t => if nxC (g x) P.k k ≤ P.k then vst P ρ (upf g x (2 ^ nxC (g x) P.k k)) ((g, x, nxC (g x) P.k k + 1) :: t, Q.2) else (t, Q.2)
noncomputable def mchN (lim : Nat) : Nat → Qs → Qs
  | 0, Q => Q
  | n + 1, Q => mchN lim n (mch P ρ lim Q)
end MCH
theorem nxT_ok {m K : Nat} : ∀ d, d ≤ K + 1 → K + 1 - d ≤ nxT m K d ∧ nxT m K d ≤ K + 1 ∧ (nxT m K d ≤ K → m.testBit (nxT m K d) = true) ∧ ∀ j, K + 1 - d ≤ j → j < nxT m K d → m.testBit j = false := by
  intro d
  induction d with
  | zero => intro _; exact ⟨Nat.le_refl _, Nat.le_refl _, fun h => absurd h (Nat.not_succ_le_self K), fun j h1 h2 => by have : nxT m K 0 = K + 1 := rfl; omega⟩
  | succ d ih =>
    intro hd
    obtain ⟨h1, h2, h3, h4⟩ := ih (by omega)
    unfold nxT
    by_cases h : m.testBit (K + 1 - (d + 1)) = true
    · rw [if_pos h]
      exact ⟨Nat.le_refl _, by omega, fun _ => h, fun j a b => by omega⟩
    · rw [if_neg h]
      refine ⟨by omega, h2, h3, fun j a b => ?_⟩
      rcases Nat.lt_or_ge j (K + 1 - d) with y | y
      · rw [show j = K + 1 - (d + 1) by omega]
        simpa using h
      · exact h4 j y b
theorem nxC_step {m K k : Nat} (hk : k ≤ K) (h : m.testBit k = false) : nxC m K k = nxC m K (k + 1) := by
  unfold nxC
  rw [show K + 1 - k = (K - k) + 1 by omega, nxT, show K + 1 - (K - k + 1) = k by omega, h, show K + 1 - (k + 1) = K - k by omega]
  rfl
theorem nxC_hit {m K k : Nat} (hk : k ≤ K) (h : m.testBit k = true) : nxC m K k = k := by
  unfold nxC
  rw [show K + 1 - k = (K - k) + 1 by omega, nxT, show K + 1 - (K - k + 1) = k by omega, if_pos h]
theorem nxC_end {m K : Nat} : nxC m K (K + 1) = K + 1 := by
  unfold nxC
  rw [Nat.sub_self]
  rfl
/-- the memory's stack -/
def SK (P : Pz) (M : Mem) (z : Nat) : List Fm → Prop
  | [] => True
  | (g, x, k) :: t => (∀ y, y < P.r * P.c → M (z + 17) (64 * t.length + y) = nI (g y)) ∧ M (z + 18) t.length = nI x ∧ M (z + 19) t.length = nI k ∧ GF P g ∧ (∀ i, i < P.r + P.c → stbl P g i) ∧ x < P.r * P.c ∧ pc4 (g x) ≠ 1 ∧ k ≤ P.k + 1 ∧ SK P M z t
theorem SK.fr {P : Pz} {M M1 : Mem} {z : Nat} (hP : P.ok) : ∀ (t : List Fm), SK P M z t → (∀ y, y < 64 * t.length → M1 (z + 17) y = M (z + 17) y) → (∀ y, y < t.length → M1 (z + 18) y = M (z + 18) y) → (∀ y, y < t.length → M1 (z + 19) y = M (z + 19) y) → SK P M1 z t := by
  intro t
  have h64 := rc64 hP.r8 hP.c8
  induction t with
  | nil => intro _ _ _ _; trivial
  | cons a t ih =>
    obtain ⟨g, x, k⟩ := a
    intro h h1 h2 h3
    rw [List.length_cons] at h1 h2 h3
    obtain ⟨a1, a2, a3, a4, a5, a6, a7, a8, a9⟩ := h
    exact ⟨fun y hy => by rw [h1 _ (by omega)]; exact a1 y hy, by rw [h2 _ (by omega)]; exact a2, by rw [h3 _ (by omega)]; exact a3, a4, a5, a6, a7, a8, ih a9 (fun y hy => h1 y (by omega)) (fun y hy => h2 y (by omega)) (fun y hy => h3 y (by omega))⟩
def ZR (P : Pz) (ρ : Nat) (M : Mem) (z : Nat) (Q : Qs) : Prop := M z 5 = nI Q.1.length ∧ M z 6 = nI ρ ∧ M z 7 = nI Q.2.1 ∧ M z 8 = nI Q.2.2.1 ∧ M z 9 = nI (if Q.2.2.2.1 then 1 else 0) ∧ SK P M z Q.1 ∧ Q.1.length ≤ Q.2.1 ∧ Q.2.1 ≤ 60 ∧ Q.2.2.1 ≤ Q.2.1
set_option maxHeartbeats 4000000 in
set_option maxRecDepth 100000 in
theorem k_X6_score {l : Launch} {G : Gd} {b0 : Nat} {lay : Lay} {M : Mem} {z x ρ : Nat} {P : Pz} {f : Nat → Nat} (hz : isZ lay z) (hP : P.ok) (hr : M (z + 1) 0 = nI P.r) (hcl : M (z + 1) 1 = nI P.c) (hce : CE M (z + 6) (P.r * P.c) f) (hx : x < P.r * P.c) (hρ : ρ ≤ 2) (hru : M z 6 = nI ρ)  : Ct l G b0 yX6_score cX6_score 2 (some .int) (rmZ 3 64) lay lay M [.ref (b0 + z), .int (nI x)] (fun v M' => M' = M ∧ v = nI (sco P ρ f x)) := by
  have hr8 := hP.r8
  have hc8 := hP.c8
  have hr1 := hP.r1
  have hc1 := hP.c1
  have hk1 := hP.k1
  have hk3 := hP.k3
  have h64 := rc64 hr8 hc8
  obtain ⟨hz0, hZg, hZp, hz17, hz18, hz19⟩ := id hz
  obtain ⟨hg0, ⟨hq0, hq1, hq2, hq3⟩, hg5⟩ := id hZg
  have hZp0 := hZp.1
  have hxr : x / P.c < P.r := Nat.div_lt_of_lt_mul (by rw [Nat.mul_comm]; exact hx)
  have hxc : x % P.c < P.c := Nat.mod_lt _ hc1
  refine Ct.of [some (.ref (b0 + z)), some (.int (nI x))] (by decide) (Nat.le_of_ble_eq_true rfl) rfl rfl ?_
  refine S_aload_0 (q := 1) dX6_score_0 rfl ?_
  refine S_getI (q := 4) dX6_score_1 fl_X6_39 (by first | assumption | rfl) (by rfl) rfl ?_
  rw [hru]
  rcases (show ρ = 0 ∨ ρ = 1 ∨ ρ = 2 by omega) with rfl | rfl | rfl
  · skip
    refine S_lookup (off := 75) (tgt := 79) dX6_score_4 (by decide) (by decide) (by decide) ?_
    refine S_iconst (q := 80) (nI 0) dX6_score_79 (by decide) rfl ?_
    exact S_iret rfl dX6_score_80 rfl rfl ⟨rfl, rfl⟩
  · skip
    refine S_lookup (off := 28) (tgt := 32) dX6_score_4 (by decide) (by decide) (by decide) ?_
    refine S_iconst (q := 33) (nI 4) dX6_score_32 (by decide) rfl ?_
    refine S_aload_0 (q := 34) dX6_score_33 rfl ?_
    refine S_getR (q := 37) dX6_score_34 fl_X6_12 (by first | assumption | rfl) (by rfl) rfl ?_
    refine S_getR (q := 40) dX6_score_37 fl_X6_75 (by first | assumption | rfl) (by rfl) rfl ?_
    refine S_iload_1 (q := 41) dX6_score_40 rfl ?_
    refine S_ialdV (i := x) (val := nI (f x)) (q := 42) dX6_score_41 (by first | assumption | rfl) (by first | (simp only [nI_add, pk_mul, nI_1]; done) | rfl) (by omega) (by decide) (hce x hx).1 rfl ?_
    refine S_callS1i (q := 45) dX6_score_42 lk_X6_111 (k_J6_bitCount_0f7a4 (hce x hx).2.2) rfl rfl (Nat.le_of_ble_eq_true rfl) ⟨Nat.le_of_ble_eq_true rfl, Nat.le_of_ble_eq_true rfl⟩ ⟨Nat.le_of_ble_eq_true rfl, Nat.le_of_ble_eq_true rfl⟩ rfl (fun v42 M42 hv42 => ?_)
    obtain ⟨rfl, rfl⟩ := hv42
    refine S_isub (q := 46) dX6_score_45 rfl ?_
    rw [pk_sub (pc4_le (f x))]
    exact S_iret rfl dX6_score_46 rfl rfl ⟨rfl, rfl⟩
  · skip
    refine S_lookup (off := 43) (tgt := 47) dX6_score_4 (by decide) (by decide) (by decide) ?_
    refine S_aload_0 (q := 48) dX6_score_47 rfl ?_
    refine S_getR (q := 51) dX6_score_48 fl_X6_12 (by first | assumption | rfl) (by rfl) rfl ?_
    refine S_aload_0 (q := 52) dX6_score_51 rfl ?_
    refine S_getR (q := 55) dX6_score_52 fl_X6_12 (by first | assumption | rfl) (by rfl) rfl ?_
    refine S_iload_1 (q := 56) dX6_score_55 rfl ?_
    refine S_callV1i (q := 59) dX6_score_56 lk_X6_116 (by first | assumption | rfl) rfl rfl (k_X1_rowLine hZg hcl hc1 hc8 (show x < 64 by omega)) rfl rfl (Nat.le_of_ble_eq_true rfl) ⟨Nat.le_of_ble_eq_true rfl, Nat.le_of_ble_eq_true rfl⟩ ⟨Nat.le_of_ble_eq_true rfl, Nat.le_of_ble_eq_true rfl⟩ rfl (fun v56 M56 hv56 => ?_)
    obtain ⟨rfl, rfl⟩ := hv56
    refine S_callV1i (q := 62) dX6_score_59 lk_X6_119 (by first | assumption | rfl) rfl rfl (k_X1_decidedInLine hZg hr hcl hr8 hc8 (show x / P.c < P.r + P.c by omega) hce) rfl rfl (Nat.le_of_ble_eq_true rfl) ⟨Nat.le_of_ble_eq_true rfl, Nat.le_of_ble_eq_true rfl⟩ ⟨Nat.le_of_ble_eq_true rfl, Nat.le_of_ble_eq_true rfl⟩ rfl (fun v59 M59 hv59 => ?_)
    obtain ⟨rfl, rfl⟩ := hv59
    refine S_aload_0 (q := 63) dX6_score_62 rfl ?_
    refine S_getR (q := 66) dX6_score_63 fl_X6_12 (by first | assumption | rfl) (by rfl) rfl ?_
    refine S_aload_0 (q := 67) dX6_score_66 rfl ?_
    refine S_getR (q := 70) dX6_score_67 fl_X6_12 (by first | assumption | rfl) (by rfl) rfl ?_
    refine S_iload_1 (q := 71) dX6_score_70 rfl ?_
    refine S_callV1i (q := 74) dX6_score_71 lk_X6_122 (by first | assumption | rfl) rfl rfl (k_X1_columnLine hZg hr hcl hc1 hc8 (show x < 64 by omega)) rfl rfl (Nat.le_of_ble_eq_true rfl) ⟨Nat.le_of_ble_eq_true rfl, Nat.le_of_ble_eq_true rfl⟩ ⟨Nat.le_of_ble_eq_true rfl, Nat.le_of_ble_eq_true rfl⟩ rfl (fun v71 M71 hv71 => ?_)
    obtain ⟨rfl, rfl⟩ := hv71
    refine S_callV1i (q := 77) dX6_score_74 lk_X6_119 (by first | assumption | rfl) rfl rfl (k_X1_decidedInLine hZg hr hcl hr8 hc8 (show P.r + x % P.c < P.r + P.c by omega) hce) rfl rfl (Nat.le_of_ble_eq_true rfl) ⟨Nat.le_of_ble_eq_true rfl, Nat.le_of_ble_eq_true rfl⟩ ⟨Nat.le_of_ble_eq_true rfl, Nat.le_of_ble_eq_true rfl⟩ rfl (fun v74 M74 hv74 => ?_)
    obtain ⟨rfl, rfl⟩ := hv74
    refine S_iadd (q := 78) dX6_score_77 rfl ?_
    rw [nI_add]
    exact S_iret rfl dX6_score_78 rfl rfl ⟨rfl, rfl⟩
set_option maxHeartbeats 4000000 in
set_option maxRecDepth 100000 in
theorem k_X6_selectCell {l : Launch} {G : Gd} {b0 : Nat} {lay : Lay} {M : Mem} {z ρ : Nat} {P : Pz} {f : Nat → Nat} (hz : isZ lay z) (hP : P.ok) (hr : M (z + 1) 0 = nI P.r) (hcl : M (z + 1) 1 = nI P.c) (hce : CE M (z + 6) (P.r * P.c) f) (hρ : ρ ≤ 2) (hru : M z 6 = nI ρ)  : Ct l G b0 yX6_selectCell cX6_selectCell 4 (some .int) (rmZ 4 85) lay lay M [.ref (b0 + z)] (fun v M' => M' = M ∧ v = nI (sel P ρ f)) := by
  have hr8 := hP.r8
  have hc8 := hP.c8
  have hr1 := hP.r1
  have hc1 := hP.c1
  have hk1 := hP.k1
  have hk3 := hP.k3
  have h64 := rc64 hr8 hc8
  obtain ⟨hz0, hZg, hZp, hz17, hz18, hz19⟩ := id hz
  obtain ⟨hg0, ⟨hq0, hq1, hq2, hq3⟩, hg5⟩ := id hZg
  have hZp0 := hZp.1
  refine Ct.of [some (.ref (b0 + z)), none, none, none] (by decide) (Nat.le_of_ble_eq_true rfl) rfl rfl ?_
  refine S_iconst (q := 1) (nI 0) dX6_selectCell_0 (by decide) rfl ?_
  refine S_istore_1 (q := 2) dX6_selectCell_1 rfl ?_
  refine S_iconst (q := 3) (-1) dX6_selectCell_2 (by decide) rfl ?_
  refine S_istore_2 (q := 4) dX6_selectCell_3 rfl ?_
  refine S_iconst (q := 5) (nI 0) dX6_selectCell_4 (by decide) rfl ?_
  refine S_istore_3 (q := 6) dX6_selectCell_5 rfl ?_
  suffices H : ∀ (d : Nat) (i : Nat), (P.r * P.c) - i = d → i ≤ (P.r * P.c) → S l G b0 yX6_selectCell cX6_selectCell 4 (some .int) (rmZ 4 85) lay (fun v M' => M' = M ∧ v = nI (sel P ρ f)) 0 0 0 0 lay 6 [some (.ref (b0 + z)), some (.int (nI (selT P ρ f (i)).1)), some (.int (nI (selT P ρ f (i)).2 - nI 1)), some (.int (nI (i)))] [] M from H _ 0 rfl (by omega)
  intro d
  induction d with
  | zero =>
    intro i hd hi
    have e : (P.r * P.c) = i := by omega
    subst e
    refine S_iload_3 (q := 7) dX6_selectCell_6 rfl ?_
    refine S_aload_0 (q := 8) dX6_selectCell_7 rfl ?_
    refine S_getR (q := 11) dX6_selectCell_8 fl_X6_12 (by first | assumption | rfl) (by rfl) rfl ?_
    refine S_callV0i (q := 14) dX6_selectCell_11 lk_X6_101 (by first | assumption | rfl) rfl rfl (k_X1_cellTotal hZg hr hcl) rfl rfl (Nat.le_of_ble_eq_true rfl) ⟨Nat.le_of_ble_eq_true rfl, Nat.le_of_ble_eq_true rfl⟩ ⟨Nat.le_of_ble_eq_true rfl, Nat.le_of_ble_eq_true rfl⟩ rfl (fun v11 M11 hv11 => ?_)
    obtain ⟨rfl, rfl⟩ := hv11
    refine S_icmp_ge (t := 51) (q := 17) dX6_selectCell_14 (by decide) rfl (fun hb14 => ?_) (fun hb14 => ?_)
    · refine S_iload_1 (q := 52) dX6_selectCell_51 rfl ?_
      exact S_iret rfl dX6_selectCell_52 rfl rfl ⟨rfl, rfl⟩
    · exact absurd (Int32.le_refl _) hb14
  | succ d ih =>
    intro i hd hi
    have hlt : i < (P.r * P.c) := by omega
    refine S_iload_3 (q := 7) dX6_selectCell_6 rfl ?_
    refine S_aload_0 (q := 8) dX6_selectCell_7 rfl ?_
    refine S_getR (q := 11) dX6_selectCell_8 fl_X6_12 (by first | assumption | rfl) (by rfl) rfl ?_
    refine S_callV0i (q := 14) dX6_selectCell_11 lk_X6_101 (by first | assumption | rfl) rfl rfl (k_X1_cellTotal hZg hr hcl) rfl rfl (Nat.le_of_ble_eq_true rfl) ⟨Nat.le_of_ble_eq_true rfl, Nat.le_of_ble_eq_true rfl⟩ ⟨Nat.le_of_ble_eq_true rfl, Nat.le_of_ble_eq_true rfl⟩ rfl (fun v11 M11 hv11 => ?_)
    obtain ⟨rfl, rfl⟩ := hv11
    refine S_icmp_ge (t := 51) (q := 17) dX6_selectCell_14 (by decide) rfl (fun hb14 => ?_) (fun hb14 => ?_)
    · exact absurd hb14 (nI_ge hlt (by omega))
    · refine S_aload_0 (q := 18) dX6_selectCell_17 rfl ?_
      refine S_getR (q := 21) dX6_selectCell_18 fl_X6_12 (by first | assumption | rfl) (by rfl) rfl ?_
      refine S_iload_3 (q := 22) dX6_selectCell_21 rfl ?_
      refine S_callV1i (q := 25) dX6_selectCell_22 lk_X6_104 (by first | assumption | rfl) rfl rfl (k_X1_isDecided hZg (show i < 64 by omega) (hce i hlt).1 (hce i hlt).2.2) rfl rfl (Nat.le_of_ble_eq_true rfl) ⟨Nat.le_of_ble_eq_true rfl, Nat.le_of_ble_eq_true rfl⟩ ⟨Nat.le_of_ble_eq_true rfl, Nat.le_of_ble_eq_true rfl⟩ rfl (fun v22 M22 hv22 => ?_)
      obtain ⟨rfl, rfl⟩ := hv22
      refine S_if_ne (t := 45) (q := 28) dX6_selectCell_25 (by decide) rfl (fun hb25 => ?_) (fun hb25 => ?_)
      · have hd1 : pc4 (f i) = 1 := bI_n.mp hb25
        have hse : selT P ρ f (i + 1) = selT P ρ f i := if_neg (fun z => z.1 hd1)
        refine S_iinc_3 (q := 48) (nI (i + 1)) dX6_selectCell_45 (inc1 _) rfl ?_
        refine S_goto (t := 6) dX6_selectCell_48 (by decide) ?_
        refine (?_ : _)
        have := ih (i + 1) (by omega) hlt
        rw [hse] at this
        exact this
      · have hd1 : pc4 (f i) ≠ 1 := bI_0.mp hb25
        have hle := selT_le (ρ := ρ) (f := f) hP i
        have hsl := sco_le (ρ := ρ) (f := f) (x := i) hP
        refine S_aload_0 (q := 29) dX6_selectCell_28 rfl ?_
        refine S_iload_3 (q := 30) dX6_selectCell_29 rfl ?_
        refine S_callV1i (q := 33) dX6_selectCell_30 lk_X6_108 (by first | assumption | rfl) rfl rfl (k_X6_score hz hP hr hcl hce hlt hρ hru) rfl rfl (Nat.le_of_ble_eq_true rfl) ⟨Nat.le_of_ble_eq_true rfl, Nat.le_of_ble_eq_true rfl⟩ ⟨Nat.le_of_ble_eq_true rfl, Nat.le_of_ble_eq_true rfl⟩ rfl (fun v30 M30 hv30 => ?_)
        obtain ⟨rfl, rfl⟩ := hv30
        refine S_iload_2 (q := 34) dX6_selectCell_33 rfl ?_
        refine S_icmp_le (t := 45) (q := 37) dX6_selectCell_34 (by decide) rfl (fun hb34 => ?_) (fun hb34 => ?_)
        · have hse : selT P ρ f (i + 1) = selT P ρ f i := if_neg (fun z => absurd ((hi_le (by omega) (by omega)).mp hb34) (Nat.not_lt.mpr z.2))
          refine S_iinc_3 (q := 48) (nI (i + 1)) dX6_selectCell_45 (inc1 _) rfl ?_
          refine S_goto (t := 6) dX6_selectCell_48 (by decide) ?_
          refine (?_ : _)
          have := ih (i + 1) (by omega) hlt
          rw [hse] at this
          exact this
        · have hse : selT P ρ f (i + 1) = (i, sco P ρ f i + 1) := if_pos ⟨hd1, Nat.not_lt.mp (fun z => hb34 ((hi_le (by omega) (by omega)).mpr z))⟩
          have hsd : nI (sco P ρ f i) = nI (sco P ρ f i + 1) - nI 1 := by rw [pk_sub (by omega)]; rfl
          refine S_iload_3 (q := 38) dX6_selectCell_37 rfl ?_
          refine S_istore_1 (q := 39) dX6_selectCell_38 rfl ?_
          refine S_aload_0 (q := 40) dX6_selectCell_39 rfl ?_
          refine S_iload_3 (q := 41) dX6_selectCell_40 rfl ?_
          refine S_callV1i (q := 44) dX6_selectCell_41 lk_X6_108 (by first | assumption | rfl) rfl rfl (k_X6_score hz hP hr hcl hce hlt hρ hru) rfl rfl (Nat.le_of_ble_eq_true rfl) ⟨Nat.le_of_ble_eq_true rfl, Nat.le_of_ble_eq_true rfl⟩ ⟨Nat.le_of_ble_eq_true rfl, Nat.le_of_ble_eq_true rfl⟩ rfl (fun v41 M41 hv41 => ?_)
          obtain ⟨rfl, rfl⟩ := hv41
          rw [hsd]
          refine S_istore_2 (q := 45) dX6_selectCell_44 rfl ?_
          refine S_iinc_3 (q := 48) (nI (i + 1)) dX6_selectCell_45 (inc1 _) rfl ?_
          refine S_goto (t := 6) dX6_selectCell_48 (by decide) ?_
          refine (?_ : _)
          have := ih (i + 1) (by omega) hlt
          rw [hse] at this
          exact this
set_option maxHeartbeats 4000000 in
set_option maxRecDepth 100000 in
theorem k_X6_visit {l : Launch} {G : Gd} {b0 : Nat} {lay : Lay} {M : Mem} {z U ρ : Nat} {P : Pz} {f : Nat → Nat} {Q : Qs} (hz : isZ lay z) (hP : P.ok) (hr : M (z + 1) 0 = nI P.r) (hcl : M (z + 1) 1 = nI P.c) (hcu : CLU M (z + 2) P) (hce : CE M (z + 6) (P.r * P.c) f) (hst : STB P f U) (hρ : ρ ≤ 2) (hZ : ZR P ρ M z Q)  : Ct l G b0 yX6_visit cX6_visit 2 none (rmZ 5 121) lay lay M [.ref (b0 + z), .int (nI U)] (fun v M' => (∀ a, (a < z + 6 ∨ z + 20 ≤ a) → a ≠ z → M' a = M a) ∧ ZR P ρ M' z (vst P ρ f Q) ∧ (∀ Q1, Q1 = vst P ρ f Q → Q1.2.2.1 ≠ Q.2.2.1 → CE M' (z + 6) (P.r * P.c) Q1.2.2.2.2)) := by
  have hr8 := hP.r8
  have hc8 := hP.c8
  have hr1 := hP.r1
  have hc1 := hP.c1
  have hk1 := hP.k1
  have hk3 := hP.k3
  have h64 := rc64 hr8 hc8
  obtain ⟨hz0, hZg, hZp, hz17, hz18, hz19⟩ := id hz
  obtain ⟨hg0, ⟨hq0, hq1, hq2, hq3⟩, hg5⟩ := id hZg
  have hZp0 := hZp.1
  obtain ⟨t, n, fd, fl, so⟩ := Q
  obtain ⟨z5, z6, z7, z8, z9, zs, zl, zn, zf⟩ := hZ
  simp only at z5 z6 z7 z8 z9 zs zl zn zf
  refine Ct.of [some (.ref (b0 + z)), some (.int (nI U))] (by decide) (Nat.le_of_ble_eq_true rfl) rfl rfl ?_
  refine S_aload_0 (q := 1) dX6_visit_0 rfl ?_
  refine S_getI (q := 4) dX6_visit_1 fl_X6_42 (by first | assumption | rfl) (by rfl) rfl ?_
  refine S_bipush (q := 6) (nI 60) dX6_visit_4 (by decide) rfl ?_
  rw [z7]
  refine S_icmp_lt (t := 15) (q := 9) dX6_visit_6 (by decide) rfl (fun hb6 => ?_) (fun hb6 => ?_)
  · have hn : n < 60 := (nI_ltI (by omega) (by omega)).mp hb6
    refine S_aload_0 (q := 16) dX6_visit_15 rfl ?_
    refine S_dup (q := 17) dX6_visit_16 rfl rfl ?_
    refine S_getI (q := 20) dX6_visit_17 fl_X6_42 (by first | assumption | rfl) (by rfl) rfl ?_
    refine S_iconst (q := 21) (nI 1) dX6_visit_20 (by decide) rfl ?_
    refine S_iadd (q := 22) dX6_visit_21 rfl ?_
    rw [z7, nI_add]
    refine S_putI (q := 25) dX6_visit_22 fp_X6_42 (by first | assumption | rfl) (by rfl) rfl (by rfl) rfl ?_
    refine S_aload_0 (q := 26) dX6_visit_25 rfl ?_
    refine S_getR (q := 29) dX6_visit_26 fl_X6_21 (by first | assumption | rfl) (by rfl) rfl ?_
    refine S_aload_0 (q := 30) dX6_visit_29 rfl ?_
    refine S_getR (q := 33) dX6_visit_30 fl_X6_12 (by first | assumption | rfl) (by rfl) rfl ?_
    refine S_iload_1 (q := 34) dX6_visit_33 rfl ?_
    refine S_callV2i (q := 37) dX6_visit_34 lk_X6_91 (by first | assumption | rfl) rfl rfl (k_X5_settle hZp hZg hP (by rw [up_n (by omega)]; exact hr) (by rw [up_n (by omega)]; exact hcl) (by omega) (hcu.fr (up_n (by omega)) (up_n (by omega)) (up_n (by omega))) (hce.fr (up_n (by omega))) hst) rfl rfl (Nat.le_of_ble_eq_true rfl) ⟨Nat.le_of_ble_eq_true rfl, Nat.le_of_ble_eq_true rfl⟩ ⟨Nat.le_of_ble_eq_true rfl, Nat.le_of_ble_eq_true rfl⟩ rfl (fun v34 M34 hv34 => ?_)
    obtain ⟨h34a, h34b⟩ := hv34
    have h34z : ∀ j, M34 z j = up M z 7 (nI (n + 1)) z j := fun j => by rw [h34a z (by omega) (by omega)]
    have hr1' : M34 (z + 1) 0 = nI P.r := by rw [h34a _ (by omega) (by omega), up_n (by omega)]; exact hr
    have hcl1' : M34 (z + 1) 1 = nI P.c := by rw [h34a _ (by omega) (by omega), up_n (by omega)]; exact hcl
    refine S_if_ne (t := 41) (q := 40) dX6_visit_37 (by decide) rfl (fun hb37 => ?_) (fun hb37 => ?_)
    · have hsp : ∃ h m, spr P f = .inr (h, m) := by
        cases hs : spr P f with
        | inl j => rw [(h34b.1 j hs).1] at hb37; exact absurd rfl hb37
        | inr y => exact ⟨y.1, y.2, rfl⟩
      obtain ⟨h, m, hsp⟩ := hsp
      obtain ⟨-, hceh, -, -⟩ := h34b.2 h m hsp
      obtain ⟨hGh, -, hSh, -⟩ := spr_ok hP _ _ _ _ rfl hce.gf hsp
      refine S_aload_0 (q := 42) dX6_visit_41 rfl ?_
      refine S_getR (q := 45) dX6_visit_42 fl_X6_12 (by first | assumption | rfl) (by rfl) rfl ?_
      refine S_callV0i (q := 48) dX6_visit_45 lk_X6_95 (by first | assumption | rfl) rfl rfl (k_X1_isAllDecided hZg hr1' hcl1' hr8 hc8 hceh) rfl rfl (Nat.le_of_ble_eq_true rfl) ⟨Nat.le_of_ble_eq_true rfl, Nat.le_of_ble_eq_true rfl⟩ ⟨Nat.le_of_ble_eq_true rfl, Nat.le_of_ble_eq_true rfl⟩ rfl (fun v45 M45 hv45 => ?_)
      obtain ⟨rfl, rfl⟩ := hv45
      refine S_if_eq (t := 62) (q := 51) dX6_visit_48 (by decide) rfl (fun hb48 => ?_) (fun hb48 => ?_)
      · have hnd : ¬ sm (dc1 h) (P.r * P.c) = P.r * P.c := bI_0.mp hb48
        have hsel := sel_ok (P := P) (ρ := ρ) (f := h) hnd
        refine S_aload_0 (q := 63) dX6_visit_62 rfl ?_
        refine S_getR (q := 66) dX6_visit_63 fl_X6_12 (by first | assumption | rfl) (by rfl) rfl ?_
        refine S_getR (q := 69) dX6_visit_66 fl_X6_75 (by first | assumption | rfl) (by rfl) rfl ?_
        refine S_iconst (q := 70) (nI 0) dX6_visit_69 (by decide) rfl ?_
        refine S_aload_0 (q := 71) dX6_visit_70 rfl ?_
        refine S_getR (q := 74) dX6_visit_71 fl_X6_25 (by first | assumption | rfl) (by rfl) rfl ?_
        refine S_aload_0 (q := 75) dX6_visit_74 rfl ?_
        refine S_getI (q := 78) dX6_visit_75 fl_X6_35 (by first | assumption | rfl) (by rfl) rfl ?_
        refine S_bipush (q := 80) (nI 64) dX6_visit_78 (by decide) rfl ?_
        refine S_imul (q := 81) dX6_visit_80 rfl ?_
        refine S_bipush (q := 83) (nI 64) dX6_visit_81 (by decide) rfl ?_
        refine S_copyN (sp := 0) (dp := 64 * t.length) (z := 64) (q := 86) dX6_visit_83 lc_X6_78 (by first | assumption | rfl) (by first | assumption | rfl) rfl (by rw [h34z 5, up_eq, if_neg (by omega), z5]; exact (pk_mul _ _).trans (by rw [Nat.mul_comm])) rfl (by omega) (by omega) (by decide) (by decide) (Nat.le_of_ble_eq_true rfl) (Nat.le_of_ble_eq_true rfl) rfl ?_
        refine S_aload_0 (q := 87) dX6_visit_86 rfl ?_
        refine S_getR (q := 90) dX6_visit_87 fl_X6_29 (by first | assumption | rfl) (by rfl) rfl ?_
        refine S_aload_0 (q := 91) dX6_visit_90 rfl ?_
        refine S_getI (q := 94) dX6_visit_91 fl_X6_35 (by first | assumption | rfl) (by rfl) rfl ?_
        refine S_aload_0 (q := 95) dX6_visit_94 rfl ?_
        refine S_callV0i (q := 98) dX6_visit_95 lk_X6_98 (by first | assumption | rfl) rfl rfl (k_X6_selectCell (ρ := ρ) (f := h) hz hP (by rw [upA_n (by omega)]; exact hr1') (by rw [upA_n (by omega)]; exact hcl1') (hceh.fr (upA_n (by omega))) hρ (by rw [upA_n (by omega), h34z 6, up_eq, if_neg (by omega)]; exact z6)) rfl rfl (Nat.le_of_ble_eq_true rfl) ⟨Nat.le_of_ble_eq_true rfl, Nat.le_of_ble_eq_true rfl⟩ ⟨Nat.le_of_ble_eq_true rfl, Nat.le_of_ble_eq_true rfl⟩ rfl (fun v95 M95 hv95 => ?_)
        obtain ⟨rfl, rfl⟩ := hv95
        refine S_iastE (i := t.length) (q := 99) dX6_visit_98 (by first | assumption | rfl) (by rw [upA_n (by omega), h34z 5, up_eq, if_neg (by omega)]; exact z5) (by omega) (by decide) rfl ?_
        refine S_aload_0 (q := 100) dX6_visit_99 rfl ?_
        refine S_getR (q := 103) dX6_visit_100 fl_X6_32 (by first | assumption | rfl) (by rfl) rfl ?_
        refine S_aload_0 (q := 104) dX6_visit_103 rfl ?_
        refine S_getI (q := 107) dX6_visit_104 fl_X6_35 (by first | assumption | rfl) (by rfl) rfl ?_
        refine S_iconst (q := 108) (nI 0) dX6_visit_107 (by decide) rfl ?_
        refine S_iastE (i := t.length) (q := 109) dX6_visit_108 (by first | assumption | rfl) (by rw [up_n (by omega), upA_n (by omega), h34z 5, up_eq, if_neg (by omega)]; exact z5) (by omega) (by decide) rfl ?_
        refine S_aload_0 (q := 110) dX6_visit_109 rfl ?_
        refine S_dup (q := 111) dX6_visit_110 rfl rfl ?_
        refine S_getI (q := 114) dX6_visit_111 fl_X6_35 (by first | assumption | rfl) (by rfl) rfl ?_
        refine S_iconst (q := 115) (nI 1) dX6_visit_114 (by decide) rfl ?_
        refine S_iadd (q := 116) dX6_visit_115 rfl ?_
        rw [up_n (show z ≠ z + 19 by omega), up_n (show z ≠ z + 18 by omega), upA_n (show z ≠ z + 17 by omega), h34z 5, up_eq, if_neg (by omega), z5, nI_add]
        refine S_putI (q := 119) dX6_visit_116 fp_X6_35 (by first | assumption | rfl) (by rfl) rfl (by rfl) rfl ?_
        exact S_ret (v := 0) rfl dX6_visit_119 rfl ⟨fun a h1 h2 => (by rw [up_n h2, up_n (by omega), up_n (by omega), upA_n (by omega), h34a a (by omega) (by omega), up_n h2]), (by
            unfold vst
            rw [if_neg (show ¬ n = 60 by omega), hsp]
            simp only [if_neg (show ¬ sm (dc1 h) (P.r * P.c) = P.r * P.c from hnd)]
            refine ⟨?_, ?_, ?_, ?_, ?_, ⟨fun y hy => ?_, ?_, ?_, hGh, hSh, hsel.1, hsel.2, Nat.zero_le _, zs.fr hP _ (fun y hy => ?_) (fun y hy => ?_) (fun y hy => ?_)⟩, Nat.succ_le_succ zl, hn, Nat.le_succ_of_le zf⟩
            · rw [up_s]; rfl
            · rw [up_eq, if_neg (by omega), up_n (by omega), up_n (by omega), upA_n (by omega), h34z, up_eq, if_neg (by omega)]; exact z6
            · rw [up_eq, if_neg (by omega), up_n (by omega), up_n (by omega), upA_n (by omega), h34z, up_s]
            · rw [up_eq, if_neg (by omega), up_n (by omega), up_n (by omega), upA_n (by omega), h34z, up_eq, if_neg (by omega)]; exact z8
            · rw [up_eq, if_neg (by omega), up_n (by omega), up_n (by omega), upA_n (by omega), h34z, up_eq, if_neg (by omega)]; exact z9
            · rw [up_n (by omega), up_n (by omega), up_n (by omega), upA_s, cpy_in (by omega), Nat.zero_add]; exact (hceh y hy).1
            · rw [up_n (by omega), up_n (by omega), up_s]
            · rw [up_n (by omega), up_s]
            · rw [up_n (by omega), up_n (by omega), up_n (by omega), upA_s, cpy_out (by omega), h34a _ (by omega) (by omega), up_n (by omega)]
            · rw [up_n (by omega), up_n (by omega), up_eq, if_neg (by omega), upA_n (by omega), h34a _ (by omega) (by omega), up_n (by omega)]
            · rw [up_n (by omega), up_eq, if_neg (by omega), up_n (by omega), upA_n (by omega), h34a _ (by omega) (by omega), up_n (by omega)]), fun Q1 e hne => (by
            subst e
            unfold vst at hne
            rw [if_neg (show ¬ n = 60 by omega), hsp] at hne
            simp only [if_neg (show ¬ sm (dc1 h) (P.r * P.c) = P.r * P.c from hnd)] at hne
            exact absurd rfl hne)⟩
      · have had : sm (dc1 h) (P.r * P.c) = P.r * P.c := bI_n.mp hb48
        refine S_aload_0 (q := 52) dX6_visit_51 rfl ?_
        refine S_dup (q := 53) dX6_visit_52 rfl rfl ?_
        refine S_getI (q := 56) dX6_visit_53 fl_X6_45 (by first | assumption | rfl) (by rfl) rfl ?_
        refine S_iconst (q := 57) (nI 1) dX6_visit_56 (by decide) rfl ?_
        refine S_iadd (q := 58) dX6_visit_57 rfl ?_
        rw [h34a z (by omega) (by omega), up_eq, if_neg (by omega), z8, nI_add]
        refine S_putI (q := 61) dX6_visit_58 fp_X6_45 (by first | assumption | rfl) (by rfl) rfl (by rfl) rfl ?_
        exact S_ret (v := 0) rfl dX6_visit_61 rfl ⟨fun a h1 h2 => (by rw [up_n h2, h34a a (by omega) (by omega), up_n h2]), (by
            unfold vst
            rw [if_neg (show ¬ n = 60 by omega), hsp]
            simp only [if_pos (show sm (dc1 h) (P.r * P.c) = P.r * P.c from had)]
            exact ⟨by rw [up_eq, if_neg (by omega), h34z, up_eq, if_neg (by omega)]; exact z5, by rw [up_eq, if_neg (by omega), h34z, up_eq, if_neg (by omega)]; exact z6, by rw [up_eq, if_neg (by omega), h34z, up_s], up_s, by rw [up_eq, if_neg (by omega), h34z, up_eq, if_neg (by omega)]; exact z9, zs.fr hP _ (fun y _ => by rw [up_n (by omega), h34a _ (by omega) (by omega), up_n (by omega)]) (fun y _ => by rw [up_n (by omega), h34a _ (by omega) (by omega), up_n (by omega)]) (fun y _ => by rw [up_n (by omega), h34a _ (by omega) (by omega), up_n (by omega)]), Nat.le_succ_of_le zl, hn, Nat.succ_le_succ zf⟩), fun Q1 e hne => (by
            subst e
            unfold vst
            rw [if_neg (show ¬ n = 60 by omega), hsp]
            simp only [if_pos (show sm (dc1 h) (P.r * P.c) = P.r * P.c from had)]
            exact hceh.fr (up_n (by omega)))⟩
    · have hsp : ∃ j, spr P f = .inl j := by
        cases hs : spr P f with
        | inl j => exact ⟨j, rfl⟩
        | inr y => rw [(h34b.2 y.1 y.2 hs).1] at hb37; exact absurd hb37 (by decide)
      obtain ⟨j, hsp⟩ := hsp
      exact S_ret (v := 0) rfl dX6_visit_40 rfl ⟨fun a h1 h2 => (by rw [h34a a (by omega) (by omega), up_n h2]), (by
          unfold vst
          rw [if_neg (show ¬ n = 60 by omega), hsp]
          exact ⟨by rw [h34z, up_eq, if_neg (by omega)]; exact z5, by rw [h34z, up_eq, if_neg (by omega)]; exact z6, by rw [h34z, up_s], by rw [h34z, up_eq, if_neg (by omega)]; exact z8, by rw [h34z, up_eq, if_neg (by omega)]; exact z9, zs.fr hP _ (fun y _ => by rw [h34a _ (by omega) (by omega), up_n (by omega)]) (fun y _ => by rw [h34a _ (by omega) (by omega), up_n (by omega)]) (fun y _ => by rw [h34a _ (by omega) (by omega), up_n (by omega)]), Nat.le_succ_of_le zl, hn, Nat.le_succ_of_le zf⟩), fun Q1 e hne => (by
          subst e
          unfold vst at hne
          rw [if_neg (show ¬ n = 60 by omega), hsp] at hne
          exact absurd rfl hne)⟩
  · have hn : n = 60 := by
      have := mt (nI_ltI (a := n) (b := 60) (by omega) (by omega)).mpr hb6
      omega
    refine S_aload_0 (q := 10) dX6_visit_9 rfl ?_
    refine S_iconst (q := 11) (nI 1) dX6_visit_10 (by decide) rfl ?_
    refine S_putI (q := 14) dX6_visit_11 fp_X6_48 (by first | assumption | rfl) (by rfl) (by rfl) (by rfl) rfl ?_
    exact S_ret (v := 0) rfl dX6_visit_14 rfl ⟨fun a h1 h2 => up_n h2, (by
        unfold vst
        rw [if_pos hn]
        exact ⟨by rw [up_eq, if_neg (by omega)]; exact z5, by rw [up_eq, if_neg (by omega)]; exact z6, by rw [up_eq, if_neg (by omega)]; exact z7, by rw [up_eq, if_neg (by omega)]; exact z8, up_s, zs.fr hP _ (fun y _ => by rw [up_n (by omega)]) (fun y _ => by rw [up_n (by omega)]) (fun y _ => by rw [up_n (by omega)]), zl, zn, zf⟩), fun Q1 e hne => (by
        subst e
        unfold vst at hne
        rw [if_pos hn] at hne
        exact absurd rfl hne)⟩
