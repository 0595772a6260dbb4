/-! THE REFERENCE'S STATE -/
def RGr (M : Mem) (P : Pz) (f : Nat → Nat) : Prop := M 140 0 = nI P.r ∧ M 140 1 = nI P.c ∧ M 140 2 = nI P.k ∧ CLU M 141 P ∧ RCE M 0 P f
/-- a kept state -/
def KG (M : Mem) (s : Nat) (P : Pz) (f : Nat → Nat) : Prop := (∀ x, x < P.r * P.c → M 145 (64 * s + gx P.c x) = nI (f x)) ∧ (∀ i, i < 16 → M 146 (16 * s + i) = nI (P.R i)) ∧ ∀ i, i < 16 → ∀ j, j < P.R i → M 147 (128 * s + (i * 8 + j)) = nI (P.len i j) ∧ M 148 (128 * s + (i * 8 + j)) = nI (P.col i j)
def SEQ (M : Mem) (s : Nat) (M1 : Mem) (t : Nat) : Prop := (∀ x, x < 64 → M1 145 (64 * t + x) = M 145 (64 * s + x)) ∧ (∀ x, x < 16 → M1 146 (16 * t + x) = M 146 (16 * s + x)) ∧ (∀ x, x < 128 → M1 147 (128 * t + x) = M 147 (128 * s + x)) ∧ ∀ x, x < 128 → M1 148 (128 * t + x) = M 148 (128 * s + x)
theorem SEQ.refl {M : Mem} {s : Nat} : SEQ M s M s := ⟨fun _ _ => rfl, fun _ _ => rfl, fun _ _ => rfl, fun _ _ => rfl⟩
theorem SEQ.same {M M1 : Mem} {s : Nat} (h : ∀ a, 145 ≤ a → a ≤ 148 → M1 a = M a) : SEQ M s M1 s := ⟨fun _ _ => by rw [h 145 (by decide) (by decide)], fun _ _ => by rw [h 146 (by decide) (by decide)], fun _ _ => by rw [h 147 (by decide) (by decide)], fun _ _ => by rw [h 148 (by decide) (by decide)]⟩
theorem SEQ.trans {M M1 M2 : Mem} {s t u : Nat} (h : SEQ M s M1 t) (g : SEQ M1 t M2 u) : SEQ M s M2 u := ⟨fun x hx => by rw [g.1 x hx]; exact h.1 x hx, fun x hx => by rw [g.2.1 x hx]; exact h.2.1 x hx, fun x hx => by rw [g.2.2.1 x hx]; exact h.2.2.1 x hx, fun x hx => by rw [g.2.2.2 x hx]; exact h.2.2.2 x hx⟩
theorem KG.seq {M M1 : Mem} {s t : Nat} {P : Pz} {f : Nat → Nat} (h : KG M s P f) (hP : P.ok) (e : SEQ M s M1 t) : KG M1 t P f := by
  obtain ⟨h1, h2, h3⟩ := h
  obtain ⟨e1, e2, e3, e4⟩ := e
  refine ⟨fun x hx => by rw [e1 _ (gx_64 hP.r8 hP.c8 hP.c1 hx).1]; exact h1 x hx, fun i hi => by rw [e2 i hi]; exact h2 i hi, fun i hi j hj => ?_⟩
  have hR := (hP.cl i).1
  rw [e3 (i * 8 + j) (by omega), e4 (i * 8 + j) (by omega)]
  exact h3 i hi j hj
def RHs (M : Mem) (P : Pz) (H : List HE) : Prop := M 140 8 = nI H.length ∧ ∀ s e, H[s]? = some e → KG M (H.length - 1 - s) (hP P e) (hF e)
def Rbad (M : Mem) (b : Option (Nat × Nat)) : Prop := match b with
  | none => M 140 13 = -1
  | some (l, d) => M 140 13 = nI l ∧ M 140 14 = nI d
def Rask (M : Mem) : Prop := M 140 20 = -1 ∧ ∃ ap, ap < 8 ∧ M 140 21 = nI ap
def Rtx (M : Mem) (t : (Nat → Nat) × Nat) : Prop := M 140 35 = nI t.2 ∧ ∀ j, j < t.2 → M 154 j = nI (t.1 j)
def Rfo (M : Mem) (t : (Nat → Nat) × Nat) : Prop := M 140 36 = nI t.2 ∧ ∀ j, j < t.2 → M 155 j = nI (t.1 j)
def SG (M : Mem) (P : Pz) (f : Nat → Nat) : Prop := M 140 41 = nI P.r ∧ M 140 42 = nI P.c ∧ M 140 43 = nI P.k ∧ (∀ x, x < P.r * P.c → M 159 (gx P.c x) = nI (f x)) ∧ (∀ i, i < 16 → M 160 i = nI (P.R i)) ∧ ∀ i, i < 16 → ∀ j, j < P.R i → M 161 (i * 8 + j) = nI (P.len i j) ∧ M 162 (i * 8 + j) = nI (P.col i j)
def Rsn (M : Mem) (sn : Option (Pz × (Nat → Nat))) : Prop := M 140 40 = nI (if sn.isSome then 1 else 0) ∧ ∀ P f, sn = some (P, f) → SG M P f
def Rtb (M : Mem) (tb : Nat → Option (Nat × Nat × (Nat → Int32))) : Prop := ∀ t, t < 3 → (tb t = none → M 163 t = -1) ∧ ∀ ty n it, tb t = some (ty, n, it) → M 163 t = nI ty ∧ M 164 t = nI n ∧ ∀ j, j < 64 → M 165 (64 * t + j) = it j
/-- the reference's memory -/
def RR (M : Mem) (A : Ab) : Prop := RGr M A.P A.f ∧ M 140 3 = nI A.ru ∧ RHs M A.P A.H ∧ Rbad M A.bad ∧ Rask M ∧ Rtx M A.tx ∧ Rfo M A.fo ∧ Rsn M A.sn ∧ Rtb M A.tb
theorem RGr.fr {M M1 : Mem} {P : Pz} {f : Nat → Nat} (h : RGr M P f) (hP : P.ok) (h0 : ∀ k, k ≤ 2 → M1 140 k = M 140 k) (h1 : ∀ a, 142 ≤ a → a ≤ 144 → M1 a = M a) (h2 : ∀ x, x < 64 → M1 141 x = M 141 x) : RGr M1 P f := ⟨by rw [h0 0 (by decide)]; exact h.1, by rw [h0 1 (by decide)]; exact h.2.1, by rw [h0 2 (by decide)]; exact h.2.2.1, h.2.2.2.1.fr (h1 _ (by decide) (by decide)) (h1 _ (by decide) (by decide)) (h1 _ (by decide) (by decide)), h.2.2.2.2.fr hP (fun x hx => by rw [Nat.zero_add]; exact h2 x hx)⟩
theorem RHs.fr {M M1 : Mem} {P : Pz} {H : List HE} (h : RHs M P H) (hH : ∀ e, e ∈ H → (hP P e).gd (hF e)) (h0 : M1 140 8 = M 140 8) (h1 : ∀ a, 145 ≤ a → a ≤ 148 → M1 a = M a) : RHs M1 P H := ⟨by rw [h0]; exact h.1, fun s e he => (h.2 s e he).seq (hH e (List.mem_of_getElem? he)).1 (SEQ.same h1)⟩
theorem Rbad.fr {M M1 : Mem} {b : Option (Nat × Nat)} (h : Rbad M b) (h0 : M1 140 13 = M 140 13) (h1 : M1 140 14 = M 140 14) : Rbad M1 b := by
  unfold Rbad at h ⊢
  rw [h0, h1]; exact h
theorem Rask.fr {M M1 : Mem} (h : Rask M) (h0 : M1 140 20 = M 140 20) (h1 : M1 140 21 = M 140 21) : Rask M1 := by
  unfold Rask at h ⊢
  rw [h0, h1]; exact h
theorem Rtx.fr {M M1 : Mem} {t : (Nat → Nat) × Nat} (h : Rtx M t) (h0 : M1 140 35 = M 140 35) (h1 : M1 154 = M 154) : Rtx M1 t := by
  unfold Rtx at h ⊢
  rw [h0, h1]; exact h
theorem Rfo.fr {M M1 : Mem} {t : (Nat → Nat) × Nat} (h : Rfo M t) (h0 : M1 140 36 = M 140 36) (h1 : M1 155 = M 155) : Rfo M1 t := by
  unfold Rfo at h ⊢
  rw [h0, h1]; exact h
theorem SG.fr {M M1 : Mem} {P : Pz} {f : Nat → Nat} (h : SG M P f) (h0 : ∀ k, 41 ≤ k → k ≤ 43 → M1 140 k = M 140 k) (h1 : ∀ a, 159 ≤ a → a ≤ 162 → M1 a = M a) : SG M1 P f := by
  unfold SG at h ⊢
  rw [h0 41 (by decide) (by decide), h0 42 (by decide) (by decide), h0 43 (by decide) (by decide), h1 159 (by decide) (by decide), h1 160 (by decide) (by decide), h1 161 (by decide) (by decide), h1 162 (by decide) (by decide)]; exact h
theorem Rsn.fr {M M1 : Mem} {sn : Option (Pz × (Nat → Nat))} (h : Rsn M sn) (h0 : ∀ k, 40 ≤ k → k ≤ 43 → M1 140 k = M 140 k) (h1 : ∀ a, 159 ≤ a → a ≤ 162 → M1 a = M a) : Rsn M1 sn := ⟨by rw [h0 40 (by decide) (by decide)]; exact h.1, fun P f e => (h.2 P f e).fr (fun k a b => h0 k (by omega) b) h1⟩
theorem Rtb.fr {M M1 : Mem} {tb : Nat → Option (Nat × Nat × (Nat → Int32))} (h : Rtb M tb) (h1 : ∀ a, 163 ≤ a → a ≤ 165 → M1 a = M a) : Rtb M1 tb := by
  unfold Rtb at h ⊢
  rw [h1 163 (by decide) (by decide), h1 164 (by decide) (by decide), h1 165 (by decide) (by decide)]; exact h
/-- a grid, a history; all else stays -/
theorem RR.grid {M M1 : Mem} {A : Ab} {P : Pz} {f : Nat → Nat} {H : List HE} (h : RR M A) (h0 : ∀ k, (k = 3 ∨ k = 13 ∨ k = 14 ∨ k = 20 ∨ k = 21 ∨ k = 35 ∨ k = 36 ∨ 40 ≤ k) → M1 140 k = M 140 k) (h1 : ∀ a, (a = 154 ∨ a = 155 ∨ 159 ≤ a) → M1 a = M a) (hg : RGr M1 P f) (hh : RHs M1 P H) : RR M1 (A.sG P f H) := by
  obtain ⟨a1, a2, a3, a4, a5, a6, a7, a8, a9⟩ := h
  exact ⟨hg, by rw [h0 3 (by omega)]; exact a2, hh, a4.fr (h0 13 (by omega)) (h0 14 (by omega)), a5.fr (h0 20 (by omega)) (h0 21 (by omega)), a6.fr (h0 35 (by omega)) (h1 154 (by omega)), a7.fr (h0 36 (by omega)) (h1 155 (by omega)), a8.fr (fun k a b => h0 k (by omega)) (fun a b c => h1 a (by omega)), a9.fr (fun a b c => h1 a (by omega))⟩
/-- scratch -/
theorem RR.fr {M M1 : Mem} {A : Ab} (h : RR M A) (hk : A.ok) (h0 : ∀ k, (k ≤ 3 ∨ k = 8 ∨ k = 13 ∨ k = 14 ∨ k = 20 ∨ k = 21 ∨ k = 35 ∨ k = 36 ∨ 40 ≤ k) → M1 140 k = M 140 k) (h1 : ∀ a, ((142 ≤ a ∧ a ≤ 148) ∨ a = 154 ∨ a = 155 ∨ 159 ≤ a) → M1 a = M a) (h2 : ∀ x, x < 64 → M1 141 x = M 141 x) : RR M1 A := h.grid (P := A.P) (f := A.f) (H := A.H) (fun k hk => h0 k (by omega)) (fun a ha => h1 a (by omega)) (h.1.fr hk.P (fun k hk => h0 k (by omega)) (fun a b c => h1 a (by omega)) h2) (h.2.2.1.fr hk.H (h0 8 (by omega)) (fun a b c => h1 a (by omega)))
theorem RR.sB {M M1 : Mem} {A : Ab} {b : Option (Nat × Nat)} (h : RR M A) (hk : A.ok) (h0 : ∀ k, k ≠ 13 → k ≠ 14 → M1 140 k = M 140 k) (h1 : ∀ a, a ≠ 140 → M1 a = M a) (hb : Rbad M1 b) : RR M1 (A.sB b) := by
  obtain ⟨a1, a2, a3, a4, a5, a6, a7, a8, a9⟩ := h
  exact ⟨a1.fr hk.P (fun k a => h0 k (by omega) (by omega)) (fun a b c => h1 a (by omega)) (fun x _ => by rw [h1 141 (by decide)]), by rw [h0 3 (by decide) (by decide)]; exact a2, a3.fr hk.H (h0 8 (by decide) (by decide)) (fun a b c => h1 a (by omega)), hb, a5.fr (h0 20 (by decide) (by decide)) (h0 21 (by decide) (by decide)), a6.fr (h0 35 (by decide) (by decide)) (h1 154 (by decide)), a7.fr (h0 36 (by decide) (by decide)) (h1 155 (by decide)), a8.fr (fun k a b => h0 k (by omega) (by omega)) (fun a b c => h1 a (by omega)), a9.fr (fun a b c => h1 a (by omega))⟩
/-- the rule, the text, the formatted text, the snapshot, the tables -/
theorem RR.oth {M M1 : Mem} {A : Ab} {ru : Nat} {tx fo : (Nat → Nat) × Nat} {tb : Nat → Option (Nat × Nat × (Nat → Int32))} {sn : Option (Pz × (Nat → Nat))} (h : RR M A) (hk : A.ok) (h0 : ∀ k, (k ≤ 2 ∨ k = 8 ∨ k = 13 ∨ k = 14 ∨ k = 20 ∨ k = 21) → M1 140 k = M 140 k) (h1 : ∀ a, (141 ≤ a ∧ a ≤ 148) → M1 a = M a) (hru : M1 140 3 = nI ru) (htx : Rtx M1 tx) (hfo : Rfo M1 fo) (hsn : Rsn M1 sn) (htb : Rtb M1 tb) : RR M1 (mkA A.P A.f A.H ru A.bad tx fo tb sn) := by
  obtain ⟨a1, a2, a3, a4, a5, a6, a7, a8, a9⟩ := h
  exact ⟨a1.fr hk.P (fun k a => h0 k (by omega)) (fun a b c => h1 a (by omega)) (fun x _ => by rw [h1 141 (by decide)]), hru, a3.fr hk.H (h0 8 (by omega)) (fun a b c => h1 a (by omega)), a4.fr (h0 13 (by omega)) (h0 14 (by omega)), a5.fr (h0 20 (by omega)) (h0 21 (by omega)), htx, hfo, hsn, htb⟩
def RSR (M : Mem) (q : Ab × Int32) (v : Int32) (M' : Mem) : Prop := RR M' q.1 ∧ (∀ a, a < 140 → M' a = M a) ∧ v = q.2
theorem RSR.same {M : Mem} {A : Ab} {q : Ab × Int32} {v : Int32} (hC : RR M A) (e : q = (A, v)) : RSR M q v M := by subst e; exact ⟨hC, fun _ _ => rfl, rfl⟩
theorem RSR.to {M M1 : Mem} {A : Ab} {q : Ab × Int32} {v : Int32} (hC : RR M1 A) (hf : ∀ a, a < 140 → M1 a = M a) (e : q = (A, v)) : RSR M q v M1 := by subst e; exact ⟨hC, hf, rfl⟩
set_option maxHeartbeats 4000000 in
set_option maxRecDepth 100000 in
theorem q_move1 {l : Launch} {G : Gd} {b0 : Nat} {M : Mem} {Post : PT} {f t : Nat} (hf : f < 8) (ht : t < f)  (k : ∀ M2, (∀ a, a ≠ 145 → M2 a = M a) ∧ (∀ x, x < 64 → M2 145 (64 * t + x) = M 145 (64 * f + x)) ∧ (∀ x, x < 64 * t ∨ 64 * t + 64 ≤ x → M2 145 x = M 145 x) → S l G b0 yX10_move cX10_move 4 none (rmZ 0 0) LAY Post 0 0 0 0 LAY 36 [some (.ref (b0 + 140)), some (.int (nI f)), some (.int (nI t)), some (.int (nI (64)))] [] M2) : S l G b0 yX10_move cX10_move 4 none (rmZ 0 0) LAY Post 0 0 0 0 LAY 2 [some (.ref (b0 + 140)), some (.int (nI f)), some (.int (nI t)), some (.int (nI (0)))] [] M := by
  suffices H : ∀ (d : Nat) (i : Nat) (M1 : Mem), 64 - i = d → i ≤ 64 → ((∀ a, a ≠ 145 → M1 a = M a) ∧ (∀ x, x < i → M1 145 (64 * t + x) = M 145 (64 * f + x)) ∧ (∀ x, x < 64 * t ∨ 64 * t + i ≤ x → M1 145 x = M 145 x)) → S l G b0 yX10_move cX10_move 4 none (rmZ 0 0) LAY Post 0 0 0 0 LAY 2 [some (.ref (b0 + 140)), some (.int (nI f)), some (.int (nI t)), some (.int (nI (i)))] [] M1 from H _ 0 _ rfl (by omega) ⟨fun _ _ => rfl, fun x hx => absurd hx (Nat.not_lt_zero x), fun _ _ => rfl⟩
  intro d
  induction d with
  | zero =>
    intro i M1 hd hi hI
    have e : 64 = i := by omega
    subst e
    refine S_iload_3 (q := 3) dX10_move_2 rfl ?_
    refine S_bipush (q := 5) (nI 64) dX10_move_3 (by decide) rfl ?_
    refine S_icmp_ge (t := 36) (q := 8) dX10_move_5 (by decide) rfl (fun hb5 => ?_) (fun hb5 => ?_)
    · exact k M1 hI
    · exact absurd (Int32.le_refl _) hb5
  | succ d ih =>
    intro i M1 hd hi hI
    have hlt : i < 64 := by omega
    refine S_iload_3 (q := 3) dX10_move_2 rfl ?_
    refine S_bipush (q := 5) (nI 64) dX10_move_3 (by decide) rfl ?_
    refine S_icmp_ge (t := 36) (q := 8) dX10_move_5 (by decide) rfl (fun hb5 => ?_) (fun hb5 => ?_)
    · exact absurd hb5 (nI_ge hlt (by omega))
    · refine S_aload_0 (q := 9) dX10_move_8 rfl ?_
      refine S_getR (q := 12) dX10_move_9 fl_X10_38 (by first | assumption | rfl) (by rfl) rfl ?_
      refine S_bipush (q := 14) (nI 64) dX10_move_12 (by decide) rfl ?_
      refine S_iload_2 (q := 15) dX10_move_14 rfl ?_
      refine S_imul (q := 16) dX10_move_15 rfl ?_
      refine S_iload_3 (q := 17) dX10_move_16 rfl ?_
      refine S_iadd (q := 18) dX10_move_17 rfl ?_
      refine S_aload_0 (q := 19) dX10_move_18 rfl ?_
      refine S_getR (q := 22) dX10_move_19 fl_X10_38 (by first | assumption | rfl) (by rfl) rfl ?_
      refine S_bipush (q := 24) (nI 64) dX10_move_22 (by decide) rfl ?_
      refine S_iload_1 (q := 25) dX10_move_24 rfl ?_
      refine S_imul (q := 26) dX10_move_25 rfl ?_
      refine S_iload_3 (q := 27) dX10_move_26 rfl ?_
      refine S_iadd (q := 28) dX10_move_27 rfl ?_
      refine S_ialdE (i := 64 * f + i) (q := 29) dX10_move_28 (by first | assumption | rfl) (by first | (simp only [nI_add, pk_mul, nI_1]; done) | rfl) (by omega) (by decide) rfl ?_
      refine S_iastE (i := 64 * t + i) (q := 30) dX10_move_29 (by first | assumption | rfl) (by first | (simp only [nI_add, pk_mul, nI_1]; done) | rfl) (by omega) (by decide) rfl ?_
      refine S_iinc_3 (q := 33) (nI (i + 1)) dX10_move_30 (inc1 _) rfl ?_
      refine S_goto (t := 2) dX10_move_33 (by decide) ?_
      exact ih (i + 1) _ (by omega) hlt ⟨(fun a h0 => by rw [up_n h0]; exact hI.1 a h0), (fun x hx => by
        rw [up_eq]
        by_cases e : x = i
        · rw [if_pos ⟨rfl, by omega⟩, e]; exact (by exact hI.2.2 _ (by omega))
        · rw [if_neg (by omega)]; exact hI.2.1 x (by omega)), (fun x hx => by
        rw [up_eq, if_neg (by omega)]; exact hI.2.2 x (by omega))⟩
set_option maxHeartbeats 4000000 in
set_option maxRecDepth 100000 in
theorem q_move2 {l : Launch} {G : Gd} {b0 : Nat} {M : Mem} {Post : PT} {f t : Nat} (hf : f < 8) (ht : t < f)  (k : ∀ M2, (∀ a, a ≠ 146 → M2 a = M a) ∧ (∀ x, x < 16 → M2 146 (16 * t + x) = M 146 (16 * f + x)) ∧ (∀ x, x < 16 * t ∨ 16 * t + 16 ≤ x → M2 146 x = M 146 x) → S l G b0 yX10_move cX10_move 4 none (rmZ 0 0) LAY Post 0 0 0 0 LAY 72 [some (.ref (b0 + 140)), some (.int (nI f)), some (.int (nI t)), some (.int (nI (16)))] [] M2) : S l G b0 yX10_move cX10_move 4 none (rmZ 0 0) LAY Post 0 0 0 0 LAY 38 [some (.ref (b0 + 140)), some (.int (nI f)), some (.int (nI t)), some (.int (nI (0)))] [] M := by
  suffices H : ∀ (d : Nat) (i : Nat) (M1 : Mem), 16 - i = d → i ≤ 16 → ((∀ a, a ≠ 146 → M1 a = M a) ∧ (∀ x, x < i → M1 146 (16 * t + x) = M 146 (16 * f + x)) ∧ (∀ x, x < 16 * t ∨ 16 * t + i ≤ x → M1 146 x = M 146 x)) → S l G b0 yX10_move cX10_move 4 none (rmZ 0 0) LAY Post 0 0 0 0 LAY 38 [some (.ref (b0 + 140)), some (.int (nI f)), some (.int (nI t)), some (.int (nI (i)))] [] M1 from H _ 0 _ rfl (by omega) ⟨fun _ _ => rfl, fun x hx => absurd hx (Nat.not_lt_zero x), fun _ _ => rfl⟩
  intro d
  induction d with
  | zero =>
    intro i M1 hd hi hI
    have e : 16 = i := by omega
    subst e
    refine S_iload_3 (q := 39) dX10_move_38 rfl ?_
    refine S_bipush (q := 41) (nI 16) dX10_move_39 (by decide) rfl ?_
    refine S_icmp_ge (t := 72) (q := 44) dX10_move_41 (by decide) rfl (fun hb41 => ?_) (fun hb41 => ?_)
    · exact k M1 hI
    · exact absurd (Int32.le_refl _) hb41
  | succ d ih =>
    intro i M1 hd hi hI
    have hlt : i < 16 := by omega
    refine S_iload_3 (q := 39) dX10_move_38 rfl ?_
    refine S_bipush (q := 41) (nI 16) dX10_move_39 (by decide) rfl ?_
    refine S_icmp_ge (t := 72) (q := 44) dX10_move_41 (by decide) rfl (fun hb41 => ?_) (fun hb41 => ?_)
    · exact absurd hb41 (nI_ge hlt (by omega))
    · refine S_aload_0 (q := 45) dX10_move_44 rfl ?_
      refine S_getR (q := 48) dX10_move_45 fl_X10_41 (by first | assumption | rfl) (by rfl) rfl ?_
      refine S_bipush (q := 50) (nI 16) dX10_move_48 (by decide) rfl ?_
      refine S_iload_2 (q := 51) dX10_move_50 rfl ?_
      refine S_imul (q := 52) dX10_move_51 rfl ?_
      refine S_iload_3 (q := 53) dX10_move_52 rfl ?_
      refine S_iadd (q := 54) dX10_move_53 rfl ?_
      refine S_aload_0 (q := 55) dX10_move_54 rfl ?_
      refine S_getR (q := 58) dX10_move_55 fl_X10_41 (by first | assumption | rfl) (by rfl) rfl ?_
      refine S_bipush (q := 60) (nI 16) dX10_move_58 (by decide) rfl ?_
      refine S_iload_1 (q := 61) dX10_move_60 rfl ?_
      refine S_imul (q := 62) dX10_move_61 rfl ?_
      refine S_iload_3 (q := 63) dX10_move_62 rfl ?_
      refine S_iadd (q := 64) dX10_move_63 rfl ?_
      refine S_ialdE (i := 16 * f + i) (q := 65) dX10_move_64 (by first | assumption | rfl) (by first | (simp only [nI_add, pk_mul, nI_1]; done) | rfl) (by omega) (by decide) rfl ?_
      refine S_iastE (i := 16 * t + i) (q := 66) dX10_move_65 (by first | assumption | rfl) (by first | (simp only [nI_add, pk_mul, nI_1]; done) | rfl) (by omega) (by decide) rfl ?_
      refine S_iinc_3 (q := 69) (nI (i + 1)) dX10_move_66 (inc1 _) rfl ?_
      refine S_goto (t := 38) dX10_move_69 (by decide) ?_
      exact ih (i + 1) _ (by omega) hlt ⟨(fun a h0 => by rw [up_n h0]; exact hI.1 a h0), (fun x hx => by
        rw [up_eq]
        by_cases e : x = i
        · rw [if_pos ⟨rfl, by omega⟩, e]; exact (by exact hI.2.2 _ (by omega))
        · rw [if_neg (by omega)]; exact hI.2.1 x (by omega)), (fun x hx => by
        rw [up_eq, if_neg (by omega)]; exact hI.2.2 x (by omega))⟩
set_option maxHeartbeats 4000000 in
set_option maxRecDepth 100000 in
theorem q_move3 {l : Launch} {G : Gd} {b0 : Nat} {M : Mem} {Post : PT} {f t : Nat} (hf : f < 8) (ht : t < f)  (k : ∀ M2, (∀ a, a ≠ 147 → a ≠ 148 → M2 a = M a) ∧ (∀ x, x < 128 → M2 147 (128 * t + x) = M 147 (128 * f + x)) ∧ (∀ x, x < 128 * t ∨ 128 * t + 128 ≤ x → M2 147 x = M 147 x) ∧ (∀ x, x < 128 → M2 148 (128 * t + x) = M 148 (128 * f + x)) ∧ (∀ x, x < 128 * t ∨ 128 * t + 128 ≤ x → M2 148 x = M 148 x) → S l G b0 yX10_move cX10_move 4 none (rmZ 0 0) LAY Post 0 0 0 0 LAY 135 [some (.ref (b0 + 140)), some (.int (nI f)), some (.int (nI t)), some (.int (nI (128)))] [] M2) : S l G b0 yX10_move cX10_move 4 none (rmZ 0 0) LAY Post 0 0 0 0 LAY 74 [some (.ref (b0 + 140)), some (.int (nI f)), some (.int (nI t)), some (.int (nI (0)))] [] M := by
  suffices H : ∀ (d : Nat) (i : Nat) (M1 : Mem), 128 - i = d → i ≤ 128 → ((∀ a, a ≠ 147 → a ≠ 148 → M1 a = M a) ∧ (∀ x, x < i → M1 147 (128 * t + x) = M 147 (128 * f + x)) ∧ (∀ x, x < 128 * t ∨ 128 * t + i ≤ x → M1 147 x = M 147 x) ∧ (∀ x, x < i → M1 148 (128 * t + x) = M 148 (128 * f + x)) ∧ (∀ x, x < 128 * t ∨ 128 * t + i ≤ x → M1 148 x = M 148 x)) → S l G b0 yX10_move cX10_move 4 none (rmZ 0 0) LAY Post 0 0 0 0 LAY 74 [some (.ref (b0 + 140)), some (.int (nI f)), some (.int (nI t)), some (.int (nI (i)))] [] M1 from H _ 0 _ rfl (by omega) ⟨fun _ _ _ => rfl, fun x hx => absurd hx (Nat.not_lt_zero x), fun _ _ => rfl, fun x hx => absurd hx (Nat.not_lt_zero x), fun _ _ => rfl⟩
  intro d
  induction d with
  | zero =>
    intro i M1 hd hi hI
    have e : 128 = i := by omega
    subst e
    refine S_iload_3 (q := 75) dX10_move_74 rfl ?_
    refine S_sipush (q := 78) (nI 128) dX10_move_75 (by decide) rfl ?_
    refine S_icmp_ge (t := 135) (q := 81) dX10_move_78 (by decide) rfl (fun hb78 => ?_) (fun hb78 => ?_)
    · exact k M1 hI
    · exact absurd (Int32.le_refl _) hb78
  | succ d ih =>
    intro i M1 hd hi hI
    have hlt : i < 128 := by omega
    refine S_iload_3 (q := 75) dX10_move_74 rfl ?_
    refine S_sipush (q := 78) (nI 128) dX10_move_75 (by decide) rfl ?_
    refine S_icmp_ge (t := 135) (q := 81) dX10_move_78 (by decide) rfl (fun hb78 => ?_) (fun hb78 => ?_)
    · exact absurd hb78 (nI_ge hlt (by omega))
    · refine S_aload_0 (q := 82) dX10_move_81 rfl ?_
      refine S_getR (q := 85) dX10_move_82 fl_X10_44 (by first | assumption | rfl) (by rfl) rfl ?_
      refine S_sipush (q := 88) (nI 128) dX10_move_85 (by decide) rfl ?_
      refine S_iload_2 (q := 89) dX10_move_88 rfl ?_
      refine S_imul (q := 90) dX10_move_89 rfl ?_
      refine S_iload_3 (q := 91) dX10_move_90 rfl ?_
      refine S_iadd (q := 92) dX10_move_91 rfl ?_
      refine S_aload_0 (q := 93) dX10_move_92 rfl ?_
      refine S_getR (q := 96) dX10_move_93 fl_X10_44 (by first | assumption | rfl) (by rfl) rfl ?_
      refine S_sipush (q := 99) (nI 128) dX10_move_96 (by decide) rfl ?_
      refine S_iload_1 (q := 100) dX10_move_99 rfl ?_
      refine S_imul (q := 101) dX10_move_100 rfl ?_
      refine S_iload_3 (q := 102) dX10_move_101 rfl ?_
      refine S_iadd (q := 103) dX10_move_102 rfl ?_
      refine S_ialdE (i := 128 * f + i) (q := 104) dX10_move_103 (by first | assumption | rfl) (by first | (simp only [nI_add, pk_mul, nI_1]; done) | rfl) (by omega) (by decide) rfl ?_
      refine S_iastE (i := 128 * t + i) (q := 105) dX10_move_104 (by first | assumption | rfl) (by first | (simp only [nI_add, pk_mul, nI_1]; done) | rfl) (by omega) (by decide) rfl ?_
      refine S_aload_0 (q := 106) dX10_move_105 rfl ?_
      refine S_getR (q := 109) dX10_move_106 fl_X10_47 (by first | assumption | rfl) (by rfl) rfl ?_
      refine S_sipush (q := 112) (nI 128) dX10_move_109 (by decide) rfl ?_
      refine S_iload_2 (q := 113) dX10_move_112 rfl ?_
      refine S_imul (q := 114) dX10_move_113 rfl ?_
      refine S_iload_3 (q := 115) dX10_move_114 rfl ?_
      refine S_iadd (q := 116) dX10_move_115 rfl ?_
      refine S_aload_0 (q := 117) dX10_move_116 rfl ?_
      refine S_getR (q := 120) dX10_move_117 fl_X10_47 (by first | assumption | rfl) (by rfl) rfl ?_
      refine S_sipush (q := 123) (nI 128) dX10_move_120 (by decide) rfl ?_
      refine S_iload_1 (q := 124) dX10_move_123 rfl ?_
      refine S_imul (q := 125) dX10_move_124 rfl ?_
      refine S_iload_3 (q := 126) dX10_move_125 rfl ?_
      refine S_iadd (q := 127) dX10_move_126 rfl ?_
      refine S_ialdE (i := 128 * f + i) (q := 128) dX10_move_127 (by first | assumption | rfl) (by first | (simp only [nI_add, pk_mul, nI_1]; done) | rfl) (by omega) (by decide) rfl ?_
      refine S_iastE (i := 128 * t + i) (q := 129) dX10_move_128 (by first | assumption | rfl) (by first | (simp only [nI_add, pk_mul, nI_1]; done) | rfl) (by omega) (by decide) rfl ?_
      refine S_iinc_3 (q := 132) (nI (i + 1)) dX10_move_129 (inc1 _) rfl ?_
      refine S_goto (t := 74) dX10_move_132 (by decide) ?_
      exact ih (i + 1) _ (by omega) hlt ⟨(fun a h0 h1 => by rw [up_n h1, up_n h0]; exact hI.1 a h0 h1), (fun x hx => by
        rw [up_n (by decide), up_eq]
        by_cases e : x = i
        · rw [if_pos ⟨rfl, by omega⟩, e]; exact (by exact hI.2.2.1 _ (by omega))
        · rw [if_neg (by omega)]; exact hI.2.1 x (by omega)), (fun x hx => by
        rw [up_n (by decide), up_eq, if_neg (by omega)]; exact hI.2.2.1 x (by omega)), (fun x hx => by
        rw [up_eq]
        by_cases e : x = i
        · rw [if_pos ⟨rfl, by omega⟩, e]; exact (by rw [up_n (by decide)]; exact hI.2.2.2.2 _ (by omega))
        · rw [if_neg (by omega), up_n (by decide)]; exact hI.2.2.2.1 x (by omega)), (fun x hx => by
        rw [up_eq, if_neg (by omega), up_n (by decide)]; exact hI.2.2.2.2 x (by omega))⟩
set_option maxHeartbeats 4000000 in
set_option maxRecDepth 100000 in
theorem k_X10_move {l : Launch} {G : Gd} {b0 : Nat} {M : Mem} {f t : Nat} (hf : f < 8) (ht : t < f)  : Ct l G b0 yX10_move cX10_move 4 none (rmZ 0 0) LAY LAY M [.ref (b0 + 140), .int (nI f), .int (nI t)] (fun v M' => (∀ a, (a < 145 ∨ 148 < a) → M' a = M a) ∧ SEQ M f M' t ∧ ∀ s, s ≠ t → SEQ M s M' s) := by
  refine Ct.of [some (.ref (b0 + 140)), some (.int (nI f)), some (.int (nI t)), none] (by decide) (Nat.le_of_ble_eq_true rfl) rfl rfl ?_
  refine S_iconst (q := 1) (nI 0) dX10_move_0 (by decide) rfl ?_
  refine S_istore_3 (q := 2) dX10_move_1 rfl ?_
  refine q_move1 hf ht (fun Ma ha => ?_)
  refine S_iconst (q := 37) (nI 0) dX10_move_36 (by decide) rfl ?_
  refine S_istore_3 (q := 38) dX10_move_37 rfl ?_
  refine q_move2 hf ht (fun Mb hb => ?_)
  refine S_iconst (q := 73) (nI 0) dX10_move_72 (by decide) rfl ?_
  refine S_istore_3 (q := 74) dX10_move_73 rfl ?_
  refine q_move3 hf ht (fun Mc hc => ?_)
  exact S_ret (v := 0) rfl dX10_move_135 rfl (⟨fun a h => (by rw [hc.1 a (by omega) (by omega), hb.1 a (by omega), ha.1 a (by omega)]), ⟨fun x hx => (by rw [hc.1 145 (by decide) (by decide), hb.1 145 (by decide)]; exact ha.2.1 x hx), fun x hx => (by rw [hc.1 146 (by decide) (by decide), hb.2.1 x hx, ha.1 146 (by decide)]), fun x hx => (by rw [hc.2.1 x hx, hb.1 147 (by decide), ha.1 147 (by decide)]), fun x hx => (by rw [hc.2.2.2.1 x hx, hb.1 148 (by decide), ha.1 148 (by decide)])⟩, fun s hs => ⟨fun x hx => (by rw [hc.1 145 (by decide) (by decide), hb.1 145 (by decide), ha.2.2 _ (by omega)]), fun x hx => (by rw [hc.1 146 (by decide) (by decide), hb.2.2 _ (by omega), ha.1 146 (by decide)]), fun x hx => (by rw [hc.2.2.1 _ (by omega), hb.1 147 (by decide), ha.1 147 (by decide)]), fun x hx => (by rw [hc.2.2.2.2 _ (by omega), hb.1 148 (by decide), ha.1 148 (by decide)])⟩⟩)
set_option maxHeartbeats 4000000 in
set_option maxRecDepth 100000 in
theorem q_keep1 {l : Launch} {G : Gd} {b0 : Nat} {M : Mem} {Post : PT} {n : Nat} (hn : n < 8) (h8 : M 140 8 = nI n)  (k : ∀ M2, (∀ a, a ≠ 145 → M2 a = M a) ∧ (∀ x, x < 64 → M2 145 (64 * n + x) = M 141 (x)) ∧ (∀ x, x < 64 * n ∨ 64 * n + 64 ≤ x → M2 145 x = M 145 x) → S l G b0 yX10_keep cX10_keep 2 none (rmZ 1 23) LAY Post 0 0 0 0 LAY 71 [some (.ref (b0 + 140)), some (.int (nI (64)))] [] M2) : S l G b0 yX10_keep cX10_keep 2 none (rmZ 1 23) LAY Post 0 0 0 0 LAY 39 [some (.ref (b0 + 140)), some (.int (nI (0)))] [] M := by
  suffices H : ∀ (d : Nat) (i : Nat) (M1 : Mem), 64 - i = d → i ≤ 64 → ((∀ a, a ≠ 145 → M1 a = M a) ∧ (∀ x, x < i → M1 145 (64 * n + x) = M 141 (x)) ∧ (∀ x, x < 64 * n ∨ 64 * n + i ≤ x → M1 145 x = M 145 x)) → S l G b0 yX10_keep cX10_keep 2 none (rmZ 1 23) LAY Post 0 0 0 0 LAY 39 [some (.ref (b0 + 140)), some (.int (nI (i)))] [] M1 from H _ 0 _ rfl (by omega) ⟨fun _ _ => rfl, fun x hx => absurd hx (Nat.not_lt_zero x), fun _ _ => rfl⟩
  intro d
  induction d with
  | zero =>
    intro i M1 hd hi hI
    have e : 64 = i := by omega
    subst e
    refine S_iload_1 (q := 40) dX10_keep_39 rfl ?_
    refine S_bipush (q := 42) (nI 64) dX10_keep_40 (by decide) rfl ?_
    refine S_icmp_ge (t := 71) (q := 45) dX10_keep_42 (by decide) rfl (fun hb42 => ?_) (fun hb42 => ?_)
    · exact k M1 hI
    · exact absurd (Int32.le_refl _) hb42
  | succ d ih =>
    intro i M1 hd hi hI
    have hlt : i < 64 := by omega
    refine S_iload_1 (q := 40) dX10_keep_39 rfl ?_
    refine S_bipush (q := 42) (nI 64) dX10_keep_40 (by decide) rfl ?_
    refine S_icmp_ge (t := 71) (q := 45) dX10_keep_42 (by decide) rfl (fun hb42 => ?_) (fun hb42 => ?_)
    · exact absurd hb42 (nI_ge hlt (by omega))
    · refine S_aload_0 (q := 46) dX10_keep_45 rfl ?_
      refine S_getR (q := 49) dX10_keep_46 fl_X10_38 (by first | assumption | rfl) (by rfl) rfl ?_
      refine S_bipush (q := 51) (nI 64) dX10_keep_49 (by decide) rfl ?_
      refine S_aload_0 (q := 52) dX10_keep_51 rfl ?_
      refine S_getI (q := 55) dX10_keep_52 fl_X10_35 (by first | assumption | rfl) (by rfl) rfl ?_
      rw [hI.1 140 (by decide), h8]
      refine S_imul (q := 56) dX10_keep_55 rfl ?_
      refine S_iload_1 (q := 57) dX10_keep_56 rfl ?_
      refine S_iadd (q := 58) dX10_keep_57 rfl ?_
      refine S_aload_0 (q := 59) dX10_keep_58 rfl ?_
      refine S_getR (q := 62) dX10_keep_59 fl_X10_22 (by first | assumption | rfl) (by rfl) rfl ?_
      refine S_iload_1 (q := 63) dX10_keep_62 rfl ?_
      refine S_ialdE (i := i) (q := 64) dX10_keep_63 (by first | assumption | rfl) (by first | (simp only [nI_add, pk_mul, nI_1]; done) | rfl) (by omega) (by decide) rfl ?_
      refine S_iastE (i := 64 * n + i) (q := 65) dX10_keep_64 (by first | assumption | rfl) (by first | (simp only [nI_add, pk_mul, nI_1]; done) | rfl) (by omega) (by decide) rfl ?_
      refine S_iinc_1 (q := 68) (nI (i + 1)) dX10_keep_65 (inc1 _) rfl ?_
      refine S_goto (t := 39) dX10_keep_68 (by decide) ?_
      exact ih (i + 1) _ (by omega) hlt ⟨(fun a h0 => by rw [up_n h0]; exact hI.1 a h0), (fun x hx => by
        rw [up_eq]
        by_cases e : x = i
        · rw [if_pos ⟨rfl, by omega⟩, e]; exact (by exact congrFun (hI.1 141 (by decide)) _)
        · rw [if_neg (by omega)]; exact hI.2.1 x (by omega)), (fun x hx => by
        rw [up_eq, if_neg (by omega)]; exact hI.2.2 x (by omega))⟩
set_option maxHeartbeats 4000000 in
set_option maxRecDepth 100000 in
theorem q_keep2 {l : Launch} {G : Gd} {b0 : Nat} {M : Mem} {Post : PT} {n : Nat} (hn : n < 8) (h8 : M 140 8 = nI n)  (k : ∀ M2, (∀ a, a ≠ 146 → M2 a = M a) ∧ (∀ x, x < 16 → M2 146 (16 * n + x) = M 142 (x)) ∧ (∀ x, x < 16 * n ∨ 16 * n + 16 ≤ x → M2 146 x = M 146 x) → S l G b0 yX10_keep cX10_keep 2 none (rmZ 1 23) LAY Post 0 0 0 0 LAY 105 [some (.ref (b0 + 140)), some (.int (nI (16)))] [] M2) : S l G b0 yX10_keep cX10_keep 2 none (rmZ 1 23) LAY Post 0 0 0 0 LAY 73 [some (.ref (b0 + 140)), some (.int (nI (0)))] [] M := by
  suffices H : ∀ (d : Nat) (i : Nat) (M1 : Mem), 16 - i = d → i ≤ 16 → ((∀ a, a ≠ 146 → M1 a = M a) ∧ (∀ x, x < i → M1 146 (16 * n + x) = M 142 (x)) ∧ (∀ x, x < 16 * n ∨ 16 * n + i ≤ x → M1 146 x = M 146 x)) → S l G b0 yX10_keep cX10_keep 2 none (rmZ 1 23) LAY Post 0 0 0 0 LAY 73 [some (.ref (b0 + 140)), some (.int (nI (i)))] [] M1 from H _ 0 _ rfl (by omega) ⟨fun _ _ => rfl, fun x hx => absurd hx (Nat.not_lt_zero x), fun _ _ => rfl⟩
  intro d
  induction d with
  | zero =>
    intro i M1 hd hi hI
    have e : 16 = i := by omega
    subst e
    refine S_iload_1 (q := 74) dX10_keep_73 rfl ?_
    refine S_bipush (q := 76) (nI 16) dX10_keep_74 (by decide) rfl ?_
    refine S_icmp_ge (t := 105) (q := 79) dX10_keep_76 (by decide) rfl (fun hb76 => ?_) (fun hb76 => ?_)
    · exact k M1 hI
    · exact absurd (Int32.le_refl _) hb76
  | succ d ih =>
    intro i M1 hd hi hI
    have hlt : i < 16 := by omega
    refine S_iload_1 (q := 74) dX10_keep_73 rfl ?_
    refine S_bipush (q := 76) (nI 16) dX10_keep_74 (by decide) rfl ?_
    refine S_icmp_ge (t := 105) (q := 79) dX10_keep_76 (by decide) rfl (fun hb76 => ?_) (fun hb76 => ?_)
    · exact absurd hb76 (nI_ge hlt (by omega))
    · refine S_aload_0 (q := 80) dX10_keep_79 rfl ?_
      refine S_getR (q := 83) dX10_keep_80 fl_X10_41 (by first | assumption | rfl) (by rfl) rfl ?_
      refine S_bipush (q := 85) (nI 16) dX10_keep_83 (by decide) rfl ?_
      refine S_aload_0 (q := 86) dX10_keep_85 rfl ?_
      refine S_getI (q := 89) dX10_keep_86 fl_X10_35 (by first | assumption | rfl) (by rfl) rfl ?_
      rw [hI.1 140 (by decide), h8]
      refine S_imul (q := 90) dX10_keep_89 rfl ?_
      refine S_iload_1 (q := 91) dX10_keep_90 rfl ?_
      refine S_iadd (q := 92) dX10_keep_91 rfl ?_
      refine S_aload_0 (q := 93) dX10_keep_92 rfl ?_
      refine S_getR (q := 96) dX10_keep_93 fl_X10_26 (by first | assumption | rfl) (by rfl) rfl ?_
      refine S_iload_1 (q := 97) dX10_keep_96 rfl ?_
      refine S_ialdE (i := i) (q := 98) dX10_keep_97 (by first | assumption | rfl) (by first | (simp only [nI_add, pk_mul, nI_1]; done) | rfl) (by omega) (by decide) rfl ?_
      refine S_iastE (i := 16 * n + i) (q := 99) dX10_keep_98 (by first | assumption | rfl) (by first | (simp only [nI_add, pk_mul, nI_1]; done) | rfl) (by omega) (by decide) rfl ?_
      refine S_iinc_1 (q := 102) (nI (i + 1)) dX10_keep_99 (inc1 _) rfl ?_
      refine S_goto (t := 73) dX10_keep_102 (by decide) ?_
      exact ih (i + 1) _ (by omega) hlt ⟨(fun a h0 => by rw [up_n h0]; exact hI.1 a h0), (fun x hx => by
        rw [up_eq]
        by_cases e : x = i
        · rw [if_pos ⟨rfl, by omega⟩, e]; exact (by exact congrFun (hI.1 142 (by decide)) _)
        · rw [if_neg (by omega)]; exact hI.2.1 x (by omega)), (fun x hx => by
        rw [up_eq, if_neg (by omega)]; exact hI.2.2 x (by omega))⟩
set_option maxHeartbeats 4000000 in
set_option maxRecDepth 100000 in
theorem q_keep3 {l : Launch} {G : Gd} {b0 : Nat} {M : Mem} {Post : PT} {n : Nat} (hn : n < 8) (h8 : M 140 8 = nI n)  (k : ∀ M2, (∀ a, a ≠ 147 → a ≠ 148 → M2 a = M a) ∧ (∀ x, x < 128 → M2 147 (128 * n + x) = M 143 (x)) ∧ (∀ x, x < 128 * n ∨ 128 * n + 128 ≤ x → M2 147 x = M 147 x) ∧ (∀ x, x < 128 → M2 148 (128 * n + x) = M 144 (x)) ∧ (∀ x, x < 128 * n ∨ 128 * n + 128 ≤ x → M2 148 x = M 148 x) → S l G b0 yX10_keep cX10_keep 2 none (rmZ 1 23) LAY Post 0 0 0 0 LAY 162 [some (.ref (b0 + 140)), some (.int (nI (128)))] [] M2) : S l G b0 yX10_keep cX10_keep 2 none (rmZ 1 23) LAY Post 0 0 0 0 LAY 107 [some (.ref (b0 + 140)), some (.int (nI (0)))] [] M := by
  suffices H : ∀ (d : Nat) (i : Nat) (M1 : Mem), 128 - i = d → i ≤ 128 → ((∀ a, a ≠ 147 → a ≠ 148 → M1 a = M a) ∧ (∀ x, x < i → M1 147 (128 * n + x) = M 143 (x)) ∧ (∀ x, x < 128 * n ∨ 128 * n + i ≤ x → M1 147 x = M 147 x) ∧ (∀ x, x < i → M1 148 (128 * n + x) = M 144 (x)) ∧ (∀ x, x < 128 * n ∨ 128 * n + i ≤ x → M1 148 x = M 148 x)) → S l G b0 yX10_keep cX10_keep 2 none (rmZ 1 23) LAY Post 0 0 0 0 LAY 107 [some (.ref (b0 + 140)), some (.int (nI (i)))] [] M1 from H _ 0 _ rfl (by omega) ⟨fun _ _ _ => rfl, fun x hx => absurd hx (Nat.not_lt_zero x), fun _ _ => rfl, fun x hx => absurd hx (Nat.not_lt_zero x), fun _ _ => rfl⟩
  intro d
  induction d with
  | zero =>
    intro i M1 hd hi hI
    have e : 128 = i := by omega
    subst e
    refine S_iload_1 (q := 108) dX10_keep_107 rfl ?_
    refine S_sipush (q := 111) (nI 128) dX10_keep_108 (by decide) rfl ?_
    refine S_icmp_ge (t := 162) (q := 114) dX10_keep_111 (by decide) rfl (fun hb111 => ?_) (fun hb111 => ?_)
    · exact k M1 hI
    · exact absurd (Int32.le_refl _) hb111
  | succ d ih =>
    intro i M1 hd hi hI
    have hlt : i < 128 := by omega
    refine S_iload_1 (q := 108) dX10_keep_107 rfl ?_
    refine S_sipush (q := 111) (nI 128) dX10_keep_108 (by decide) rfl ?_
    refine S_icmp_ge (t := 162) (q := 114) dX10_keep_111 (by decide) rfl (fun hb111 => ?_) (fun hb111 => ?_)
    · exact absurd hb111 (nI_ge hlt (by omega))
    · refine S_aload_0 (q := 115) dX10_keep_114 rfl ?_
      refine S_getR (q := 118) dX10_keep_115 fl_X10_44 (by first | assumption | rfl) (by rfl) rfl ?_
      refine S_sipush (q := 121) (nI 128) dX10_keep_118 (by decide) rfl ?_
      refine S_aload_0 (q := 122) dX10_keep_121 rfl ?_
      refine S_getI (q := 125) dX10_keep_122 fl_X10_35 (by first | assumption | rfl) (by rfl) rfl ?_
      rw [hI.1 140 (by decide) (by decide), h8]
      refine S_imul (q := 126) dX10_keep_125 rfl ?_
      refine S_iload_1 (q := 127) dX10_keep_126 rfl ?_
      refine S_iadd (q := 128) dX10_keep_127 rfl ?_
      refine S_aload_0 (q := 129) dX10_keep_128 rfl ?_
      refine S_getR (q := 132) dX10_keep_129 fl_X10_29 (by first | assumption | rfl) (by rfl) rfl ?_
      refine S_iload_1 (q := 133) dX10_keep_132 rfl ?_
      refine S_ialdE (i := i) (q := 134) dX10_keep_133 (by first | assumption | rfl) (by first | (simp only [nI_add, pk_mul, nI_1]; done) | rfl) (by omega) (by decide) rfl ?_
      refine S_iastE (i := 128 * n + i) (q := 135) dX10_keep_134 (by first | assumption | rfl) (by first | (simp only [nI_add, pk_mul, nI_1]; done) | rfl) (by omega) (by decide) rfl ?_
      refine S_aload_0 (q := 136) dX10_keep_135 rfl ?_
      refine S_getR (q := 139) dX10_keep_136 fl_X10_47 (by first | assumption | rfl) (by rfl) rfl ?_
      refine S_sipush (q := 142) (nI 128) dX10_keep_139 (by decide) rfl ?_
      refine S_aload_0 (q := 143) dX10_keep_142 rfl ?_
      refine S_getI (q := 146) dX10_keep_143 fl_X10_35 (by first | assumption | rfl) (by rfl) rfl ?_
      rw [up_n (by decide), hI.1 140 (by decide) (by decide), h8]
      refine S_imul (q := 147) dX10_keep_146 rfl ?_
      refine S_iload_1 (q := 148) dX10_keep_147 rfl ?_
      refine S_iadd (q := 149) dX10_keep_148 rfl ?_
      refine S_aload_0 (q := 150) dX10_keep_149 rfl ?_
      refine S_getR (q := 153) dX10_keep_150 fl_X10_32 (by first | assumption | rfl) (by rfl) rfl ?_
      refine S_iload_1 (q := 154) dX10_keep_153 rfl ?_
      refine S_ialdE (i := i) (q := 155) dX10_keep_154 (by first | assumption | rfl) (by first | (simp only [nI_add, pk_mul, nI_1]; done) | rfl) (by omega) (by decide) rfl ?_
      refine S_iastE (i := 128 * n + i) (q := 156) dX10_keep_155 (by first | assumption | rfl) (by first | (simp only [nI_add, pk_mul, nI_1]; done) | rfl) (by omega) (by decide) rfl ?_
      refine S_iinc_1 (q := 159) (nI (i + 1)) dX10_keep_156 (inc1 _) rfl ?_
      refine S_goto (t := 107) dX10_keep_159 (by decide) ?_
      exact ih (i + 1) _ (by omega) hlt ⟨(fun a h0 h1 => by rw [up_n h1, up_n h0]; exact hI.1 a h0 h1), (fun x hx => by
        rw [up_n (by decide), up_eq]
        by_cases e : x = i
        · rw [if_pos ⟨rfl, by omega⟩, e]; exact (by exact congrFun (hI.1 143 (by decide) (by decide)) _)
        · rw [if_neg (by omega)]; exact hI.2.1 x (by omega)), (fun x hx => by
        rw [up_n (by decide), up_eq, if_neg (by omega)]; exact hI.2.2.1 x (by omega)), (fun x hx => by
        rw [up_eq]
        by_cases e : x = i
        · rw [if_pos ⟨rfl, by omega⟩, e]; exact (by rw [up_n (by decide)]; exact congrFun (hI.1 144 (by decide) (by decide)) _)
        · rw [if_neg (by omega), up_n (by decide)]; exact hI.2.2.2.1 x (by omega)), (fun x hx => by
        rw [up_eq, if_neg (by omega), up_n (by decide)]; exact hI.2.2.2.2 x (by omega))⟩
set_option maxHeartbeats 4000000 in
set_option maxRecDepth 100000 in
theorem q_keep4 {l : Launch} {G : Gd} {b0 : Nat} {M : Mem} {n : Nat} {z1 : Option Value} {Q : Mem → Prop} (hn : n < 8) (h8 : M 140 8 = nI n) (hQ : ∀ M', ((∀ a, a ≠ 140 → (a < 145 ∨ 148 < a) → M' a = M a) ∧ (∀ k, k ≠ 8 → M' 140 k = M 140 k) ∧ M' 140 8 = nI (n + 1) ∧ ((∀ x, x < 64 → M' 145 (64 * n + x) = M 141 x) ∧ (∀ x, x < 16 → M' 146 (16 * n + x) = M 142 x) ∧ (∀ x, x < 128 → M' 147 (128 * n + x) = M 143 x) ∧ ∀ x, x < 128 → M' 148 (128 * n + x) = M 144 x) ∧ ∀ s, s ≠ n → SEQ M s M' s) → Q M') : S l G b0 yX10_keep cX10_keep 2 none (rmZ 1 23) LAY (fun v M' => Q M') 0 0 0 0 LAY 37 [some (.ref (b0 + 140)), z1] [] M := by
  refine S_iconst (q := 38) (nI 0) dX10_keep_37 (by decide) rfl ?_
  refine S_istore_1 (q := 39) dX10_keep_38 rfl ?_
  refine q_keep1 hn h8 (fun Ma ha => ?_)
  refine S_iconst (q := 72) (nI 0) dX10_keep_71 (by decide) rfl ?_
  refine S_istore_1 (q := 73) dX10_keep_72 rfl ?_
  refine q_keep2 hn (by rw [ha.1 140 (by decide)]; exact h8) (fun Mb hb => ?_)
  refine S_iconst (q := 106) (nI 0) dX10_keep_105 (by decide) rfl ?_
  refine S_istore_1 (q := 107) dX10_keep_106 rfl ?_
  refine q_keep3 hn (by rw [hb.1 140 (by decide), ha.1 140 (by decide)]; exact h8) (fun Mc hc => ?_)
  refine S_aload_0 (q := 163) dX10_keep_162 rfl ?_
  refine S_dup (q := 164) dX10_keep_163 rfl rfl ?_
  refine S_getI (q := 167) dX10_keep_164 fl_X10_35 (by first | assumption | rfl) (by rfl) rfl ?_
  rw [hc.1 140 (by decide) (by decide), hb.1 140 (by decide), ha.1 140 (by decide), h8]
  refine S_iconst (q := 168) (nI 1) dX10_keep_167 (by decide) rfl ?_
  refine S_iadd (q := 169) dX10_keep_168 rfl ?_
  rw [nI_add]
  refine S_putI (q := 172) dX10_keep_169 fp_X10_35 (by first | assumption | rfl) (by rfl) rfl (by rfl) rfl ?_
  exact S_ret (v := 0) rfl dX10_keep_172 rfl (hQ _ ⟨fun a h1 h2 => (by rw [up_n h1, hc.1 a (by omega) (by omega), hb.1 a (by omega), ha.1 a (by omega)]), fun k hk => (by rw [up_eq, if_neg (by omega), hc.1 140 (by decide) (by decide), hb.1 140 (by decide), ha.1 140 (by decide)]), up_s, ⟨fun x hx => (by rw [up_n (by decide), hc.1 145 (by decide) (by decide), hb.1 145 (by decide)]; exact ha.2.1 x hx), fun x hx => (by rw [up_n (by decide), hc.1 146 (by decide) (by decide), hb.2.1 x hx, ha.1 142 (by decide)]), fun x hx => (by rw [up_n (by decide), hc.2.1 x hx, hb.1 143 (by decide), ha.1 143 (by decide)]), fun x hx => (by rw [up_n (by decide), hc.2.2.2.1 x hx, hb.1 144 (by decide), ha.1 144 (by decide)])⟩, fun s hs => ⟨fun x hx => (by rw [up_n (by decide), hc.1 145 (by decide) (by decide), hb.1 145 (by decide), ha.2.2 _ (by omega)]), fun x hx => (by rw [up_n (by decide), hc.1 146 (by decide) (by decide), hb.2.2 _ (by omega), ha.1 146 (by decide)]), fun x hx => (by rw [up_n (by decide), hc.2.2.1 _ (by omega), hb.1 147 (by decide), ha.1 147 (by decide)]), fun x hx => (by rw [up_n (by decide), hc.2.2.2.2 _ (by omega), hb.1 148 (by decide), ha.1 148 (by decide)])⟩⟩)
theorem RHs.kept {M M1 : Mem} {A : Ab} (hk : A.ok) (hg : RGr M A.P A.f) (hh : RHs M A.P A.H) {n : Nat} (hn : n + 1 = A.ps.length) (h8 : M1 140 8 = nI (n + 1)) (hc : (∀ x, x < 64 → M1 145 (64 * n + x) = M 141 x) ∧ (∀ x, x < 16 → M1 146 (16 * n + x) = M 142 x) ∧ (∀ x, x < 128 → M1 147 (128 * n + x) = M 143 x) ∧ ∀ x, x < 128 → M1 148 (128 * n + x) = M 144 x) (ho : ∀ s, s < n → SEQ M (A.H.length - n + s) M1 s) : RHs M1 A.P A.ps := by
  have h8' := hk.H8
  have hP := hk.P
  refine ⟨by rw [← hn]; exact h8, fun s e he => ?_⟩
  have hs := (List.getElem?_eq_some_iff.mp he).1
  unfold Ab.ps at he
  rw [List.getElem?_take, if_pos (by have := hk.ps.2; omega)] at he
  cases s with
  | zero =>
    rw [List.getElem?_cons_zero] at he
    cases he
    obtain ⟨c1, c2, c3, c4⟩ := hc
    obtain ⟨g1, g2, g3, g4, g5⟩ := hg
    rw [show A.ps.length - 1 - 0 = n by omega]
    refine ⟨fun x hx => ?_, fun i hi => ?_, fun i hi j hj => ?_⟩
    · have := g5 x hx
      rw [Nat.zero_add] at this
      show M1 145 (64 * n + gx A.P.c x) = nI (A.f x)
      rw [c1 _ (gx_64 hP.r8 hP.c8 hP.c1 hx).1]; exact this.1
    · show M1 146 (16 * n + i) = nI (A.P.R i)
      rw [c2 i hi]; exact (g4 i hi).1
    · have hR := (g4 i hi).2.1
      have hj' : j < A.P.R i := hj
      show M1 147 (128 * n + (i * 8 + j)) = nI (A.P.len i j) ∧ M1 148 (128 * n + (i * 8 + j)) = nI (A.P.col i j)
      rw [c3 (i * 8 + j) (by omega), c4 (i * 8 + j) (by omega)]
      exact ⟨((g4 i hi).2.2 j hj).1, ((g4 i hi).2.2 j hj).2.2.2.1⟩
  | succ s =>
    rw [List.getElem?_cons_succ] at he
    have hs2 := (List.getElem?_eq_some_iff.mp he).1
    have hl : A.ps.length = min 8 (A.H.length + 1) := by unfold Ab.ps; rw [List.length_take, List.length_cons]
    have h := hh.2 s e he
    refine h.seq (hk.H e (List.mem_of_getElem? he)).1 ?_
    have := ho (A.ps.length - 1 - (s + 1)) (by omega)
    rw [show A.H.length - n + (A.ps.length - 1 - (s + 1)) = A.H.length - 1 - s by omega] at this
    exact this
set_option maxHeartbeats 4000000 in
set_option maxRecDepth 100000 in
theorem k_X10_keep {l : Launch} {G : Gd} {b0 : Nat} {M : Mem} {A : Ab} (hC : RR M A) (hk : A.ok) : Ct l G b0 yX10_keep cX10_keep 2 none (rmZ 1 23) LAY LAY M [.ref (b0 + 140)] (fun v M' => (∀ a, a ≠ 140 → (a < 145 ∨ 148 < a) → M' a = M a) ∧ (∀ k, k ≠ 8 → M' 140 k = M 140 k) ∧ RHs M' A.P A.ps) := by
  have h8' := hk.H8
  have hc8 := hC.2.2.1.1
  have hl : A.ps.length = min 8 (A.H.length + 1) := by unfold Ab.ps; rw [List.length_take, List.length_cons]
  refine Ct.of [some (.ref (b0 + 140)), none] (by decide) (Nat.le_of_ble_eq_true rfl) rfl rfl ?_
  refine S_aload_0 (q := 1) dX10_keep_0 rfl ?_
  refine S_getI (q := 4) dX10_keep_1 fl_X10_35 (by first | assumption | rfl) (by rfl) rfl ?_
  rw [hc8]
  refine S_bipush (q := 6) (nI 8) dX10_keep_4 (by decide) rfl ?_
  refine S_icmp_ne (t := 37) (q := 9) dX10_keep_6 (by decide) rfl (fun hb6 => ?_) (fun hb6 => ?_)
  · have hne : A.H.length ≠ 8 := fun e => hb6 (by rw [e])
    refine q_keep4 (n := A.H.length) (by omega) hc8 (fun M' hM => ⟨hM.1, hM.2.1, ?_⟩)
    exact RHs.kept hk hC.1 hC.2.2.1 (n := A.H.length) (by rw [hl]; omega) hM.2.2.1 hM.2.2.2.1 (fun s hs => by rw [Nat.sub_self, Nat.zero_add]; exact hM.2.2.2.2 s (by omega))
  · have he8 : A.H.length = 8 := nI_inj (by omega) (by decide) hb6
    refine S_iconst (q := 10) (nI 1) dX10_keep_9 (by decide) rfl ?_
    refine S_istore_1 (q := 11) dX10_keep_10 rfl ?_
    suffices H : ∀ (d : Nat) (i : Nat) (M1 : Mem), 7 - i = d → i ≤ 7 → ((∀ a, (a < 145 ∨ 148 < a) → M1 a = M a) ∧ (∀ u, u < i → SEQ M (u + 1) M1 u) ∧ (∀ u, i ≤ u → SEQ M u M1 u)) → S l G b0 yX10_keep cX10_keep 2 none (rmZ 1 23) LAY (fun v M' => (∀ a, a ≠ 140 → (a < 145 ∨ 148 < a) → M' a = M a) ∧ (∀ k, k ≠ 8 → M' 140 k = M 140 k) ∧ RHs M' A.P A.ps) 0 0 0 0 LAY 11 [some (.ref (b0 + 140)), some (.int (nI (i + 1)))] [] M1 from H _ 0 _ rfl (by omega) ⟨fun _ _ => rfl, fun u hu => absurd hu (Nat.not_lt_zero u), fun _ _ => SEQ.refl⟩
    intro d
    induction d with
    | zero =>
      intro i M1 hd hi hI
      have e : 7 = i := by omega
      subst e
      refine S_iload_1 (q := 12) dX10_keep_11 rfl ?_
      refine S_bipush (q := 14) (nI 8) dX10_keep_12 (by decide) rfl ?_
      refine S_icmp_ge (t := 31) (q := 17) dX10_keep_14 (by decide) rfl (fun hb14 => ?_) (fun hb14 => ?_)
      · refine S_aload_0 (q := 32) dX10_keep_31 rfl ?_
        refine S_bipush (q := 34) (nI 7) dX10_keep_32 (by decide) rfl ?_
        refine S_putI (q := 37) dX10_keep_34 fp_X10_35 (by first | assumption | rfl) (by rfl) rfl (by rfl) rfl ?_
        refine q_keep4 (n := 7) (by decide) up_s (fun M' hM => ⟨fun a h1 h2 => by rw [hM.1 a h1 h2, up_n h1]; exact hI.1 a h2, fun k hk8 => by rw [hM.2.1 k hk8, up_eq, if_neg (by omega), hI.1 140 (by omega)], ?_⟩)
        refine RHs.kept hk hC.1 hC.2.2.1 (n := 7) (by rw [hl]; omega) hM.2.2.1 ⟨fun x hx => ?_, fun x hx => ?_, fun x hx => ?_, fun x hx => ?_⟩ (fun s hs => ?_)
        · rw [hM.2.2.2.1.1 x hx, up_n (by decide), hI.1 141 (by omega)]
        · rw [hM.2.2.2.1.2.1 x hx, up_n (by decide), hI.1 142 (by omega)]
        · rw [hM.2.2.2.1.2.2.1 x hx, up_n (by decide), hI.1 143 (by omega)]
        · rw [hM.2.2.2.1.2.2.2 x hx, up_n (by decide), hI.1 144 (by omega)]
        · have h2 := (hI.2.1 s hs).trans ((SEQ.same (fun a h1 h2 => up_n (by omega))).trans (hM.2.2.2.2 s (by omega)))
          rw [show A.H.length - 7 + s = s + 1 by omega]
          exact h2
      · exact absurd (Int32.le_refl _) hb14
    | succ d ih =>
      intro i M1 hd hi hI
      have hlt : i < 7 := by omega
      refine S_iload_1 (q := 12) dX10_keep_11 rfl ?_
      refine S_bipush (q := 14) (nI 8) dX10_keep_12 (by decide) rfl ?_
      refine S_icmp_ge (t := 31) (q := 17) dX10_keep_14 (by decide) rfl (fun hb14 => ?_) (fun hb14 => ?_)
      · exact absurd ((nI_leI (a := 8) (b := i + 1) (by decide) (by omega)).mp hb14) (by omega)
      · refine S_aload_0 (q := 18) dX10_keep_17 rfl ?_
        refine S_iload_1 (q := 19) dX10_keep_18 rfl ?_
        refine S_iload_1 (q := 20) dX10_keep_19 rfl ?_
        refine S_iconst (q := 21) (nI 1) dX10_keep_20 (by decide) rfl ?_
        refine S_isub (q := 22) dX10_keep_21 rfl ?_
        rw [pk_sub (show 1 ≤ i + 1 by omega), show i + 1 - 1 = i from rfl]
        refine S_callV2v (q := 25) dX10_keep_22 lk_X10_176 (by first | assumption | rfl) rfl rfl (k_X10_move (f := i + 1) (t := i) (by omega) (by omega)) rfl rfl (Nat.le_of_ble_eq_true rfl) ⟨Nat.le_of_ble_eq_true rfl, Nat.le_of_ble_eq_true rfl⟩ ⟨Nat.le_of_ble_eq_true rfl, Nat.le_of_ble_eq_true rfl⟩ rfl (fun v22 M22 hv22 => ?_)
        refine S_iinc_1 (q := 28) (nI (i + 1 + 1)) dX10_keep_25 (inc1 _) rfl ?_
        refine S_goto (t := 11) dX10_keep_28 (by decide) ?_
        exact ih (i + 1) _ (by omega) hlt ⟨fun a ha => by rw [hv22.1 a ha]; exact hI.1 a ha, fun u hu => by
          by_cases e : u = i
          · rw [e]; exact (hI.2.2 (i + 1) (by omega)).trans hv22.2.1
          · exact (hI.2.1 u (by omega)).trans (hv22.2.2 u e), fun u hu => (hI.2.2 u (by omega)).trans (hv22.2.2 u (by omega))⟩
