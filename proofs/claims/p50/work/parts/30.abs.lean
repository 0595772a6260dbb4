/-! THE ABSTRACT STATE, and what the class's memory and the reference's memory have to do with it -/
def Pz.wc (P : Pz) (R : Nat → Nat) (len col : Nat → Nat → Nat) : Pz := (P.r, P.c, P.k, R, len, col)
/-- an old state: clues and candidates -/
abbrev HE : Type := (Nat → Nat) × (Nat → Nat → Nat) × (Nat → Nat → Nat) × (Nat → Nat)
def hP (P : Pz) (e : HE) : Pz := P.wc e.1 e.2.1 e.2.2.1
def hF (e : HE) : Nat → Nat := e.2.2.2
/-- the puzzle, the candidates, the history, the rule, the contradiction, the text, the formatted text, the tables, the snapshot -/
def Ab : Type := Pz × (Nat → Nat) × List HE × Nat × Option (Nat × Nat) × ((Nat → Nat) × Nat) × ((Nat → Nat) × Nat) × (Nat → Option (Nat × Nat × (Nat → Int32))) × Option (Pz × (Nat → Nat))
def mkA (P : Pz) (f : Nat → Nat) (H : List HE) (ru : Nat) (bad : Option (Nat × Nat)) (tx fo : (Nat → Nat) × Nat) (tb : Nat → Option (Nat × Nat × (Nat → Int32))) (sn : Option (Pz × (Nat → Nat))) : Ab := (P, f, H, ru, bad, tx, fo, tb, sn)
def Ab.P (A : Ab) : Pz := A.1
def Ab.f (A : Ab) : Nat → Nat := A.2.1
def Ab.H (A : Ab) : List HE := A.2.2.1
def Ab.ru (A : Ab) : Nat := A.2.2.2.1
def Ab.bad (A : Ab) : Option (Nat × Nat) := A.2.2.2.2.1
def Ab.tx (A : Ab) : (Nat → Nat) × Nat := A.2.2.2.2.2.1
def Ab.fo (A : Ab) : (Nat → Nat) × Nat := A.2.2.2.2.2.2.1
def Ab.tb (A : Ab) : Nat → Option (Nat × Nat × (Nat → Int32)) := A.2.2.2.2.2.2.2.1
def Ab.sn (A : Ab) : Option (Pz × (Nat → Nat)) := A.2.2.2.2.2.2.2.2
/-- other puzzle, candidates and history -/
def Ab.sG (A : Ab) (P : Pz) (f : Nat → Nat) (H : List HE) : Ab := mkA P f H A.ru A.bad A.tx A.fo A.tb A.sn
def Ab.sB (A : Ab) (b : Option (Nat × Nat)) : Ab := mkA A.P A.f A.H A.ru b A.tx A.fo A.tb A.sn
def Ab.e (A : Ab) : HE := (A.P.R, A.P.len, A.P.col, A.f)
def Ab.ps (A : Ab) : List HE := (A.e :: A.H).take 8
/-- a puzzle that stands in a grid: no clue beyond its lines -/
def Pz.gd (P : Pz) (f : Nat → Nat) : Prop := P.ok ∧ GF P f ∧ ∀ i, P.r + P.c ≤ i → P.R i = 0
def Ab.ok (A : Ab) : Prop := A.P.gd A.f ∧ (∀ e, e ∈ A.H → (hP A.P e).gd (hF e)) ∧ A.H.length ≤ 8 ∧ A.ru ≤ 2 ∧ (∀ l d, A.bad = some (l, d) → l < 2 ^ 31 ∧ d < 2 ^ 31) ∧ (A.tx.2 ≤ 120 ∧ ∀ j, j < A.tx.2 → 32 ≤ A.tx.1 j ∧ A.tx.1 j ≤ 126) ∧ A.fo.2 ≤ 271 ∧ (∀ t ty n it, A.tb t = some (ty, n, it) → ty ≤ 2 ∧ n ≤ 64 ∧ (ty = 2 → ∀ j, it j = nI 0 ∨ it j = nI 1)) ∧ ∀ P f, A.sn = some (P, f) → P.gd f
theorem Ab.ok.g {A : Ab} (h : A.ok) : A.P.gd A.f := h.1
theorem Ab.ok.P {A : Ab} (h : A.ok) : A.P.ok := h.1.1
theorem Ab.ok.f {A : Ab} (h : A.ok) : GF A.P A.f := h.1.2.1
theorem Ab.ok.z {A : Ab} (h : A.ok) : ∀ i, A.P.r + A.P.c ≤ i → A.P.R i = 0 := h.1.2.2
theorem Ab.ok.H {A : Ab} (h : A.ok) : ∀ e, e ∈ A.H → (hP A.P e).gd (hF e) := h.2.1
theorem Ab.ok.H8 {A : Ab} (h : A.ok) : A.H.length ≤ 8 := h.2.2.1
theorem Ab.ok.ru {A : Ab} (h : A.ok) : A.ru ≤ 2 := h.2.2.2.1
theorem Ab.ok.bad {A : Ab} (h : A.ok) : ∀ l d, A.bad = some (l, d) → l < 2 ^ 31 ∧ d < 2 ^ 31 := h.2.2.2.2.1
theorem Ab.ok.tx {A : Ab} (h : A.ok) : A.tx.2 ≤ 120 ∧ ∀ j, j < A.tx.2 → 32 ≤ A.tx.1 j ∧ A.tx.1 j ≤ 126 := h.2.2.2.2.2.1
theorem Ab.ok.fo {A : Ab} (h : A.ok) : A.fo.2 ≤ 271 := h.2.2.2.2.2.2.1
theorem Ab.ok.tb {A : Ab} (h : A.ok) : ∀ t ty n it, A.tb t = some (ty, n, it) → ty ≤ 2 ∧ n ≤ 64 ∧ (ty = 2 → ∀ j, it j = nI 0 ∨ it j = nI 1) := h.2.2.2.2.2.2.2.1
theorem Ab.ok.sn {A : Ab} (h : A.ok) : ∀ P f, A.sn = some (P, f) → P.gd f := h.2.2.2.2.2.2.2.2
theorem Ab.ok.sG {A : Ab} (h : A.ok) {P : Pz} {f : Nat → Nat} {H : List HE} (h1 : P.gd f) (h2 : ∀ e, e ∈ H → (hP P e).gd (hF e)) (h3 : H.length ≤ 8) : (A.sG P f H).ok := ⟨h1, h2, h3, h.ru, h.bad, h.tx, h.fo, h.tb, h.sn⟩
theorem Ab.ok.sB {A : Ab} (h : A.ok) {b : Option (Nat × Nat)} (h1 : ∀ l d, b = some (l, d) → l < 2 ^ 31 ∧ d < 2 ^ 31) : (A.sB b).ok := ⟨h.1, h.2.1, h.2.2.1, h.ru, h1, h.tx, h.fo, h.tb, h.sn⟩
theorem hP_self {A : Ab} : hP A.P A.e = A.P := rfl
theorem hP_wc {P : Pz} {R : Nat → Nat} {len col : Nat → Nat → Nat} {e : HE} : hP (P.wc R len col) e = hP P e := rfl
theorem Ab.ok.ps {A : Ab} (h : A.ok) : (∀ e, e ∈ A.ps → (hP A.P e).gd (hF e)) ∧ A.ps.length ≤ 8 := by
  refine ⟨fun e he => ?_, by unfold Ab.ps; rw [List.length_take]; exact Nat.min_le_left _ _⟩
  rcases List.mem_cons.mp (List.mem_of_mem_take he) with e1 | e1
  · rw [e1]; exact h.g
  · exact h.H e e1
/-- an edit: what stood is pushed -/
theorem Ab.ok.ed {A : Ab} (h : A.ok) {P : Pz} {f : Nat → Nat} (hr : P.r = A.P.r) (hc : P.c = A.P.c) (hk : P.k = A.P.k) (h1 : P.gd f) : (A.sG P f A.ps).ok := h.sG h1 (fun e he => by
  have := h.ps.1 e he
  have e1 : hP P e = hP A.P e := by unfold hP Pz.wc; rw [hr, hc, hk]
  rw [e1]; exact this) h.ps.2
/-- a grid's memory -/
def GR (M : Mem) (g : Nat) (P : Pz) (f : Nat → Nat) : Prop := M g 0 = nI P.r ∧ M g 1 = nI P.c ∧ M g 2 = nI P.k ∧ CLU M (g + 1) P ∧ CE M (g + 5) (P.r * P.c) f
theorem GR.fr {M M1 : Mem} {g : Nat} {P : Pz} {f : Nat → Nat} (h : GR M g P f) (hf : ∀ a, g ≤ a → a < g + 6 → M1 a = M a) : GR M1 g P f := by
  obtain ⟨h1, h2, h3, h4, h5⟩ := h
  exact ⟨by rw [hf g (by omega) (by omega)]; exact h1, by rw [hf g (by omega) (by omega)]; exact h2, by rw [hf g (by omega) (by omega)]; exact h3, h4.fr (hf _ (by omega) (by omega)) (hf _ (by omega) (by omega)) (hf _ (by omega) (by omega)), h5.fr (hf _ (by omega) (by omega))⟩
theorem GR.cpy {M M1 : Mem} {d s : Nat} {P : Pz} {f : Nat → Nat} (h : GR M s P f) (hP : P.ok) (hc : CPY M M1 d s) : GR M1 d P f := by
  obtain ⟨h1, h2, h3, h4, h5⟩ := h
  obtain ⟨c1, c2, c3, c4, c5⟩ := hc
  have h64 := rc64 hP.r8 hP.c8
  exact ⟨by rw [c1 0 (by omega)]; exact h1, by rw [c1 1 (by omega)]; exact h2, by rw [c1 2 (by omega)]; exact h3, h4.cp (fun j hj => c2 j hj) (fun j hj => c3 j hj) (fun j hj => c4 j hj), fun x hx => by rw [c5 x (by omega)]; exact h5 x hx⟩
def badI : Option (Nat × Nat) → Int32 × Int32
  | none => (-8, -8)
  | some (l, d) => (nI l, nI d)
/-- the class's memory -/
def CR (M : Mem) (A : Ab) : Prop := GR M 1 A.P A.f ∧ M 0 9 = nI A.ru ∧ M 0 10 = (badI A.bad).1 ∧ M 0 11 = (badI A.bad).2 ∧ M 0 3 = nI (if A.sn.isSome then 1 else 0) ∧ (∀ P f, A.sn = some (P, f) → GR M 13 P f) ∧ (∃ nx, nx < 8 ∧ M 19 1 = nI nx ∧ M 19 2 = nI A.H.length ∧ ∀ s e, A.H[s]? = some e → GR M (hst ((nx + 7 - s) % 8)) (hP A.P e) (hF e)) ∧ (M 125 1 = nI A.tx.2 ∧ ∀ j, j < A.tx.2 → M 126 j = nI (A.tx.1 j)) ∧ (M 127 1 = nI A.fo.2 ∧ ∀ j, j < A.fo.2 → M 128 j = nI (A.fo.1 j)) ∧ ∀ t, t < 3 → (A.tb t = none → M (134 + 2 * t) 1 = -1) ∧ ∀ ty n it, A.tb t = some (ty, n, it) → M (134 + 2 * t) 1 = nI ty ∧ M (134 + 2 * t) 2 = nI n ∧ ∀ j, j < 64 → M (135 + 2 * t) j = it j
theorem hst_in (nx s : Nat) : 21 ≤ hst ((nx + 7 - s) % 8) ∧ hst ((nx + 7 - s) % 8) + 6 ≤ 69 := by
  have := Nat.mod_lt (nx + 7 - s) (show 0 < 8 by decide)
  unfold hst
  omega
/-- scratch: all but what the state stands in -/
theorem CR.fr {M M1 : Mem} {A : Ab} (h : CR M A) (hf : ∀ a, (a < 7 ∨ (13 ≤ a ∧ a < 69) ∨ (125 ≤ a ∧ a < 129) ∨ (134 ≤ a ∧ a < 140)) → M1 a = M a) : CR M1 A := by
  obtain ⟨h1, h2, h3, h4, h5, h6, ⟨nx, n1, n2, n3, n4⟩, ⟨t1, t2⟩, ⟨f1, f2⟩, ht⟩ := h
  refine ⟨h1.fr (fun a _ _ => hf a (by omega)), by rw [hf 0 (by omega)]; exact h2, by rw [hf 0 (by omega)]; exact h3, by rw [hf 0 (by omega)]; exact h4, by rw [hf 0 (by omega)]; exact h5, fun P f e => (h6 P f e).fr (fun a _ _ => hf a (by omega)), ⟨nx, n1, by rw [hf 19 (by omega)]; exact n2, by rw [hf 19 (by omega)]; exact n3, fun s e he => (n4 s e he).fr (fun a _ _ => hf a (by have := hst_in nx s; omega))⟩, ⟨by rw [hf 125 (by omega)]; exact t1, fun j hj => by rw [hf 126 (by omega)]; exact t2 j hj⟩, ⟨by rw [hf 127 (by omega)]; exact f1, fun j hj => by rw [hf 128 (by omega)]; exact f2 j hj⟩, fun t htt => ?_⟩
  obtain ⟨a1, a2⟩ := ht t htt
  rw [hf (134 + 2 * t) (by omega), hf (135 + 2 * t) (by omega)]
  exact ⟨a1, a2⟩
/-- other places for the grid and the history -/
theorem CR.grid {M M1 : Mem} {A : Ab} (h : CR M A) {P : Pz} {f : Nat → Nat} {H : List HE} (hf : ∀ a, (a < 1 ∨ (13 ≤ a ∧ a < 19) ∨ (125 ≤ a ∧ a < 129) ∨ (134 ≤ a ∧ a < 140)) → M1 a = M a) (h1 : GR M1 1 P f) (hh : ∃ nx, nx < 8 ∧ M1 19 1 = nI nx ∧ M1 19 2 = nI H.length ∧ ∀ s e, H[s]? = some e → GR M1 (hst ((nx + 7 - s) % 8)) (hP P e) (hF e)) : CR M1 (A.sG P f H) := by
  obtain ⟨-, h2, h3, h4, h5, h6, -, ⟨t1, t2⟩, ⟨f1, f2⟩, ht⟩ := h
  refine ⟨h1, by rw [hf 0 (by omega)]; exact h2, by rw [hf 0 (by omega)]; exact h3, by rw [hf 0 (by omega)]; exact h4, by rw [hf 0 (by omega)]; exact h5, fun P f e => (h6 P f e).fr (fun a _ _ => hf a (by omega)), hh, ⟨by rw [hf 125 (by omega)]; exact t1, fun j hj => by rw [hf 126 (by omega)]; exact t2 j hj⟩, ⟨by rw [hf 127 (by omega)]; exact f1, fun j hj => by rw [hf 128 (by omega)]; exact f2 j hj⟩, fun t htt => ?_⟩
  obtain ⟨a1, a2⟩ := ht t htt
  rw [hf (134 + 2 * t) (by omega), hf (135 + 2 * t) (by omega)]
  exact ⟨a1, a2⟩
theorem CR.bad {M : Mem} {A : Ab} (h : CR M A) {b : Option (Nat × Nat)} {x z : Int32} (hx : x = (badI b).1) (hz : z = (badI b).2) : CR (up (up M 0 10 x) 0 11 z) (A.sB b) := by
  subst hx hz
  obtain ⟨h1, h2, h3, h4, h5, h6, ⟨nx, n1, n2, n3, n4⟩, ⟨t1, t2⟩, ⟨f1, f2⟩, ht⟩ := h
  have hf : ∀ a, a ≠ 0 → up (up M 0 10 (badI b).1) 0 11 (badI b).2 a = M a := fun a ha => by rw [up_n ha, up_n ha]
  refine ⟨h1.fr (fun a _ _ => hf a (by omega)), by rw [up_eq, if_neg (by decide), up_eq, if_neg (by decide)]; exact h2, by rw [up_eq, if_neg (by decide), up_s]; rfl, by rw [up_s]; rfl, by rw [up_eq, if_neg (by decide), up_eq, if_neg (by decide)]; exact h5, fun P f e => (h6 P f e).fr (fun a _ _ => hf a (by omega)), ⟨nx, n1, by rw [hf 19 (by omega)]; exact n2, by rw [hf 19 (by omega)]; exact n3, fun s e he => (n4 s e he).fr (fun a _ _ => hf a (by have := hst_in nx s; omega))⟩, ⟨by rw [hf 125 (by omega)]; exact t1, fun j hj => by rw [hf 126 (by omega)]; exact t2 j hj⟩, ⟨by rw [hf 127 (by omega)]; exact f1, fun j hj => by rw [hf 128 (by omega)]; exact f2 j hj⟩, fun t htt => ?_⟩
  rw [hf (134 + 2 * t) (by omega), hf (135 + 2 * t) (by omega)]
  exact ht t htt
/-- the history after a push of the grid -/
theorem CR.pushed {M M1 : Mem} {A : Ab} (h : CR M A) (hk : A.ok) {nx : Nat} (n1 : nx < 8) (n4 : ∀ s e, A.H[s]? = some e → GR M (hst ((nx + 7 - s) % 8)) (hP A.P e) (hF e)) (hf : ∀ a, (a < hst nx ∨ hst nx + 6 ≤ a) → a ≠ 19 → M1 a = M a) (hc : CPY M M1 (hst nx) 1) (p1 : M1 19 1 = nI ((nx + 1) % 8)) (p2 : M1 19 2 = nI (cnt8 A.H.length)) : ∃ ny, ny < 8 ∧ M1 19 1 = nI ny ∧ M1 19 2 = nI A.ps.length ∧ ∀ s e, A.ps[s]? = some e → GR M1 (hst ((ny + 7 - s) % 8)) (hP A.P e) (hF e) := by
  have h8 := hk.H8
  have hl : A.ps.length = cnt8 A.H.length := by
    unfold Ab.ps cnt8
    rw [List.length_take, List.length_cons]
    split <;> omega
  refine ⟨(nx + 1) % 8, Nat.mod_lt _ (by decide), p1, by rw [hl]; exact p2, fun s e he => ?_⟩
  have hs8 : s < 8 := by
    have := (List.getElem?_eq_some_iff.mp he).1
    have := hk.ps.2
    omega
  unfold Ab.ps at he
  rw [List.getElem?_take, if_pos hs8] at he
  cases s with
  | zero =>
    rw [List.getElem?_cons_zero] at he
    cases he
    rw [show ((nx + 1) % 8 + 7 - 0) % 8 = nx by omega]
    exact h.1.cpy hk.P hc
  | succ s =>
    rw [List.getElem?_cons_succ] at he
    rw [show ((nx + 1) % 8 + 7 - (s + 1)) % 8 = (nx + 7 - s) % 8 by omega]
    refine (n4 s e he).fr (fun a a1 a2 => hf a ?_ (by have := hst_in nx s; omega))
    have hne : (nx + 7 - s) % 8 ≠ nx := by omega
    have : hst ((nx + 7 - s) % 8) = 21 + 6 * ((nx + 7 - s) % 8) := rfl
    have : hst nx = 21 + 6 * nx := rfl
    rcases Nat.lt_or_gt_of_ne hne with y | y <;> omega
