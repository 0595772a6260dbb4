/-! THE OPERATIONS, on the abstract state: the next state and the answer -/
def ix (x : Int32) (n : Nat) : Option Nat := if 0 ≤ x ∧ x < nI n then some x.toNatClampNeg else none
def iw (x : Int32) (a b : Nat) : Option Nat := if nI a ≤ x ∧ x ≤ nI b then some x.toNatClampNeg else none
theorem ix_no {x : Int32} {n : Nat} (h : ¬ (0 ≤ x ∧ x < nI n)) : ix x n = none := if_neg h
theorem ix_ok {x : Int32} {n : Nat} (hn : n < 2 ^ 31) (h : 0 ≤ x ∧ x < nI n) : ∃ j, j < n ∧ x = nI j ∧ ix x n = some j := by
  obtain ⟨j, hj, e⟩ := inI hn h
  subst e
  exact ⟨j, hj, rfl, by unfold ix; rw [if_pos h, nI_clamp (by omega)]⟩
theorem ix_at {j n : Nat} (hn : n < 2 ^ 31) (h : j < n) : ix (nI j) n = some j := by
  unfold ix
  rw [if_pos (inI' hn h), nI_clamp (by omega)]
theorem iw_no {x : Int32} {a b : Nat} (h : ¬ (nI a ≤ x ∧ x ≤ nI b)) : iw x a b = none := if_neg h
theorem iw_ok {x : Int32} {a b : Nat} (ha : a < 2 ^ 31) (hb : b < 2 ^ 31) (h : nI a ≤ x ∧ x ≤ nI b) : ∃ j, a ≤ j ∧ j ≤ b ∧ x = nI j ∧ iw x a b = some j := by
  have h0 : ¬ x < 0 := by
    intro z
    have h1 := h.1
    rw [Int32.le_iff_toInt_le, nI_toInt ha] at h1
    rw [Int32.lt_iff_toInt_lt] at z
    have : (0 : Int32).toInt = 0 := by decide
    omega
  obtain ⟨j, hj, e⟩ := nI_of h0
  subst e
  refine ⟨j, (nI_leI ha hj).mp h.1, (nI_leI hj hb).mp h.2, rfl, ?_⟩
  unfold iw
  rw [if_pos h, nI_clamp hj]
/-- 0 to n - 1, as a bound -/
theorem ix_iw {x : Int32} {n : Nat} (hn : n < 2 ^ 30) : (nI 0 ≤ x ∧ x ≤ nI n - nI 1) ↔ (0 ≤ x ∧ x < nI n) := by
  have h := pk_sub_toInt (a := n) (b := 1) hn (by decide)
  rw [show nI 0 = (0 : Int32) from rfl, Int32.le_iff_toInt_le, Int32.le_iff_toInt_le, Int32.lt_iff_toInt_lt, h, nI_toInt (show n < 2 ^ 31 by omega)]
  omega
def Ab.N (A : Ab) : Nat := A.P.r + A.P.c
def Ab.ln (A : Ab) (x : Int32) : Option Nat := ix x A.N
def Ab.cl (A : Ab) (x z : Int32) : Option (Nat × Nat) := match ix x A.P.r with
  | none => none
  | some i => match ix z A.P.c with
    | none => none
    | some j => some (i, j)
theorem cl_no {A : Ab} {x z : Int32} (h : ¬ ((0 ≤ x ∧ x < nI A.P.r) ∧ (0 ≤ z ∧ z < nI A.P.c))) : A.cl x z = none := by
  unfold Ab.cl
  by_cases h1 : 0 ≤ x ∧ x < nI A.P.r
  · rw [ix_no (fun h2 => h ⟨h1, h2⟩)]
    split <;> rfl
  · rw [ix_no h1]
theorem cl_ok {A : Ab} {x z : Int32} (hk : A.P.ok) (h : (0 ≤ x ∧ x < nI A.P.r) ∧ (0 ≤ z ∧ z < nI A.P.c)) : ∃ i j, i < A.P.r ∧ j < A.P.c ∧ x = nI i ∧ z = nI j ∧ A.cl x z = some (i, j) := by
  have hr := hk.r8
  have hc := hk.c8
  obtain ⟨i, hi, e1, e2⟩ := ix_ok (by omega) h.1
  obtain ⟨j, hj, e3, e4⟩ := ix_ok (by omega) h.2
  refine ⟨i, j, hi, hj, e1, e3, ?_⟩
  unfold Ab.cl
  rw [e2, e4]
theorem cel_lt {r c i j : Nat} (hi : i < r) (hj : j < c) : i * c + j < r * c := by
  calc i * c + j < i * c + c := by omega
    _ = (i + 1) * c := by rw [Nat.succ_mul]
    _ ≤ r * c := Nat.mul_le_mul_right c hi
/-- an error, or a cell and a color that is one of its candidates -/
def Ab.cn (A : Ab) (x z k : Int32) : Int32 ⊕ (Nat × Nat) := match A.cl x z with
  | none => .inl (-1)
  | some (i, j) => match iw k 0 A.P.k with
    | none => .inl (-2)
    | some k => if (A.f (i * A.P.c + j)).testBit k = true then .inr (i * A.P.c + j, k) else .inl (-5)
def Ab.cn2 (A : Ab) (x z k : Int32) : Int32 ⊕ (Nat × Nat) := match A.cn x z k with
  | .inl e => .inl e
  | .inr (c, k) => if pc4 (A.f c) = 1 then .inl (-5) else .inr (c, k)
section OPS
variable (A : Ab)
def o_reset (x y z : Int32) : Ab × Int32 := match iw x 1 8 with
  | none => (A, -2)
  | some r => match iw y 1 8 with
    | none => (A, -2)
    | some c => match iw z 1 3 with
      | none => (A, -2)
      | some k => (mkA (r, c, k, fun _ => 0, fun _ _ => 0, fun _ _ => 0) (fun _ => 2 ^ (k + 1) - 1) [] A.ru none A.tx A.fo A.tb A.sn, nI (r + c))
def o_rows : Ab × Int32 := (A, nI A.P.r)
def o_cols : Ab × Int32 := (A, nI A.P.c)
def o_colors : Ab × Int32 := (A, nI A.P.k)
def o_add (x n k : Int32) : Ab × Int32 := match A.ln x with
  | none => (A, -1)
  | some i => match iw n 1 8 with
    | none => (A, -2)
    | some n => match iw k 1 A.P.k with
      | none => (A, -2)
      | some k => if A.P.R i = 8 then (A, -3) else (A.sG (A.P.wc (upf A.P.R i (A.P.R i + 1)) (fun a b => if a = i ∧ b = A.P.R i then n else A.P.len a b) (fun a b => if a = i ∧ b = A.P.R i then k else A.P.col a b)) A.f A.ps, nI (A.P.R i + 1))
def o_clr (x : Int32) : Ab × Int32 := match A.ln x with
  | none => (A, -1)
  | some i => (A.sG (A.P.wc (upf A.P.R i 0) A.P.len A.P.col) A.f A.ps, nI (A.P.R i))
def o_rc (x : Int32) : Ab × Int32 := match A.ln x with
  | none => (A, -1)
  | some i => (A, nI (A.P.R i))
def o_rl (x z : Int32) : Ab × Int32 := match A.ln x with
  | none => (A, -1)
  | some i => match ix z (A.P.R i) with
    | none => (A, -1)
    | some j => (A, nI (A.P.len i j))
def o_rk (x z : Int32) : Ab × Int32 := match A.ln x with
  | none => (A, -1)
  | some i => match ix z (A.P.R i) with
    | none => (A, -1)
    | some j => (A, nI (A.P.col i j))
def o_min (x : Int32) : Ab × Int32 := match A.ln x with
  | none => (A, -1)
  | some i => (A, nI (ndL (A.P.R i) (A.P.len i) (A.P.col i) (A.P.R i)))
def o_cand (x z : Int32) : Ab × Int32 := match A.cl x z with
  | none => (A, -1)
  | some (i, j) => (A, nI (A.f (i * A.P.c + j)))
def o_color (x z : Int32) : Ab × Int32 := match A.cl x z with
  | none => (A, -1)
  | some (i, j) => if pc4 (A.f (i * A.P.c + j)) = 1 then (A, nI (clo (A.f (i * A.P.c + j)))) else (A, -6)
def o_keep (x z k : Int32) : Ab × Int32 := match A.cn x z k with
  | .inl e => (A, e)
  | .inr (c, k) => (A.sG A.P (upf A.f c (2 ^ k)) A.ps, nI (pc4 (A.f c) - 1))
def o_elim (x z k : Int32) : Ab × Int32 := match A.cn2 x z k with
  | .inl e => (A, e)
  | .inr (c, k) => (A.sG A.P (upf A.f c (clr (A.f c) k)) A.ps, nI (pc4 (A.f c) - 1))
def o_dec : Ab × Int32 := (A, nI (sm (dc1 A.f) (A.P.r * A.P.c)))
/-- undecided cells of a line, and their candidates -/
def unL (P : Pz) (f : Nat → Nat) (i n : Nat) : Nat := sm (fun p => if pc4 (f (lnCell P.r P.c i p)) = 1 then 0 else 1) n
def unS (P : Pz) (f : Nat → Nat) (i n : Nat) : Nat := sm (fun p => if pc4 (f (lnCell P.r P.c i p)) = 1 then 0 else pc4 (f (lnCell P.r P.c i p))) n
def o_avg (x : Int32) : Ab × Int32 := match A.ln x with
  | none => (A, -1)
  | some i => if unL A.P A.f i (lnLen A.P.r A.P.c i) = 0 then (A, -8) else (A, nI (unS A.P A.f i (lnLen A.P.r A.P.c i) * 100 / unL A.P A.f i (lnLen A.P.r A.P.c i)))
def o_asn (x : Int32) : Ab × Int32 := match A.ln x with
  | none => (A, -1)
  | some i => (A, nI (wyL A.P A.f i))
def o_asc (x m z : Int32) : Ab × Int32 := match A.ln x with
  | none => (A, -1)
  | some i => match ix z (lnLen A.P.r A.P.c i) with
    | none => (A, -1)
    | some q => match ix m (wyL A.P A.f i) with
      | none => (A, -1)
      | some m => (A, nI (((asL A.P A.f i).getD m []).getD q 0))
noncomputable def o_solve (x : Int32) : Ab × Int32 := match A.ln x with
  | none => (A, -1)
  | some i => if wyL A.P A.f i = 0 then (A.sB (some (i, 0)), -4) else (A.sG A.P (lnS A.P A.f i) A.ps, nI (WT A.P A.f - WT A.P (lnS A.P A.f i)))
noncomputable def o_prop : Ab × Int32 := match spr A.P A.f with
  | .inl j => (A.sB (some (j, 0)), -4)
  | .inr (g, _) => (A.sG A.P g A.ps, nI (WT A.P A.f - WT A.P g))
noncomputable def o_pass : Ab × Int32 := match spr A.P A.f with
  | .inl _ => (A, -4)
  | .inr (_, n) => (A, nI n)
noncomputable def o_probe (x z k : Int32) : Ab × Int32 := match A.cn2 x z k with
  | .inl e => (A, e)
  | .inr (c, k) => match spr A.P (upf A.f c (2 ^ k)) with
    | .inl _ => (A, nI 1)
    | .inr _ => (A, nI 0)
noncomputable def prA (P : Pz) (f : Nat → Nat) (n : Nat) : (Nat × Nat) ⊕ ((Nat → Nat) × Nat) :=
  match prX P (P.r * P.c) f n with
  | .inl e => .inl e
  | .inr (g, m) => if h : WT P g < WT P f then prA P g m else .inr (g, m)
termination_by WT P f
noncomputable def o_all : Ab × Int32 := match spr A.P A.f with
  | .inl j => (A.sB (some (j, 0)), -4)
  | .inr (g, _) => match prA A.P g 0 with
    | .inl (j, m) => (A.sB (some (j, m)), -4)
    | .inr (h, m) => (A.sG A.P h A.ps, nI m)
def o_bl : Ab × Int32 := (A, (badI A.bad).1)
def o_bd : Ab × Int32 := (A, (badI A.bad).2)
def o_rule (x : Int32) : Ab × Int32 := match iw x 0 2 with
  | none => (A, -2)
  | some n => (mkA A.P A.f A.H n A.bad A.tx A.fo A.tb A.sn, nI A.ru)
noncomputable def Ab.sr (n : Nat) : Nat × Nat × Bool × (Nat → Nat) := vis A.P A.ru n 60 A.f (0, 0, false, A.f)
noncomputable def o_cnt (x : Int32) : Ab × Int32 := match iw x 1 20 with
  | none => (A, -2)
  | some n => if (A.sr n).2.2.1 = true then (A, -7) else (A, nI (A.sr n).2.1)
noncomputable def o_sol (m x z : Int32) : Ab × Int32 := match iw m 0 19 with
  | none => (A, -2)
  | some m => match A.cl x z with
    | none => (A, -1)
    | some (i, j) => if (A.sr (m + 1)).2.2.1 = true then (A, -7) else if m + 1 ≤ (A.sr (m + 1)).2.1 then (A, nI (clo ((A.sr (m + 1)).2.2.2 (i * A.P.c + j)))) else (A, -8)
noncomputable def o_nod (x : Int32) : Ab × Int32 := match iw x 1 20 with
  | none => (A, -2)
  | some n => if (A.sr n).2.2.1 = true then (A, -7) else (A, nI (A.sr n).1)
noncomputable def o_uniq : Ab × Int32 := if (A.sr 2).2.2.1 = true then (A, -7) else if (A.sr 2).2.1 = 1 then (A, nI 1) else (A, nI 0)
def fmT (P : Pz) (f : Nat → Nat) : Nat → Int32
  | 0 => -8
  | d + 1 => if wyL P f (P.r + P.c - (d + 1)) = 0 then nI (P.r + P.c - (d + 1)) else fmT P f d
def o_fm : Ab × Int32 := if sm (dc1 A.f) (A.P.r * A.P.c) = A.P.r * A.P.c then (A, fmT A.P A.f A.N) else (A, -6)
/-- the puzzle of a picture -/
def pcP (P : Pz) (f : Nat → Nat) : Pz := P.wc (fun i => if i < P.r + P.c then (bkT (lco P.r P.c f i) (lnLen P.r P.c i)).1 else 0) (fun i j => (bkT (lco P.r P.c f i) (lnLen P.r P.c i)).2.1 j) (fun i j => (bkT (lco P.r P.c f i) (lnLen P.r P.c i)).2.2 j)
def o_take : Ab × Int32 := if sm (dc1 A.f) (A.P.r * A.P.c) = A.P.r * A.P.c then (A.sG (pcP A.P A.f) A.f A.ps, nI (sm (pcP A.P A.f).R 16)) else (A, -6)
def lcg (s : Int32) : Nat → Int32
  | 0 => s
  | t + 1 => lcg s t * 1103515245 + 12345
def drC (s : Int32) (k : Nat) (x : Nat) : Nat := (lcg s (x + 1)).toBitVec.toNat / 65536 % (k + 1)
def o_draw (s : Int32) : Ab × Int32 := (A.sG (pcP A.P (fun x => 2 ^ drC s A.P.k x)) (fun x => 2 ^ drC s A.P.k x) [], nI (sm (fun x => if drC s A.P.k x = 0 then 0 else 1) (A.P.r * A.P.c)))
def o_clear : Ab × Int32 := (A.sG A.P (fun _ => 2 ^ (A.P.k + 1) - 1) [], nI (sm (dc1 A.f) (A.P.r * A.P.c)))
def Ab.sT (tx : (Nat → Nat) × Nat) : Ab := mkA A.P A.f A.H A.ru A.bad tx A.fo A.tb A.sn
def Ab.sF (fo : (Nat → Nat) × Nat) : Ab := mkA A.P A.f A.H A.ru A.bad A.tx fo A.tb A.sn
def o_app (x : Int32) : Ab × Int32 := match iw x 32 126 with
  | none => (A, -2)
  | some ch => if A.tx.2 = 120 then (A, -3) else (A.sT (upf A.tx.1 A.tx.2 ch, A.tx.2 + 1), nI (A.tx.2 + 1))
/-- the reader: its line, the length that waits for a color, the clues so far -/
abbrev PS : Type := Nat × Nat × (Nat → Nat) × (Nat → Nat → Nat) × (Nat → Nat → Nat)
def psS (P : Pz) (ch : Nat) (s : PS) : Option PS :=
  if 0 < s.2.1 then (if 97 ≤ ch ∧ ch ≤ 96 + P.k then some (s.1, 0, upf s.2.2.1 s.1 (s.2.2.1 s.1 + 1), (fun a b => if a = s.1 ∧ b = s.2.2.1 s.1 then s.2.1 else s.2.2.2.1 a b), (fun a b => if a = s.1 ∧ b = s.2.2.1 s.1 then ch - 96 else s.2.2.2.2 a b)) else none)
  else if ch = 47 then (if s.1 + 1 < P.r + P.c then some (s.1 + 1, 0, s.2.2) else none)
  else if 49 ≤ ch ∧ ch ≤ 56 ∧ s.2.2.1 s.1 < 8 then some (s.1, ch - 48, s.2.2) else none
def psT (P : Pz) (T : Nat → Nat) (n : Nat) : Nat → PS → Nat ⊕ PS
  | 0, s => .inr s
  | d + 1, s => match psS P (T (n - (d + 1))) s with
    | none => .inl (n - (d + 1))
    | some s => psT P T n d s
def ps0 : PS := (0, 0, fun _ => 0, fun _ _ => 0, fun _ _ => 0)
def psR (P : Pz) (T : Nat → Nat) (n : Nat) : Nat ⊕ PS := match psT P T n n ps0 with
  | .inl p => .inl p
  | .inr s => if s.2.1 = 0 ∧ s.1 + 1 = P.r + P.c then .inr s else .inl n
def o_parse : Ab × Int32 := match psR A.P A.tx.1 A.tx.2 with
  | .inl p => (A.sT (A.tx.1, 0), -100 - nI p)
  | .inr s => ((A.sG (A.P.wc s.2.2.1 s.2.2.2.1 s.2.2.2.2) A.f A.ps).sT (A.tx.1, 0), nI (sm s.2.2.1 16))
def psh (s : (Nat → Nat) × Nat) (ch : Nat) : (Nat → Nat) × Nat := (upf s.1 s.2 ch, s.2 + 1)
def fmJ (P : Pz) (i : Nat) (s : (Nat → Nat) × Nat) : Nat → (Nat → Nat) × Nat
  | 0 => s
  | j + 1 => psh (psh (fmJ P i s j) (48 + P.len i j)) (96 + P.col i j)
def fmL (P : Pz) (T : Nat → Nat) : Nat → (Nat → Nat) × Nat
  | 0 => (T, 0)
  | i + 1 => fmJ P i (if 0 < i then psh (fmL P T i) 47 else fmL P T i) (P.R i)
def o_form : Ab × Int32 := (A.sF (fmL A.P A.fo.1 A.N), nI (fmL A.P A.fo.1 A.N).2)
def o_fch (x : Int32) : Ab × Int32 := match ix x A.fo.2 with
  | none => (A, -1)
  | some j => (A, nI (A.fo.1 j))
def o_undo : Ab × Int32 := match A.H with
  | [] => (A, -8)
  | e :: t => (A.sG (hP A.P e) (hF e) t, nI t.length)
def Ab.sS (sn : Option (Pz × (Nat → Nat))) : Ab := mkA A.P A.f A.H A.ru A.bad A.tx A.fo A.tb sn
def o_save : Ab × Int32 := (A.sS (some (A.P, A.f)), nI (sm (dc1 A.f) (A.P.r * A.P.c)))
def o_rest : Ab × Int32 := match A.sn with
  | none => (A, -8)
  | some (P, f) => ((A.sG P f []).sB none, nI (sm (dc1 f) (P.r * P.c)))
def Ab.sE (t : Nat) (b : Nat × Nat × (Nat → Int32)) : Ab := mkA A.P A.f A.H A.ru A.bad A.tx A.fo (fun z => if z = t then some b else A.tb z) A.sn
def o_ctab (x y n : Int32) : Ab × Int32 := match ix x 3 with
  | none => (A, -2)
  | some t => match iw y 0 2 with
    | none => (A, -2)
    | some ty => if nI 64 < n then (A, -2) else if n < 0 then (A, -14) else (A.sE t (ty, n.toNatClampNeg, fun _ => nI 0), nI 1)
def o_wtab (x y v : Int32) : Ab × Int32 := match ix x 3 with
  | none => (A, -2)
  | some t => match A.tb t with
    | none => (A, -11)
    | some (ty, n, it) => match ix y n with
      | none => (A, -13)
      | some j => (A.sE t (ty, n, fun z => if z = j then kpV ty v else it z), nI 1)
def o_rtab (x y : Int32) : Ab × Int32 := match ix x 3 with
  | none => (A, -2)
  | some t => match A.tb t with
    | none => (A, -11)
    | some (_, n, it) => match ix y n with
      | none => (A, -13)
      | some j => (A, it j)
def o_exp (x : Int32) : Ab × Int32 := match ix x 3 with
  | none => (A, -2)
  | some t => match A.tb t with
    | none => (A, -11)
    | some (ty, n, it) => if ty = 2 then (A, -12) else (A.sE t (ty, n, fun z => if z < A.P.r * A.P.c ∧ z < n then kpV ty (nI (A.f z)) else it z), if n < A.P.r * A.P.c then -13 else nI (A.P.r * A.P.c))
def cmT (f : Nat → Nat) (it : Nat → Int32) (n N : Nat) : Nat → Int32
  | 0 => -8
  | d + 1 => if n ≤ N - (d + 1) then -13 else if (it (N - (d + 1)) = nI 0) ↔ ((f (N - (d + 1))).testBit 0 = true) then cmT f it n N d else nI (N - (d + 1))
def o_cmp (x : Int32) : Ab × Int32 := match ix x 3 with
  | none => (A, -2)
  | some t => match A.tb t with
    | none => (A, -11)
    | some (ty, n, it) => if ty = 2 then (A, cmT A.f it n (A.P.r * A.P.c) (A.P.r * A.P.c)) else (A, -12)
def o_uc : Ab × Int32 := (A, nI A.H.length)
end OPS
