/-! THE REFERENCE'S ENUMERATION, cell by cell, is the class's, run by run -/
section ENU
variable (n R : Nat) (len col mk : Nat → Nat)
/-- d cells left, j runs whole, b cells of the next, the color before -/
def enu : Nat → Nat → Nat → Nat → List (List Nat)
  | 0, j, _, _ => if j < R then [] else [[]]
  | d + 1, j, b, pv => (if b = 0 ∧ (mk (n - (d + 1))).testBit 0 = true then (enu d j 0 0).map (fun t => 0 :: t) else []) ++
      (if j < R ∧ (mk (n - (d + 1))).testBit (col j) = true ∧ ¬ (b = 0 ∧ pv = col j) then ((if b + 1 = len j then enu d (j + 1) 0 (col j) else enu d j (b + 1) (col j))).map (fun t => col j :: t) else [])
variable {n R len col mk}
/-- inside a run: only its color -/
theorem enu_in (hlc : ∀ j, j < R → 1 ≤ len j ∧ 1 ≤ col j) {j : Nat} (hj : j < R) : ∀ (e b d pv : Nat), len j - b = e + 1 → 0 < b → d ≤ n → enu n R len col mk d j b pv = if ∀ o, o < e + 1 → n - d + o < n ∧ (mk (n - d + o)).testBit (col j) = true then (enu n R len col mk (d - (e + 1)) (j + 1) 0 (col j)).map (fun t => List.replicate (e + 1) (col j) ++ t) else [] := by
  intro e
  induction e with
  | zero =>
    intro b d pv hb h0 hd
    cases d with
    | zero => rw [enu, if_pos hj, if_neg (fun y => absurd (y 0 (by decide)).1 (by omega))]
    | succ d =>
      rw [enu, if_neg (fun y => absurd y.1 (by omega)), List.nil_append]
      by_cases c : (mk (n - (d + 1))).testBit (col j) = true
      · rw [if_pos ⟨hj, c, fun y => absurd y.1 (by omega)⟩, if_pos (show b + 1 = len j by omega), if_pos (fun o ho => by rw [show o = 0 by omega, Nat.add_zero]; exact ⟨by omega, c⟩)]
        rfl
      · rw [if_neg (fun y => c y.2.1), if_neg (fun y => c (by have := (y 0 (by decide)).2; rwa [Nat.add_zero] at this))]
  | succ e ih =>
    intro b d pv hb h0 hd
    cases d with
    | zero => rw [enu, if_pos hj, if_neg (fun y => absurd (y 0 (Nat.succ_pos _)).1 (by omega))]
    | succ d =>
      rw [enu, if_neg (fun y => absurd y.1 (by omega)), List.nil_append]
      by_cases c : (mk (n - (d + 1))).testBit (col j) = true
      · rw [if_pos ⟨hj, c, fun y => absurd y.1 (by omega)⟩, if_neg (show ¬ b + 1 = len j by omega), ih (b + 1) d (col j) (by omega) (by omega) (by omega)]
        by_cases a : ∀ o, o < e + 1 → n - d + o < n ∧ (mk (n - d + o)).testBit (col j) = true
        · rw [if_pos a, if_pos (fun o ho => by
            cases o with
            | zero => rw [Nat.add_zero]; exact ⟨by omega, c⟩
            | succ o =>
              have := a o (by omega)
              rw [show n - (d + 1) + (o + 1) = n - d + o by omega]
              exact this), List.map_map, show d + 1 - (e + 1 + 1) = d - (e + 1) by omega]
          rfl
        · rw [if_neg a, if_neg (fun y => a (fun o ho => by
            have := y (o + 1) (by omega)
            rw [show n - (d + 1) + (o + 1) = n - d + o by omega] at this
            exact this))]
          rfl
      · rw [if_neg (fun y => c y.2.1), if_neg (fun y => c (by have := (y 0 (Nat.succ_pos _)).2; rwa [Nat.add_zero] at this))]
theorem enu_asg (hlc : ∀ j, j < R → 1 ≤ len j ∧ 1 ≤ col j) : ∀ (d p j pv : Nat), n - p = d → p ≤ n → j ≤ R → (j < R → pv ≠ col j) → enu n R len col mk d j 0 pv = asg n R len col mk j p := by
  intro d
  induction d using Nat.strongRecOn with
  | ind d ih =>
    intro p j pv hd hp hj hpv
    cases d with
    | zero =>
      have e : p = n := by omega
      subst e
      rw [enu, asg, dif_neg (Nat.lt_irrefl _)]
      by_cases h : j < R
      · rw [if_pos h, if_neg (fun y => absurd y.2 (by omega))]
      · rw [if_neg h, if_pos ⟨rfl, by omega⟩]
    | succ d =>
      have hpn : p < n := by omega
      have ep : n - (d + 1) = p := by omega
      rw [enu, asg, dif_pos hpn, ep]
      congr 1
      · by_cases h : (mk p).testBit 0 = true
        · rw [if_pos ⟨rfl, h⟩, if_pos (pos_tb 0 p |>.mpr ⟨hpn, h⟩), ih d (by omega) (p + 1) j 0 (by omega) (by omega) hj (fun y => by have := (hlc j y).2; omega)]
        · rw [if_neg (fun y => h y.2), if_neg (fun y => h ((pos_tb 0 p).mp y).2)]
      · by_cases hjR : j < R
        · obtain ⟨hl, hc⟩ := hlc j hjR
          have hst := stt_tb (n := n) (R := R) (col := col) (mk := mk) (p := p) hl
          -- the whole run
          have hrun : (if j < R ∧ (mk p).testBit (col j) = true ∧ ¬ (0 = 0 ∧ pv = col j) then ((if 0 + 1 = len j then enu n R len col mk d (j + 1) 0 (col j) else enu n R len col mk d j (0 + 1) (col j))).map (fun t => col j :: t) else []) = if ∀ o, o < len j → p + o < n ∧ (mk (p + o)).testBit (col j) = true then (enu n R len col mk (d + 1 - len j) (j + 1) 0 (col j)).map (fun t => List.replicate (len j) (col j) ++ t) else [] := by
            by_cases c : (mk p).testBit (col j) = true
            · rw [if_pos ⟨hjR, c, fun y => hpv hjR y.2⟩]
              by_cases e1 : 0 + 1 = len j
              · rw [if_pos e1, ← e1, if_pos (fun o ho => by rw [show o = 0 by omega]; exact ⟨hpn, c⟩)]
                rfl
              · rw [if_neg e1, enu_in hlc hjR (len j - 2) 1 d (col j) (by omega) (by decide) (by omega)]
                by_cases a : ∀ o, o < len j - 2 + 1 → n - d + o < n ∧ (mk (n - d + o)).testBit (col j) = true
                · rw [if_pos a, if_pos (fun o ho => by
                    cases o with
                    | zero => exact ⟨hpn, c⟩
                    | succ o =>
                      have := a o (by omega)
                      rw [show n - d + o = p + (o + 1) by omega] at this
                      exact this), List.map_map, show d + 1 - len j = d - (len j - 2 + 1) by omega]
                  have e2 : len j = len j - 2 + 1 + 1 := by omega
                  have e3 : List.replicate (len j) (col j) = col j :: List.replicate (len j - 2 + 1) (col j) := by rw [e2]; rfl
                  rw [e3]
                  rfl
                · rw [if_neg a, if_neg (fun y => a (fun o ho => by
                    have := y (o + 1) (by omega)
                    rw [show p + (o + 1) = n - d + o by omega] at this
                    exact this))]
                  rfl
            · rw [if_neg (fun y => c y.2.1), if_neg (fun y => c (y 0 (by omega)).2)]
          rw [hrun]
          by_cases a : ∀ o, o < len j → p + o < n ∧ (mk (p + o)).testBit (col j) = true
          · have hpl : p + len j ≤ n := by have := (a (len j - 1) (by omega)).1; omega
            rw [if_pos a]
            by_cases g : gp R col j = true
            · have hg := of_decide_eq_true g
              by_cases w : p + len j < n ∧ (mk (p + len j)).testBit 0 = true
              · have hs : (stt n R len col mk j).testBit p = true := hst.mpr ⟨a, fun _ => w⟩
                have e1 : d + 1 - len j = (d - len j) + 1 := by omega
                rw [dif_pos ⟨hjR, hs, hl⟩, e1, enu, show n - (d - len j + 1) = p + len j by omega, if_pos ⟨rfl, w.2⟩, if_neg (fun y => y.2.2 ⟨rfl, hg.2⟩), List.append_nil, ih (d - len j) (by omega) (p + len j + 1) (j + 1) 0 (by omega) (by omega) (by omega) (fun y => by have := (hlc (j + 1) y).2; omega), List.map_map]
                have e2 : spn R len col j = len j + 1 := by unfold spn; rw [if_pos g]
                have e3 : blk R len col j = List.replicate (len j) (col j) ++ [0] := by unfold blk; rw [if_pos g]
                rw [e2, e3, show p + (len j + 1) = p + len j + 1 by omega]
                refine List.map_congr_left (fun t _ => ?_)
                show List.replicate (len j) (col j) ++ (0 :: t) = List.replicate (len j) (col j) ++ [0] ++ t
                rw [List.append_assoc]; rfl
              · rw [dif_neg (fun y => w ((hst.mp y.2.1).2 g))]
                have e0 : enu n R len col mk (d + 1 - len j) (j + 1) 0 (col j) = [] := by
                  cases e4 : d + 1 - len j with
                  | zero => rw [enu, if_pos hg.1]
                  | succ q =>
                    rw [enu, show n - (q + 1) = p + len j by omega, if_neg (fun y => w ⟨by omega, y.2⟩), if_neg (fun y => y.2.2 ⟨rfl, hg.2⟩)]
                    rfl
                rw [e0]; rfl
            · have hs : (stt n R len col mk j).testBit p = true := hst.mpr ⟨a, fun y => absurd y g⟩
              have e2 : spn R len col j = len j := by unfold spn; rw [if_neg g]; rfl
              have e3 : blk R len col j = List.replicate (len j) (col j) := by unfold blk; rw [if_neg g, List.append_nil]
              rw [dif_pos ⟨hjR, hs, hl⟩, e2, e3, ih (d + 1 - len j) (by omega) (p + len j) (j + 1) (col j) (by omega) hpl (by omega) (fun y e => g (decide_eq_true ⟨y, e⟩))]
          · rw [if_neg a, dif_neg (fun y => a (hst.mp y.2.1).1)]
        · rw [if_neg (fun y => hjR y.1), dif_neg (fun y => hjR y.1)]
/-- all of them -/
theorem enu_all (hlc : ∀ j, j < R → 1 ≤ len j ∧ 1 ≤ col j) : enu n R len col mk n 0 0 0 = asg n R len col mk 0 0 := enu_asg hlc n 0 0 0 (Nat.sub_zero n) (Nat.zero_le n) (Nat.zero_le R) (fun y e => by have := (hlc 0 y).2; omega)
end ENU
/-! what a leaf does: the colors seen, how many, the one asked for -/
abbrev LSt : Type := (Nat → Nat) × Nat × Int32
def leaf (n : Nat) (ask : Int32) (ap : Nat) (S : LSt) (t : List Nat) : LSt := (fun i => if i < n then S.1 i ||| 2 ^ t.getD i 0 else S.1 i, S.2.1 + 1, if nI S.2.1 = ask then nI (t.getD ap 0) else S.2.2)
def leafs (n : Nat) (ask : Int32) (ap : Nat) (L : List (List Nat)) (S : LSt) : LSt := L.foldl (leaf n ask ap) S
theorem leafs_nil {n : Nat} {ask : Int32} {ap : Nat} {S : LSt} : leafs n ask ap [] S = S := rfl
theorem leafs_app {n : Nat} {ask : Int32} {ap : Nat} {L1 L2 : List (List Nat)} {S : LSt} : leafs n ask ap (L1 ++ L2) S = leafs n ask ap L2 (leafs n ask ap L1 S) := List.foldl_append
theorem leafs_n {n : Nat} {ask : Int32} {ap : Nat} : ∀ (L : List (List Nat)) (S : LSt), (leafs n ask ap L S).2.1 = S.2.1 + L.length
  | [], S => rfl
  | t :: L, S => by
    show (leafs n ask ap L (leaf n ask ap S t)).2.1 = _
    rw [leafs_n L]
    show S.2.1 + 1 + L.length = S.2.1 + (L.length + 1)
    omega
theorem leafs_sn {n : Nat} {ask : Int32} {ap i k : Nat} : ∀ (L : List (List Nat)) (S : LSt), i < n → (((leafs n ask ap L S).1 i).testBit k = true ↔ (S.1 i).testBit k = true ∨ ∃ t ∈ L, t.getD i 0 = k)
  | [], S, _ => ⟨fun h => .inl h, fun h => h.elim id (fun ⟨t, ht, _⟩ => by cases ht)⟩
  | t :: L, S, hi => by
    show ((leafs n ask ap L (leaf n ask ap S t)).1 i).testBit k = true ↔ _
    rw [leafs_sn L _ hi]
    have e : (leaf n ask ap S t).1 i = S.1 i ||| 2 ^ t.getD i 0 := if_pos hi
    rw [e, Nat.testBit_or, Nat.testBit_two_pow, Bool.or_eq_true, decide_eq_true_eq]
    constructor
    · rintro ((h | h) | ⟨u, hu, h⟩)
      · exact .inl h
      · exact .inr ⟨t, List.mem_cons_self, h⟩
      · exact .inr ⟨u, List.mem_cons_of_mem _ hu, h⟩
    · rintro (h | ⟨u, hu, h⟩)
      · exact .inl (.inl h)
      · rcases List.mem_cons.mp hu with rfl | hu
        · exact .inl (.inr h)
        · exact .inr ⟨u, hu, h⟩
theorem leafs_ans {n m ap : Nat} (hm : m < 2 ^ 31) : ∀ (L : List (List Nat)) (S : LSt), S.2.1 + L.length < 2 ^ 31 → S.2.1 ≤ m → m < S.2.1 + L.length → (leafs n (nI m) ap L S).2.2 = nI ((L.getD (m - S.2.1) []).getD ap 0)
  | [], S, _, h1, h2 => absurd h2 (by simp only [List.length_nil]; omega)
  | t :: L, S, h0, h1, h2 => by
    simp only [List.length_cons] at h0 h2
    show (leafs n (nI m) ap L (leaf n (nI m) ap S t)).2.2 = _
    have hc : (leaf n (nI m) ap S t).2.1 = S.2.1 + 1 := rfl
    by_cases e : S.2.1 = m
    · have hk : ∀ (L : List (List Nat)) (S : LSt), S.2.1 + L.length < 2 ^ 31 → m < S.2.1 → (leafs n (nI m) ap L S).2.2 = S.2.2 := by
        intro L
        induction L with
        | nil => intro S _ _; rfl
        | cons u L ih =>
          intro S h3 h4
          simp only [List.length_cons] at h3
          show (leafs n (nI m) ap L (leaf n (nI m) ap S u)).2.2 = _
          rw [ih _ (show S.2.1 + 1 + L.length < 2 ^ 31 by omega) (show m < S.2.1 + 1 by omega)]
          exact if_neg (fun y => absurd (nI_inj (by omega) (by omega) y) (by omega))
      rw [hk L _ (by rw [hc]; omega) (by rw [hc]; omega), show m - S.2.1 = 0 by omega]
      exact if_pos (by rw [e])
    · rw [leafs_ans hm L _ (by rw [hc]; omega) (by rw [hc]; omega) (by rw [hc]; omega), hc, show m - S.2.1 = m - (S.2.1 + 1) + 1 by omega]
      rfl
