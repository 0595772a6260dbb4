section MORE2
variable {l : Launch} {G : Gd} {b0 : Nat} {y : MethodName} {cc : ByteArray} {nL : Nat} {ret : Option FieldType} {rm : Room} {lay' : Lay} {Post : PT} {mc ms cells slots : Nat} {lay : Lay} {pc q : Nat} {ls : List (Option Value)} {st : List Value} {M : Mem}
theorem S_ialdV {k n i : Nat} {x val : Int32} (hd : decode cc pc = .ok (.iaload, 1)) (hk : lay[k]? = some (.inr (.inl n))) (he : x = nI i) (hi : i < n) (hn : n < 2 ^ 31) (hv : M k i = val) (hq : pc + 1 = q) (k1 : S l G b0 y cc nL ret rm lay' Post mc ms cells slots lay q ls (.int val :: st) M) : S l G b0 y cc nL ret rm lay' Post mc ms cells slots lay pc ls (.int x :: .ref (b0 + k) :: st) M := by
  subst hv
  exact S_ialdE hd hk he hi hn hq k1
theorem S_forget {ls' : List (Option Value)} (hl : ls'.length = ls.length) (h : ∀ (i : Nat) (v : Value), ls'[i]? = some (some v) → ls[i]? = some (some v)) (k : S l G b0 y cc nL ret rm lay' Post mc ms cells slots lay pc ls' st M) : S l G b0 y cc nL ret rm lay' Post mc ms cells slots lay pc ls st M := by
  intro p e s m args below meth c F hb hz H locs la hw hs hL
  exact k p e s m args below meth c F hb hz H locs la hw hs ⟨hL.1, hL.2.1, by rw [hl]; exact hL.2.2.1, fun i v hi => hL.2.2.2 i v (h i v hi)⟩
theorem S_fgt0 {a : Option Value} {t : List (Option Value)} (k : S l G b0 y cc nL ret rm lay' Post mc ms cells slots lay pc (none :: t) st M) : S l G b0 y cc nL ret rm lay' Post mc ms cells slots lay pc (a :: t) st M := by
  refine S_forget (by simp) (fun i v h => ?_) k
  rcases Nat.lt_trichotomy i 0 with z | z | z
  · omega
  · subst z; simp at h
  · obtain ⟨d, rfl⟩ : ∃ d, i = 1 + d := ⟨i - 1, by omega⟩
    have e1 : 1 + d = d + 1 := by omega
    rw [e1] at h ⊢
    simpa using h
theorem S_fgt1 {a0 : Option Value} {a : Option Value} {t : List (Option Value)} (k : S l G b0 y cc nL ret rm lay' Post mc ms cells slots lay pc (a0 :: none :: t) st M) : S l G b0 y cc nL ret rm lay' Post mc ms cells slots lay pc (a0 :: a :: t) st M := by
  refine S_forget (by simp) (fun i v h => ?_) k
  rcases Nat.lt_trichotomy i 1 with z | z | z
  · rcases (show i = 0 by omega) with rfl <;> exact h
  · subst z; simp at h
  · obtain ⟨d, rfl⟩ : ∃ d, i = 2 + d := ⟨i - 2, by omega⟩
    have e1 : 2 + d = d + 1 + 1 := by omega
    rw [e1] at h ⊢
    simpa using h
theorem S_fgt2 {a0 a1 : Option Value} {a : Option Value} {t : List (Option Value)} (k : S l G b0 y cc nL ret rm lay' Post mc ms cells slots lay pc (a0 :: a1 :: none :: t) st M) : S l G b0 y cc nL ret rm lay' Post mc ms cells slots lay pc (a0 :: a1 :: a :: t) st M := by
  refine S_forget (by simp) (fun i v h => ?_) k
  rcases Nat.lt_trichotomy i 2 with z | z | z
  · rcases (show i = 0 ∨ i = 1 by omega) with rfl | rfl <;> exact h
  · subst z; simp at h
  · obtain ⟨d, rfl⟩ : ∃ d, i = 3 + d := ⟨i - 3, by omega⟩
    have e1 : 3 + d = d + 1 + 1 + 1 := by omega
    rw [e1] at h ⊢
    simpa using h
theorem S_fgt3 {a0 a1 a2 : Option Value} {a : Option Value} {t : List (Option Value)} (k : S l G b0 y cc nL ret rm lay' Post mc ms cells slots lay pc (a0 :: a1 :: a2 :: none :: t) st M) : S l G b0 y cc nL ret rm lay' Post mc ms cells slots lay pc (a0 :: a1 :: a2 :: a :: t) st M := by
  refine S_forget (by simp) (fun i v h => ?_) k
  rcases Nat.lt_trichotomy i 3 with z | z | z
  · rcases (show i = 0 ∨ i = 1 ∨ i = 2 by omega) with rfl | rfl | rfl <;> exact h
  · subst z; simp at h
  · obtain ⟨d, rfl⟩ : ∃ d, i = 4 + d := ⟨i - 4, by omega⟩
    have e1 : 4 + d = d + 1 + 1 + 1 + 1 := by omega
    rw [e1] at h ⊢
    simpa using h
theorem S_fgt4 {a0 a1 a2 a3 : Option Value} {a : Option Value} {t : List (Option Value)} (k : S l G b0 y cc nL ret rm lay' Post mc ms cells slots lay pc (a0 :: a1 :: a2 :: a3 :: none :: t) st M) : S l G b0 y cc nL ret rm lay' Post mc ms cells slots lay pc (a0 :: a1 :: a2 :: a3 :: a :: t) st M := by
  refine S_forget (by simp) (fun i v h => ?_) k
  rcases Nat.lt_trichotomy i 4 with z | z | z
  · rcases (show i = 0 ∨ i = 1 ∨ i = 2 ∨ i = 3 by omega) with rfl | rfl | rfl | rfl <;> exact h
  · subst z; simp at h
  · obtain ⟨d, rfl⟩ : ∃ d, i = 5 + d := ⟨i - 5, by omega⟩
    have e1 : 5 + d = d + 1 + 1 + 1 + 1 + 1 := by omega
    rw [e1] at h ⊢
    simpa using h
theorem S_fgt5 {a0 a1 a2 a3 a4 : Option Value} {a : Option Value} {t : List (Option Value)} (k : S l G b0 y cc nL ret rm lay' Post mc ms cells slots lay pc (a0 :: a1 :: a2 :: a3 :: a4 :: none :: t) st M) : S l G b0 y cc nL ret rm lay' Post mc ms cells slots lay pc (a0 :: a1 :: a2 :: a3 :: a4 :: a :: t) st M := by
  refine S_forget (by simp) (fun i v h => ?_) k
  rcases Nat.lt_trichotomy i 5 with z | z | z
  · rcases (show i = 0 ∨ i = 1 ∨ i = 2 ∨ i = 3 ∨ i = 4 by omega) with rfl | rfl | rfl | rfl | rfl <;> exact h
  · subst z; simp at h
  · obtain ⟨d, rfl⟩ : ∃ d, i = 6 + d := ⟨i - 6, by omega⟩
    have e1 : 6 + d = d + 1 + 1 + 1 + 1 + 1 + 1 := by omega
    rw [e1] at h ⊢
    simpa using h
theorem S_fgt6 {a0 a1 a2 a3 a4 a5 : Option Value} {a : Option Value} {t : List (Option Value)} (k : S l G b0 y cc nL ret rm lay' Post mc ms cells slots lay pc (a0 :: a1 :: a2 :: a3 :: a4 :: a5 :: none :: t) st M) : S l G b0 y cc nL ret rm lay' Post mc ms cells slots lay pc (a0 :: a1 :: a2 :: a3 :: a4 :: a5 :: a :: t) st M := by
  refine S_forget (by simp) (fun i v h => ?_) k
  rcases Nat.lt_trichotomy i 6 with z | z | z
  · rcases (show i = 0 ∨ i = 1 ∨ i = 2 ∨ i = 3 ∨ i = 4 ∨ i = 5 by omega) with rfl | rfl | rfl | rfl | rfl | rfl <;> exact h
  · subst z; simp at h
  · obtain ⟨d, rfl⟩ : ∃ d, i = 7 + d := ⟨i - 7, by omega⟩
    have e1 : 7 + d = d + 1 + 1 + 1 + 1 + 1 + 1 + 1 := by omega
    rw [e1] at h ⊢
    simpa using h
theorem S_fgt7 {a0 a1 a2 a3 a4 a5 a6 : Option Value} {a : Option Value} {t : List (Option Value)} (k : S l G b0 y cc nL ret rm lay' Post mc ms cells slots lay pc (a0 :: a1 :: a2 :: a3 :: a4 :: a5 :: a6 :: none :: t) st M) : S l G b0 y cc nL ret rm lay' Post mc ms cells slots lay pc (a0 :: a1 :: a2 :: a3 :: a4 :: a5 :: a6 :: a :: t) st M := by
  refine S_forget (by simp) (fun i v h => ?_) k
  rcases Nat.lt_trichotomy i 7 with z | z | z
  · rcases (show i = 0 ∨ i = 1 ∨ i = 2 ∨ i = 3 ∨ i = 4 ∨ i = 5 ∨ i = 6 by omega) with rfl | rfl | rfl | rfl | rfl | rfl | rfl <;> exact h
  · subst z; simp at h
  · obtain ⟨d, rfl⟩ : ∃ d, i = 8 + d := ⟨i - 8, by omega⟩
    have e1 : 8 + d = d + 1 + 1 + 1 + 1 + 1 + 1 + 1 + 1 := by omega
    rw [e1] at h ⊢
    simpa using h
end MORE2
