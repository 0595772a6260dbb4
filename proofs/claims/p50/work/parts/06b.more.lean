section MORE
variable {l : Launch} {G : Gd} {b0 : Nat} {y : MethodName} {cc : ByteArray} {nL : Nat} {ret : Option FieldType} {rm : Room} {lay' : Lay} {Post : PT} {mc ms cells slots : Nat} {lay : Lay} {pc q : Nat} {ls : List (Option Value)} {st : List Value} {M : Mem}
theorem S_ialdE {k n i : Nat} {x : Int32} (hd : decode cc pc = .ok (.iaload, 1)) (hk : lay[k]? = some (.inr (.inl n))) (he : x = nI i) (hi : i < n) (hn : n < 2 ^ 31) (hq : pc + 1 = q) (k1 : S l G b0 y cc nL ret rm lay' Post mc ms cells slots lay q ls (.int (M k i) :: st) M) : S l G b0 y cc nL ret rm lay' Post mc ms cells slots lay pc ls (.int x :: .ref (b0 + k) :: st) M := by
  subst he
  refine S_iald hd hk (vp_in_nI hi hn) hq ?_
  rw [nI_clamp (Nat.lt_trans hi hn)]
  exact k1
theorem S_iastE {k n i : Nat} {x z : Int32} (hd : decode cc pc = .ok (.iastore, 1)) (hk : lay[k]? = some (.inr (.inl n))) (he : x = nI i) (hi : i < n) (hn : n < 2 ^ 31) (hq : pc + 1 = q) (k1 : S l G b0 y cc nL ret rm lay' Post mc ms cells slots lay q ls st (up M k i z)) : S l G b0 y cc nL ret rm lay' Post mc ms cells slots lay pc ls (.int z :: .int x :: .ref (b0 + k) :: st) M := by
  subst he
  refine S_iast hd hk (vp_in_nI hi hn) hq ?_
  rw [nI_clamp (Nat.lt_trans hi hn)]
  exact k1
end MORE
theorem inc1 (i : Nat) : nI i + Int32.ofInt 1 = nI (i + 1) := nI_1 i
theorem dec1 (i : Nat) : nI (i + 1) + Int32.ofInt (-1) = nI i := pk_m1 i
