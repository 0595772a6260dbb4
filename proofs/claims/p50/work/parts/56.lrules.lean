/-! THE LAW'S RULES: the engine's, with the script at hand, and any end -/
def SL (b L : Nat) (xs : Nat → Int32) (l : Launch) (G : Gd) (b0 : Nat) (y : MethodName) (cc : ByteArray) (nL : Nat) (ret : Option FieldType) (rm : Room) (Q : Array Value → State → Outcome → State → Prop) (mc ms cells slots : Nat) (lay : Lay) (pc : Nat) (ls : List (Option Value)) (st : List Value) (M : Mem) : Prop :=
  ∀ (p : Program) (e : Env) (s : State) (m : MethodId) (args : Array Value) (below : List Frame) (meth : Method) (c : Code), Fx G y cc nL ret p s m args meth c → (va_X b L xs s s.heap ∧ b < b0 ∧ b < s.heap.size) → b0 ≤ s.heap.size → s.heap.size + cells = b0 + lay.length →
  ∀ (H : Heap) (locs : List Loc) (la : Array Slot), WD G b0 lay M H → va_S (fun q => b0 ≤ q) s.heap H locs → LH la nL ls →
  W p l e rm s m args below meth c H locs cells slots (MQ below Q args s mc ms (fun q => b0 ≤ q)) (F0 m pc la st)
section LWR
variable {b L : Nat} {xs : Nat → Int32} {l : Launch} {G : Gd} {b0 : Nat} {y : MethodName} {cc : ByteArray} {nL : Nat} {ret : Option FieldType} {rm : Room} {Q : Array Value → State → Outcome → State → Prop} {mc ms cells slots : Nat} {lay : Lay} {pc q : Nat} {ls : List (Option Value)} {st : List Value} {M : Mem}
theorem L_iadd {x z : Int32} (hd : decode cc pc = .ok (.iadd, 1)) (hq : pc + 1 = q) (k : SL b L xs l G b0 y cc nL ret rm Q mc ms cells slots lay q ls (.int (x + z) :: st) M) : SL b L xs l G b0 y cc nL ret rm Q mc ms cells slots lay pc ls (.int z :: .int x :: st) M := by
  subst hq; intro p e s m args below meth c F hX hb hz H locs la hw hs hl; exact lv_iadd F.1 F.2.1 hd (k p e s m args below meth c F hX hb hz H locs la hw hs hl)
theorem L_imul {x z : Int32} (hd : decode cc pc = .ok (.imul, 1)) (hq : pc + 1 = q) (k : SL b L xs l G b0 y cc nL ret rm Q mc ms cells slots lay q ls (.int (x * z) :: st) M) : SL b L xs l G b0 y cc nL ret rm Q mc ms cells slots lay pc ls (.int z :: .int x :: st) M := by
  subst hq; intro p e s m args below meth c F hX hb hz H locs la hw hs hl; exact lv_imul F.1 F.2.1 hd (k p e s m args below meth c F hX hb hz H locs la hw hs hl)
theorem L_iand {x z : Int32} (hd : decode cc pc = .ok (.iand, 1)) (hq : pc + 1 = q) (k : SL b L xs l G b0 y cc nL ret rm Q mc ms cells slots lay q ls (.int (x &&& z) :: st) M) : SL b L xs l G b0 y cc nL ret rm Q mc ms cells slots lay pc ls (.int z :: .int x :: st) M := by
  subst hq; intro p e s m args below meth c F hX hb hz H locs la hw hs hl; exact lv_iand F.1 F.2.1 hd (k p e s m args below meth c F hX hb hz H locs la hw hs hl)
theorem L_ixor {x z : Int32} (hd : decode cc pc = .ok (.ixor, 1)) (hq : pc + 1 = q) (k : SL b L xs l G b0 y cc nL ret rm Q mc ms cells slots lay q ls (.int (x ^^^ z) :: st) M) : SL b L xs l G b0 y cc nL ret rm Q mc ms cells slots lay pc ls (.int z :: .int x :: st) M := by
  subst hq; intro p e s m args below meth c F hX hb hz H locs la hw hs hl; exact lv_ixor F.1 F.2.1 hd (k p e s m args below meth c F hX hb hz H locs la hw hs hl)
theorem L_idiv {x z : Int32} (hd : decode cc pc = .ok (.idiv, 1)) (hne : ¬ z = 0) (hq : pc + 1 = q) (k : SL b L xs l G b0 y cc nL ret rm Q mc ms cells slots lay q ls (.int (x / z) :: st) M) : SL b L xs l G b0 y cc nL ret rm Q mc ms cells slots lay pc ls (.int z :: .int x :: st) M := by
  subst hq; intro p e s m args below meth c F hX hb hz H locs la hw hs hl; exact lv_idiv F.1 F.2.1 hd hne (k p e s m args below meth c F hX hb hz H locs la hw hs hl)
theorem L_irem {x z : Int32} (hd : decode cc pc = .ok (.irem, 1)) (hne : ¬ z = 0) (hq : pc + 1 = q) (k : SL b L xs l G b0 y cc nL ret rm Q mc ms cells slots lay q ls (.int (x - x / z * z) :: st) M) : SL b L xs l G b0 y cc nL ret rm Q mc ms cells slots lay pc ls (.int z :: .int x :: st) M := by
  subst hq; intro p e s m args below meth c F hX hb hz H locs la hw hs hl; exact lv_irem F.1 F.2.1 hd hne (k p e s m args below meth c F hX hb hz H locs la hw hs hl)
theorem L_iushr {x z : Int32} (hd : decode cc pc = .ok (.iushr, 1)) (hq : pc + 1 = q) (k : SL b L xs l G b0 y cc nL ret rm Q mc ms cells slots lay q ls (.int ((x.toUInt32 >>> (z.toUInt32 &&& Int32.toUInt32 31)).toInt32) :: st) M) : SL b L xs l G b0 y cc nL ret rm Q mc ms cells slots lay pc ls (.int z :: .int x :: st) M := by
  subst hq; intro p e s m args below meth c F hX hb hz H locs la hw hs hl; exact lv_iushr F.1 F.2.1 hd rfl (k p e s m args below meth c F hX hb hz H locs la hw hs hl)
theorem L_iconst {n : Int} (v : Int32) (hd : decode cc pc = .ok (.iconst n, 1)) (hv : Int32.ofInt n = v) (hq : pc + 1 = q) (k : SL b L xs l G b0 y cc nL ret rm Q mc ms cells slots lay q ls (.int v :: st) M) : SL b L xs l G b0 y cc nL ret rm Q mc ms cells slots lay pc ls st M := by
  subst hq; intro p e s m args below meth c F hX hb hz H locs la hw hs hl; exact lv_iconst F.1 F.2.1 hd hv (k p e s m args below meth c F hX hb hz H locs la hw hs hl)
theorem L_bipush {n : Int} (v : Int32) (hd : decode cc pc = .ok (.bipush n, 2)) (hv : (Int8.ofInt n).toInt32 = v) (hq : pc + 2 = q) (k : SL b L xs l G b0 y cc nL ret rm Q mc ms cells slots lay q ls (.int v :: st) M) : SL b L xs l G b0 y cc nL ret rm Q mc ms cells slots lay pc ls st M := by
  subst hq; intro p e s m args below meth c F hX hb hz H locs la hw hs hl; exact lv_bipush F.1 F.2.1 hd hv (k p e s m args below meth c F hX hb hz H locs la hw hs hl)
theorem L_sipush {n : Int} (v : Int32) (hd : decode cc pc = .ok (.sipush n, 3)) (hv : (Int16.ofInt n).toInt32 = v) (hq : pc + 3 = q) (k : SL b L xs l G b0 y cc nL ret rm Q mc ms cells slots lay q ls (.int v :: st) M) : SL b L xs l G b0 y cc nL ret rm Q mc ms cells slots lay pc ls st M := by
  subst hq; intro p e s m args below meth c F hX hb hz H locs la hw hs hl; exact lv_sipush F.1 F.2.1 hd hv (k p e s m args below meth c F hX hb hz H locs la hw hs hl)
theorem L_ldc {idx : Nat} (v : Int32) (hd : decode cc pc = .ok (.ldc idx, 2)) (hc : Cond.constant y.cls idx v ∈ TG) (hq : pc + 2 = q) (k : SL b L xs l G b0 y cc nL ret rm Q mc ms cells slots lay q ls (.int v :: st) M) : SL b L xs l G b0 y cc nL ret rm Q mc ms cells slots lay pc ls st M := by
  subst hq; intro p e s m args below meth c F hX hb hz H locs la hw hs hl; exact lv_ldc F.1 F.2.1 F.2.2.2.2.1 (F.2.2.2.2.2.1 _ hc) hd (k p e s m args below meth c F hX hb hz H locs la hw hs hl)
theorem L_dup {v : Value} (hd : decode cc pc = .ok (.dup, 1)) (hv : v.category = 1) (hq : pc + 1 = q) (k : SL b L xs l G b0 y cc nL ret rm Q mc ms cells slots lay q ls (v :: v :: st) M) : SL b L xs l G b0 y cc nL ret rm Q mc ms cells slots lay pc ls (v :: st) M := by
  subst hq; intro p e s m args below meth c F hX hb hz H locs la hw hs hl; exact lv_dup F.1 F.2.1 hd hv (k p e s m args below meth c F hX hb hz H locs la hw hs hl)
theorem L_goto {off : Int} {t : Nat} (hd : decode cc pc = .ok (.goto off, 3)) (ht : (pc : Int) + off = (t : Int)) (k : SL b L xs l G b0 y cc nL ret rm Q mc ms cells slots lay t ls st M) : SL b L xs l G b0 y cc nL ret rm Q mc ms cells slots lay pc ls st M := by
  intro p e s m args below meth c F hX hb hz H locs la hw hs hl; exact lv_goto F.1 F.2.1 hd ht (k p e s m args below meth c F hX hb hz H locs la hw hs hl)
theorem L_icmp_eq {x z : Int32} {off : Int} {t : Nat} (hd : decode cc pc = .ok (.if_icmp .eq off, 3)) (ht : (pc : Int) + off = (t : Int)) (hq : pc + 3 = q) (kt : x = z → SL b L xs l G b0 y cc nL ret rm Q mc ms cells slots lay t ls st M) (kf : ¬ (x = z) → SL b L xs l G b0 y cc nL ret rm Q mc ms cells slots lay q ls st M) : SL b L xs l G b0 y cc nL ret rm Q mc ms cells slots lay pc ls (.int z :: .int x :: st) M := by
  subst hq; intro p e s m args below meth c F hX hb hz H locs la hw hs hl; exact lv_icmp_eq F.1 F.2.1 hd ht (fun h => kt h p e s m args below meth c F hX hb hz H locs la hw hs hl) (fun h => kf h p e s m args below meth c F hX hb hz H locs la hw hs hl)
theorem L_if_eq {x : Int32} {off : Int} {t : Nat} (hd : decode cc pc = .ok (.ifCond .eq off, 3)) (ht : (pc : Int) + off = (t : Int)) (hq : pc + 3 = q) (kt : x = 0 → SL b L xs l G b0 y cc nL ret rm Q mc ms cells slots lay t ls st M) (kf : ¬ (x = 0) → SL b L xs l G b0 y cc nL ret rm Q mc ms cells slots lay q ls st M) : SL b L xs l G b0 y cc nL ret rm Q mc ms cells slots lay pc ls (.int x :: st) M := by
  subst hq; intro p e s m args below meth c F hX hb hz H locs la hw hs hl; exact lv_if_eq F.1 F.2.1 hd ht (fun h => kt h p e s m args below meth c F hX hb hz H locs la hw hs hl) (fun h => kf h p e s m args below meth c F hX hb hz H locs la hw hs hl)
theorem L_icmp_ne {x z : Int32} {off : Int} {t : Nat} (hd : decode cc pc = .ok (.if_icmp .ne off, 3)) (ht : (pc : Int) + off = (t : Int)) (hq : pc + 3 = q) (kt : ¬ x = z → SL b L xs l G b0 y cc nL ret rm Q mc ms cells slots lay t ls st M) (kf : x = z → SL b L xs l G b0 y cc nL ret rm Q mc ms cells slots lay q ls st M) : SL b L xs l G b0 y cc nL ret rm Q mc ms cells slots lay pc ls (.int z :: .int x :: st) M := by
  subst hq; intro p e s m args below meth c F hX hb hz H locs la hw hs hl; exact lv_icmp_ne F.1 F.2.1 hd ht (fun h => kt h p e s m args below meth c F hX hb hz H locs la hw hs hl) (fun h => kf h p e s m args below meth c F hX hb hz H locs la hw hs hl)
theorem L_if_ne {x : Int32} {off : Int} {t : Nat} (hd : decode cc pc = .ok (.ifCond .ne off, 3)) (ht : (pc : Int) + off = (t : Int)) (hq : pc + 3 = q) (kt : ¬ x = 0 → SL b L xs l G b0 y cc nL ret rm Q mc ms cells slots lay t ls st M) (kf : x = 0 → SL b L xs l G b0 y cc nL ret rm Q mc ms cells slots lay q ls st M) : SL b L xs l G b0 y cc nL ret rm Q mc ms cells slots lay pc ls (.int x :: st) M := by
  subst hq; intro p e s m args below meth c F hX hb hz H locs la hw hs hl; exact lv_if_ne F.1 F.2.1 hd ht (fun h => kt h p e s m args below meth c F hX hb hz H locs la hw hs hl) (fun h => kf h p e s m args below meth c F hX hb hz H locs la hw hs hl)
theorem L_if_lt {x : Int32} {off : Int} {t : Nat} (hd : decode cc pc = .ok (.ifCond .lt off, 3)) (ht : (pc : Int) + off = (t : Int)) (hq : pc + 3 = q) (kt : x < 0 → SL b L xs l G b0 y cc nL ret rm Q mc ms cells slots lay t ls st M) (kf : ¬ (x < 0) → SL b L xs l G b0 y cc nL ret rm Q mc ms cells slots lay q ls st M) : SL b L xs l G b0 y cc nL ret rm Q mc ms cells slots lay pc ls (.int x :: st) M := by
  subst hq; intro p e s m args below meth c F hX hb hz H locs la hw hs hl; exact lv_if_lt F.1 F.2.1 hd ht (fun h => kt h p e s m args below meth c F hX hb hz H locs la hw hs hl) (fun h => kf h p e s m args below meth c F hX hb hz H locs la hw hs hl)
theorem L_icmp_ge {x z : Int32} {off : Int} {t : Nat} (hd : decode cc pc = .ok (.if_icmp .ge off, 3)) (ht : (pc : Int) + off = (t : Int)) (hq : pc + 3 = q) (kt : z ≤ x → SL b L xs l G b0 y cc nL ret rm Q mc ms cells slots lay t ls st M) (kf : ¬ (z ≤ x) → SL b L xs l G b0 y cc nL ret rm Q mc ms cells slots lay q ls st M) : SL b L xs l G b0 y cc nL ret rm Q mc ms cells slots lay pc ls (.int z :: .int x :: st) M := by
  subst hq; intro p e s m args below meth c F hX hb hz H locs la hw hs hl; exact lv_icmp_ge F.1 F.2.1 hd ht (fun h => kt h p e s m args below meth c F hX hb hz H locs la hw hs hl) (fun h => kf h p e s m args below meth c F hX hb hz H locs la hw hs hl)
theorem L_if_ge {x : Int32} {off : Int} {t : Nat} (hd : decode cc pc = .ok (.ifCond .ge off, 3)) (ht : (pc : Int) + off = (t : Int)) (hq : pc + 3 = q) (kt : 0 ≤ x → SL b L xs l G b0 y cc nL ret rm Q mc ms cells slots lay t ls st M) (kf : ¬ (0 ≤ x) → SL b L xs l G b0 y cc nL ret rm Q mc ms cells slots lay q ls st M) : SL b L xs l G b0 y cc nL ret rm Q mc ms cells slots lay pc ls (.int x :: st) M := by
  subst hq; intro p e s m args below meth c F hX hb hz H locs la hw hs hl; exact lv_if_ge F.1 F.2.1 hd ht (fun h => kt h p e s m args below meth c F hX hb hz H locs la hw hs hl) (fun h => kf h p e s m args below meth c F hX hb hz H locs la hw hs hl)
theorem L_iload_n {j : Fin 4} {i : Nat} {x : Int32} (hd : decode cc pc = .ok (.iload_n j, 1)) (hi : (j : Nat) = i) (hv : ls[i]? = some (some (.int x))) (hq : pc + 1 = q) (k : SL b L xs l G b0 y cc nL ret rm Q mc ms cells slots lay q ls (.int x :: st) M) : SL b L xs l G b0 y cc nL ret rm Q mc ms cells slots lay pc ls st M := by
  subst hq; intro p e s m args below meth c F hX hb hz H locs la hw hs hl; exact lv_iload_n F.1 F.2.1 hd hi (hl.at hv) (k p e s m args below meth c F hX hb hz H locs la hw hs hl)
theorem L_iload {i : Nat} {x : Int32} (hd : decode cc pc = .ok (.iload i, 2)) (hv : ls[i]? = some (some (.int x))) (hq : pc + 2 = q) (k : SL b L xs l G b0 y cc nL ret rm Q mc ms cells slots lay q ls (.int x :: st) M) : SL b L xs l G b0 y cc nL ret rm Q mc ms cells slots lay pc ls st M := by
  subst hq; intro p e s m args below meth c F hX hb hz H locs la hw hs hl; exact lv_iload F.1 F.2.1 hd (hl.at hv) (k p e s m args below meth c F hX hb hz H locs la hw hs hl)
theorem L_aload_n {j : Fin 4} {i : Nat} {x : Nat} (hd : decode cc pc = .ok (.aload_n j, 1)) (hi : (j : Nat) = i) (hv : ls[i]? = some (some (.ref x))) (hq : pc + 1 = q) (k : SL b L xs l G b0 y cc nL ret rm Q mc ms cells slots lay q ls (.ref x :: st) M) : SL b L xs l G b0 y cc nL ret rm Q mc ms cells slots lay pc ls st M := by
  subst hq; intro p e s m args below meth c F hX hb hz H locs la hw hs hl; exact lv_aload_n F.1 F.2.1 hd hi (hl.at hv) (k p e s m args below meth c F hX hb hz H locs la hw hs hl)
theorem L_aload {i : Nat} {x : Nat} (hd : decode cc pc = .ok (.aload i, 2)) (hv : ls[i]? = some (some (.ref x))) (hq : pc + 2 = q) (k : SL b L xs l G b0 y cc nL ret rm Q mc ms cells slots lay q ls (.ref x :: st) M) : SL b L xs l G b0 y cc nL ret rm Q mc ms cells slots lay pc ls st M := by
  subst hq; intro p e s m args below meth c F hX hb hz H locs la hw hs hl; exact lv_aload F.1 F.2.1 hd (hl.at hv) (k p e s m args below meth c F hX hb hz H locs la hw hs hl)
theorem L_istore_n {j : Fin 4} {i : Nat} {x : Int32} (hd : decode cc pc = .ok (.istore_n j, 1)) (hi : (j : Nat) = i) (hv : i < ls.length) (hq : pc + 1 = q) (k : SL b L xs l G b0 y cc nL ret rm Q mc ms cells slots lay q (ls.set i (some (.int x))) st M) : SL b L xs l G b0 y cc nL ret rm Q mc ms cells slots lay pc ls (.int x :: st) M := by
  subst hq; intro p e s m args below meth c F hX hb hz H locs la hw hs hl
  exact lv_istore_n F.1 F.2.1 hd hi hl.lv (hl.lt hv) rfl (fun la' h' => k p e s m args below meth c F hX hb hz H locs la' hw hs (hl.put hv rfl h'))
theorem L_istore {i : Nat} {x : Int32} (hd : decode cc pc = .ok (.istore i, 2)) (hv : i < ls.length) (hq : pc + 2 = q) (k : SL b L xs l G b0 y cc nL ret rm Q mc ms cells slots lay q (ls.set i (some (.int x))) st M) : SL b L xs l G b0 y cc nL ret rm Q mc ms cells slots lay pc ls (.int x :: st) M := by
  subst hq; intro p e s m args below meth c F hX hb hz H locs la hw hs hl
  exact lv_istore F.1 F.2.1 hd hl.lv (hl.lt hv) rfl (fun la' h' => k p e s m args below meth c F hX hb hz H locs la' hw hs (hl.put hv rfl h'))
theorem L_astore_n {j : Fin 4} {i : Nat} {x : Nat} (hd : decode cc pc = .ok (.astore_n j, 1)) (hi : (j : Nat) = i) (hv : i < ls.length) (hq : pc + 1 = q) (k : SL b L xs l G b0 y cc nL ret rm Q mc ms cells slots lay q (ls.set i (some (.ref x))) st M) : SL b L xs l G b0 y cc nL ret rm Q mc ms cells slots lay pc ls (.ref x :: st) M := by
  subst hq; intro p e s m args below meth c F hX hb hz H locs la hw hs hl
  exact lv_astore_n F.1 F.2.1 hd hi hl.lv (hl.lt hv) rfl (fun la' h' => k p e s m args below meth c F hX hb hz H locs la' hw hs (hl.put hv rfl h'))
theorem L_astore {i : Nat} {x : Nat} (hd : decode cc pc = .ok (.astore i, 2)) (hv : i < ls.length) (hq : pc + 2 = q) (k : SL b L xs l G b0 y cc nL ret rm Q mc ms cells slots lay q (ls.set i (some (.ref x))) st M) : SL b L xs l G b0 y cc nL ret rm Q mc ms cells slots lay pc ls (.ref x :: st) M := by
  subst hq; intro p e s m args below meth c F hX hb hz H locs la hw hs hl
  exact lv_astore F.1 F.2.1 hd hl.lv (hl.lt hv) rfl (fun la' h' => k p e s m args below meth c F hX hb hz H locs la' hw hs (hl.put hv rfl h'))
theorem L_iinc {i : Nat} {n : Int} {x : Int32} (v : Int32) (hd : decode cc pc = .ok (.iinc i n, 3)) (hx : ls[i]? = some (some (.int x))) (hv : x + Int32.ofInt n = v) (hq : pc + 3 = q) (k : SL b L xs l G b0 y cc nL ret rm Q mc ms cells slots lay q (ls.set i (some (.int v))) st M) : SL b L xs l G b0 y cc nL ret rm Q mc ms cells slots lay pc ls st M := by
  subst hq; intro p e s m args below meth c F hX hb hz H locs la hw hs hl
  obtain ⟨j, hj⟩ := hl.pick hx
  have hi := (List.getElem?_eq_some_iff.mp hx).1
  exact lv_iinc F.1 F.2.1 hd hl.lv hj hv (hl.lt hi) rfl (fun la' h' => k p e s m args below meth c F hX hb hz H locs la' hw hs (hl.put hi rfl h'))
theorem L_aload_0 {x : Nat} {t : List (Option Value)} (hd : decode cc pc = .ok (.aload_n 0, 1)) (hq : pc + 1 = q) (k : SL b L xs l G b0 y cc nL ret rm Q mc ms cells slots lay q (some (.ref x) :: t) (.ref x :: st) M) : SL b L xs l G b0 y cc nL ret rm Q mc ms cells slots lay pc (some (.ref x) :: t) st M := L_aload_n hd rfl rfl hq k
theorem L_iload_1 {x : Int32} {a0 : Option Value} {t : List (Option Value)} (hd : decode cc pc = .ok (.iload_n 1, 1)) (hq : pc + 1 = q) (k : SL b L xs l G b0 y cc nL ret rm Q mc ms cells slots lay q (a0 :: some (.int x) :: t) (.int x :: st) M) : SL b L xs l G b0 y cc nL ret rm Q mc ms cells slots lay pc (a0 :: some (.int x) :: t) st M := L_iload_n hd rfl rfl hq k
theorem L_aload_1 {x : Nat} {a0 : Option Value} {t : List (Option Value)} (hd : decode cc pc = .ok (.aload_n 1, 1)) (hq : pc + 1 = q) (k : SL b L xs l G b0 y cc nL ret rm Q mc ms cells slots lay q (a0 :: some (.ref x) :: t) (.ref x :: st) M) : SL b L xs l G b0 y cc nL ret rm Q mc ms cells slots lay pc (a0 :: some (.ref x) :: t) st M := L_aload_n hd rfl rfl hq k
theorem L_istore_1 {x : Int32} {a0 : Option Value} {a : Option Value} {t : List (Option Value)} (hd : decode cc pc = .ok (.istore_n 1, 1)) (hq : pc + 1 = q) (k : SL b L xs l G b0 y cc nL ret rm Q mc ms cells slots lay q (a0 :: some (.int x) :: t) st M) : SL b L xs l G b0 y cc nL ret rm Q mc ms cells slots lay pc (a0 :: a :: t) (.int x :: st) M := L_istore_n hd rfl (by simp only [List.length_cons]; omega) hq k
theorem L_astore_1 {x : Nat} {a0 : Option Value} {a : Option Value} {t : List (Option Value)} (hd : decode cc pc = .ok (.astore_n 1, 1)) (hq : pc + 1 = q) (k : SL b L xs l G b0 y cc nL ret rm Q mc ms cells slots lay q (a0 :: some (.ref x) :: t) st M) : SL b L xs l G b0 y cc nL ret rm Q mc ms cells slots lay pc (a0 :: a :: t) (.ref x :: st) M := L_astore_n hd rfl (by simp only [List.length_cons]; omega) hq k
theorem L_iload_2 {x : Int32} {a0 a1 : Option Value} {t : List (Option Value)} (hd : decode cc pc = .ok (.iload_n 2, 1)) (hq : pc + 1 = q) (k : SL b L xs l G b0 y cc nL ret rm Q mc ms cells slots lay q (a0 :: a1 :: some (.int x) :: t) (.int x :: st) M) : SL b L xs l G b0 y cc nL ret rm Q mc ms cells slots lay pc (a0 :: a1 :: some (.int x) :: t) st M := L_iload_n hd rfl rfl hq k
theorem L_aload_2 {x : Nat} {a0 a1 : Option Value} {t : List (Option Value)} (hd : decode cc pc = .ok (.aload_n 2, 1)) (hq : pc + 1 = q) (k : SL b L xs l G b0 y cc nL ret rm Q mc ms cells slots lay q (a0 :: a1 :: some (.ref x) :: t) (.ref x :: st) M) : SL b L xs l G b0 y cc nL ret rm Q mc ms cells slots lay pc (a0 :: a1 :: some (.ref x) :: t) st M := L_aload_n hd rfl rfl hq k
theorem L_istore_2 {x : Int32} {a0 a1 : Option Value} {a : Option Value} {t : List (Option Value)} (hd : decode cc pc = .ok (.istore_n 2, 1)) (hq : pc + 1 = q) (k : SL b L xs l G b0 y cc nL ret rm Q mc ms cells slots lay q (a0 :: a1 :: some (.int x) :: t) st M) : SL b L xs l G b0 y cc nL ret rm Q mc ms cells slots lay pc (a0 :: a1 :: a :: t) (.int x :: st) M := L_istore_n hd rfl (by simp only [List.length_cons]; omega) hq k
theorem L_astore_2 {x : Nat} {a0 a1 : Option Value} {a : Option Value} {t : List (Option Value)} (hd : decode cc pc = .ok (.astore_n 2, 1)) (hq : pc + 1 = q) (k : SL b L xs l G b0 y cc nL ret rm Q mc ms cells slots lay q (a0 :: a1 :: some (.ref x) :: t) st M) : SL b L xs l G b0 y cc nL ret rm Q mc ms cells slots lay pc (a0 :: a1 :: a :: t) (.ref x :: st) M := L_astore_n hd rfl (by simp only [List.length_cons]; omega) hq k
theorem L_iinc_2 {n : Int} {x : Int32} {a0 a1 : Option Value} {t : List (Option Value)} (v : Int32) (hd : decode cc pc = .ok (.iinc 2 n, 3)) (hv : x + Int32.ofInt n = v) (hq : pc + 3 = q) (k : SL b L xs l G b0 y cc nL ret rm Q mc ms cells slots lay q (a0 :: a1 :: some (.int v) :: t) st M) : SL b L xs l G b0 y cc nL ret rm Q mc ms cells slots lay pc (a0 :: a1 :: some (.int x) :: t) st M := L_iinc v hd rfl hv hq k
theorem L_iload_3 {x : Int32} {a0 a1 a2 : Option Value} {t : List (Option Value)} (hd : decode cc pc = .ok (.iload_n 3, 1)) (hq : pc + 1 = q) (k : SL b L xs l G b0 y cc nL ret rm Q mc ms cells slots lay q (a0 :: a1 :: a2 :: some (.int x) :: t) (.int x :: st) M) : SL b L xs l G b0 y cc nL ret rm Q mc ms cells slots lay pc (a0 :: a1 :: a2 :: some (.int x) :: t) st M := L_iload_n hd rfl rfl hq k
theorem L_istore_3 {x : Int32} {a0 a1 a2 : Option Value} {a : Option Value} {t : List (Option Value)} (hd : decode cc pc = .ok (.istore_n 3, 1)) (hq : pc + 1 = q) (k : SL b L xs l G b0 y cc nL ret rm Q mc ms cells slots lay q (a0 :: a1 :: a2 :: some (.int x) :: t) st M) : SL b L xs l G b0 y cc nL ret rm Q mc ms cells slots lay pc (a0 :: a1 :: a2 :: a :: t) (.int x :: st) M := L_istore_n hd rfl (by simp only [List.length_cons]; omega) hq k
theorem L_iload_4 {x : Int32} {a0 a1 a2 a3 : Option Value} {t : List (Option Value)} (hd : decode cc pc = .ok (.iload 4, 2)) (hq : pc + 2 = q) (k : SL b L xs l G b0 y cc nL ret rm Q mc ms cells slots lay q (a0 :: a1 :: a2 :: a3 :: some (.int x) :: t) (.int x :: st) M) : SL b L xs l G b0 y cc nL ret rm Q mc ms cells slots lay pc (a0 :: a1 :: a2 :: a3 :: some (.int x) :: t) st M := L_iload hd rfl hq k
theorem L_istore_4 {x : Int32} {a0 a1 a2 a3 : Option Value} {a : Option Value} {t : List (Option Value)} (hd : decode cc pc = .ok (.istore 4, 2)) (hq : pc + 2 = q) (k : SL b L xs l G b0 y cc nL ret rm Q mc ms cells slots lay q (a0 :: a1 :: a2 :: a3 :: some (.int x) :: t) st M) : SL b L xs l G b0 y cc nL ret rm Q mc ms cells slots lay pc (a0 :: a1 :: a2 :: a3 :: a :: t) (.int x :: st) M := L_istore hd (by simp only [List.length_cons]; omega) hq k
theorem L_iinc_4 {n : Int} {x : Int32} {a0 a1 a2 a3 : Option Value} {t : List (Option Value)} (v : Int32) (hd : decode cc pc = .ok (.iinc 4 n, 3)) (hv : x + Int32.ofInt n = v) (hq : pc + 3 = q) (k : SL b L xs l G b0 y cc nL ret rm Q mc ms cells slots lay q (a0 :: a1 :: a2 :: a3 :: some (.int v) :: t) st M) : SL b L xs l G b0 y cc nL ret rm Q mc ms cells slots lay pc (a0 :: a1 :: a2 :: a3 :: some (.int x) :: t) st M := L_iinc v hd rfl hv hq k
theorem L_iload_5 {x : Int32} {a0 a1 a2 a3 a4 : Option Value} {t : List (Option Value)} (hd : decode cc pc = .ok (.iload 5, 2)) (hq : pc + 2 = q) (k : SL b L xs l G b0 y cc nL ret rm Q mc ms cells slots lay q (a0 :: a1 :: a2 :: a3 :: a4 :: some (.int x) :: t) (.int x :: st) M) : SL b L xs l G b0 y cc nL ret rm Q mc ms cells slots lay pc (a0 :: a1 :: a2 :: a3 :: a4 :: some (.int x) :: t) st M := L_iload hd rfl hq k
theorem L_aload_5 {x : Nat} {a0 a1 a2 a3 a4 : Option Value} {t : List (Option Value)} (hd : decode cc pc = .ok (.aload 5, 2)) (hq : pc + 2 = q) (k : SL b L xs l G b0 y cc nL ret rm Q mc ms cells slots lay q (a0 :: a1 :: a2 :: a3 :: a4 :: some (.ref x) :: t) (.ref x :: st) M) : SL b L xs l G b0 y cc nL ret rm Q mc ms cells slots lay pc (a0 :: a1 :: a2 :: a3 :: a4 :: some (.ref x) :: t) st M := L_aload hd rfl hq k
theorem L_istore_5 {x : Int32} {a0 a1 a2 a3 a4 : Option Value} {a : Option Value} {t : List (Option Value)} (hd : decode cc pc = .ok (.istore 5, 2)) (hq : pc + 2 = q) (k : SL b L xs l G b0 y cc nL ret rm Q mc ms cells slots lay q (a0 :: a1 :: a2 :: a3 :: a4 :: some (.int x) :: t) st M) : SL b L xs l G b0 y cc nL ret rm Q mc ms cells slots lay pc (a0 :: a1 :: a2 :: a3 :: a4 :: a :: t) (.int x :: st) M := L_istore hd (by simp only [List.length_cons]; omega) hq k
theorem L_astore_5 {x : Nat} {a0 a1 a2 a3 a4 : Option Value} {a : Option Value} {t : List (Option Value)} (hd : decode cc pc = .ok (.astore 5, 2)) (hq : pc + 2 = q) (k : SL b L xs l G b0 y cc nL ret rm Q mc ms cells slots lay q (a0 :: a1 :: a2 :: a3 :: a4 :: some (.ref x) :: t) st M) : SL b L xs l G b0 y cc nL ret rm Q mc ms cells slots lay pc (a0 :: a1 :: a2 :: a3 :: a4 :: a :: t) (.ref x :: st) M := L_astore hd (by simp only [List.length_cons]; omega) hq k
theorem L_iload_6 {x : Int32} {a0 a1 a2 a3 a4 a5 : Option Value} {t : List (Option Value)} (hd : decode cc pc = .ok (.iload 6, 2)) (hq : pc + 2 = q) (k : SL b L xs l G b0 y cc nL ret rm Q mc ms cells slots lay q (a0 :: a1 :: a2 :: a3 :: a4 :: a5 :: some (.int x) :: t) (.int x :: st) M) : SL b L xs l G b0 y cc nL ret rm Q mc ms cells slots lay pc (a0 :: a1 :: a2 :: a3 :: a4 :: a5 :: some (.int x) :: t) st M := L_iload hd rfl hq k
theorem L_istore_6 {x : Int32} {a0 a1 a2 a3 a4 a5 : Option Value} {a : Option Value} {t : List (Option Value)} (hd : decode cc pc = .ok (.istore 6, 2)) (hq : pc + 2 = q) (k : SL b L xs l G b0 y cc nL ret rm Q mc ms cells slots lay q (a0 :: a1 :: a2 :: a3 :: a4 :: a5 :: some (.int x) :: t) st M) : SL b L xs l G b0 y cc nL ret rm Q mc ms cells slots lay pc (a0 :: a1 :: a2 :: a3 :: a4 :: a5 :: a :: t) (.int x :: st) M := L_istore hd (by simp only [List.length_cons]; omega) hq k
theorem L_iinc_6 {n : Int} {x : Int32} {a0 a1 a2 a3 a4 a5 : Option Value} {t : List (Option Value)} (v : Int32) (hd : decode cc pc = .ok (.iinc 6 n, 3)) (hv : x + Int32.ofInt n = v) (hq : pc + 3 = q) (k : SL b L xs l G b0 y cc nL ret rm Q mc ms cells slots lay q (a0 :: a1 :: a2 :: a3 :: a4 :: a5 :: some (.int v) :: t) st M) : SL b L xs l G b0 y cc nL ret rm Q mc ms cells slots lay pc (a0 :: a1 :: a2 :: a3 :: a4 :: a5 :: some (.int x) :: t) st M := L_iinc v hd rfl hv hq k
theorem L_iload_7 {x : Int32} {a0 a1 a2 a3 a4 a5 a6 : Option Value} {t : List (Option Value)} (hd : decode cc pc = .ok (.iload 7, 2)) (hq : pc + 2 = q) (k : SL b L xs l G b0 y cc nL ret rm Q mc ms cells slots lay q (a0 :: a1 :: a2 :: a3 :: a4 :: a5 :: a6 :: some (.int x) :: t) (.int x :: st) M) : SL b L xs l G b0 y cc nL ret rm Q mc ms cells slots lay pc (a0 :: a1 :: a2 :: a3 :: a4 :: a5 :: a6 :: some (.int x) :: t) st M := L_iload hd rfl hq k
theorem L_istore_7 {x : Int32} {a0 a1 a2 a3 a4 a5 a6 : Option Value} {a : Option Value} {t : List (Option Value)} (hd : decode cc pc = .ok (.istore 7, 2)) (hq : pc + 2 = q) (k : SL b L xs l G b0 y cc nL ret rm Q mc ms cells slots lay q (a0 :: a1 :: a2 :: a3 :: a4 :: a5 :: a6 :: some (.int x) :: t) st M) : SL b L xs l G b0 y cc nL ret rm Q mc ms cells slots lay pc (a0 :: a1 :: a2 :: a3 :: a4 :: a5 :: a6 :: a :: t) (.int x :: st) M := L_istore hd (by simp only [List.length_cons]; omega) hq k
theorem L_iinc_7 {n : Int} {x : Int32} {a0 a1 a2 a3 a4 a5 a6 : Option Value} {t : List (Option Value)} (v : Int32) (hd : decode cc pc = .ok (.iinc 7 n, 3)) (hv : x + Int32.ofInt n = v) (hq : pc + 3 = q) (k : SL b L xs l G b0 y cc nL ret rm Q mc ms cells slots lay q (a0 :: a1 :: a2 :: a3 :: a4 :: a5 :: a6 :: some (.int v) :: t) st M) : SL b L xs l G b0 y cc nL ret rm Q mc ms cells slots lay pc (a0 :: a1 :: a2 :: a3 :: a4 :: a5 :: a6 :: some (.int x) :: t) st M := L_iinc v hd rfl hv hq k
theorem L_iald {k n : Nat} {i : Int32} (hd : decode cc pc = .ok (.iaload, 1)) (hk : lay[k]? = some (.inr (.inl n))) (hin : vp_in i n) (hq : pc + 1 = q) (k1 : SL b L xs l G b0 y cc nL ret rm Q mc ms cells slots lay q ls (.int (M k i.toNatClampNeg) :: st) M) : SL b L xs l G b0 y cc nL ret rm Q mc ms cells slots lay pc ls (.int i :: .ref (b0 + k) :: st) M := by
  subst hq; intro p e s m args below meth c F hX hb hz H locs la hw hs hl
  exact va_iald F.1 F.2.1 F.2.2.2.2.2.2.2.1 hw k 0 (wl_ar hk) rfl hin hd (k1 p e s m args below meth c F hX hb hz H locs la hw hs hl)
theorem L_iast {k n : Nat} {i x : Int32} (hd : decode cc pc = .ok (.iastore, 1)) (hk : lay[k]? = some (.inr (.inl n))) (hin : vp_in i n) (hq : pc + 1 = q) (k1 : SL b L xs l G b0 y cc nL ret rm Q mc ms cells slots lay q ls st (up M k i.toNatClampNeg x)) : SL b L xs l G b0 y cc nL ret rm Q mc ms cells slots lay pc ls (.int x :: .int i :: .ref (b0 + k) :: st) M := by
  subst hq; intro p e s m args below meth c F hX hb hz H locs la hw hs hl
  refine va_iast F.1 F.2.1 F.2.2.2.2.2.2.2.1 hw wl_D hs k 0 (wl_ar hk) rfl hin hd (fun H1 locs1 hP1 _ hS1 => ?_)
  rw [wl_setA hk] at hP1
  exact k1 p e s m args below meth c F hX hb hz H1 locs1 la hP1 hS1 hl
theorem L_alen {k n : Nat} (hd : decode cc pc = .ok (.arraylength, 1)) (hk : lay[k]? = some (.inr (.inl n))) (hq : pc + 1 = q) (k1 : SL b L xs l G b0 y cc nL ret rm Q mc ms cells slots lay q ls (.int (nI n) :: st) M) : SL b L xs l G b0 y cc nL ret rm Q mc ms cells slots lay pc ls (.ref (b0 + k) :: st) M := by
  subst hq; intro p e s m args below meth c F hX hb hz H locs la hw hs hl
  exact va_alen F.1 F.2.1 F.2.2.2.2.2.2.2.1 hw k 0 (wl_ar hk) (ty := .int) rfl rfl hd (k1 p e s m args below meth c F hX hb hz H locs la hw hs hl)
theorem L_ialdE {k n i : Nat} {x : Int32} (hd : decode cc pc = .ok (.iaload, 1)) (hk : lay[k]? = some (.inr (.inl n))) (he : x = nI i) (hi : i < n) (hn : n < 2 ^ 31) (hq : pc + 1 = q) (k1 : SL b L xs l G b0 y cc nL ret rm Q mc ms cells slots lay q ls (.int (M k i) :: st) M) : SL b L xs l G b0 y cc nL ret rm Q mc ms cells slots lay pc ls (.int x :: .ref (b0 + k) :: st) M := by
  subst he
  refine L_iald hd hk (vp_in_nI hi hn) hq ?_
  rw [nI_clamp (Nat.lt_trans hi hn)]
  exact k1
theorem L_iastE {k n i : Nat} {x z : Int32} (hd : decode cc pc = .ok (.iastore, 1)) (hk : lay[k]? = some (.inr (.inl n))) (he : x = nI i) (hi : i < n) (hn : n < 2 ^ 31) (hq : pc + 1 = q) (k1 : SL b L xs l G b0 y cc nL ret rm Q mc ms cells slots lay q ls st (up M k i z)) : SL b L xs l G b0 y cc nL ret rm Q mc ms cells slots lay pc ls (.int z :: .int x :: .ref (b0 + k) :: st) M := by
  subst he
  refine L_iast hd hk (vp_in_nI hi hn) hq ?_
  rw [nI_clamp (Nat.lt_trans hi hn)]
  exact k1
theorem L_ialdV {k n i : Nat} {x val : Int32} (hd : decode cc pc = .ok (.iaload, 1)) (hk : lay[k]? = some (.inr (.inl n))) (he : x = nI i) (hi : i < n) (hn : n < 2 ^ 31) (hv : M k i = val) (hq : pc + 1 = q) (k1 : SL b L xs l G b0 y cc nL ret rm Q mc ms cells slots lay q ls (.int val :: st) M) : SL b L xs l G b0 y cc nL ret rm Q mc ms cells slots lay pc ls (.int x :: .ref (b0 + k) :: st) M := by
  subst hv
  exact L_ialdE hd hk he hi hn hq k1
theorem L_forget {ls' : List (Option Value)} (hl : ls'.length = ls.length) (h : ∀ (i : Nat) (v : Value), ls'[i]? = some (some v) → ls[i]? = some (some v)) (k : SL b L xs l G b0 y cc nL ret rm Q mc ms cells slots lay pc ls' st M) : SL b L xs l G b0 y cc nL ret rm Q mc ms cells slots lay pc ls st M := by
  intro p e s m args below meth c F hX hb hz H locs la hw hs hL
  exact k p e s m args below meth c F hX hb hz H locs la hw hs ⟨hL.1, hL.2.1, by rw [hl]; exact hL.2.2.1, fun i v hi => hL.2.2.2 i v (h i v hi)⟩
theorem L_fgt3 {a0 a1 a2 : Option Value} {a : Option Value} {t : List (Option Value)} (k : SL b L xs l G b0 y cc nL ret rm Q mc ms cells slots lay pc (a0 :: a1 :: a2 :: none :: t) st M) : SL b L xs l G b0 y cc nL ret rm Q mc ms cells slots lay pc (a0 :: a1 :: a2 :: a :: t) st M := by
  refine L_forget (by simp) (fun i v h => ?_) k
  rcases Nat.lt_trichotomy i 3 with z | z | z
  · rcases (show i = 0 ∨ i = 1 ∨ i = 2 by omega) with rfl | rfl | rfl <;> exact h
  · subst z; simp at h
  · obtain ⟨d, rfl⟩ : ∃ d, i = 4 + d := ⟨i - 4, by omega⟩
    have e1 : 4 + d = d + 1 + 1 + 1 + 1 := by omega
    rw [e1] at h ⊢
    simpa using h
theorem L_fgt4 {a0 a1 a2 a3 : Option Value} {a : Option Value} {t : List (Option Value)} (k : SL b L xs l G b0 y cc nL ret rm Q mc ms cells slots lay pc (a0 :: a1 :: a2 :: a3 :: none :: t) st M) : SL b L xs l G b0 y cc nL ret rm Q mc ms cells slots lay pc (a0 :: a1 :: a2 :: a3 :: a :: t) st M := by
  refine L_forget (by simp) (fun i v h => ?_) k
  rcases Nat.lt_trichotomy i 4 with z | z | z
  · rcases (show i = 0 ∨ i = 1 ∨ i = 2 ∨ i = 3 by omega) with rfl | rfl | rfl | rfl <;> exact h
  · subst z; simp at h
  · obtain ⟨d, rfl⟩ : ∃ d, i = 5 + d := ⟨i - 5, by omega⟩
    have e1 : 5 + d = d + 1 + 1 + 1 + 1 + 1 := by omega
    rw [e1] at h ⊢
    simpa using h
theorem L_fgt5 {a0 a1 a2 a3 a4 : Option Value} {a : Option Value} {t : List (Option Value)} (k : SL b L xs l G b0 y cc nL ret rm Q mc ms cells slots lay pc (a0 :: a1 :: a2 :: a3 :: a4 :: none :: t) st M) : SL b L xs l G b0 y cc nL ret rm Q mc ms cells slots lay pc (a0 :: a1 :: a2 :: a3 :: a4 :: a :: t) st M := by
  refine L_forget (by simp) (fun i v h => ?_) k
  rcases Nat.lt_trichotomy i 5 with z | z | z
  · rcases (show i = 0 ∨ i = 1 ∨ i = 2 ∨ i = 3 ∨ i = 4 by omega) with rfl | rfl | rfl | rfl | rfl <;> exact h
  · subst z; simp at h
  · obtain ⟨d, rfl⟩ : ∃ d, i = 6 + d := ⟨i - 6, by omega⟩
    have e1 : 6 + d = d + 1 + 1 + 1 + 1 + 1 + 1 := by omega
    rw [e1] at h ⊢
    simpa using h
theorem L_fgt6 {a0 a1 a2 a3 a4 a5 : Option Value} {a : Option Value} {t : List (Option Value)} (k : SL b L xs l G b0 y cc nL ret rm Q mc ms cells slots lay pc (a0 :: a1 :: a2 :: a3 :: a4 :: a5 :: none :: t) st M) : SL b L xs l G b0 y cc nL ret rm Q mc ms cells slots lay pc (a0 :: a1 :: a2 :: a3 :: a4 :: a5 :: a :: t) st M := by
  refine L_forget (by simp) (fun i v h => ?_) k
  rcases Nat.lt_trichotomy i 6 with z | z | z
  · rcases (show i = 0 ∨ i = 1 ∨ i = 2 ∨ i = 3 ∨ i = 4 ∨ i = 5 by omega) with rfl | rfl | rfl | rfl | rfl | rfl <;> exact h
  · subst z; simp at h
  · obtain ⟨d, rfl⟩ : ∃ d, i = 7 + d := ⟨i - 7, by omega⟩
    have e1 : 7 + d = d + 1 + 1 + 1 + 1 + 1 + 1 + 1 := by omega
    rw [e1] at h ⊢
    simpa using h
theorem L_fgt7 {a0 a1 a2 a3 a4 a5 a6 : Option Value} {a : Option Value} {t : List (Option Value)} (k : SL b L xs l G b0 y cc nL ret rm Q mc ms cells slots lay pc (a0 :: a1 :: a2 :: a3 :: a4 :: a5 :: a6 :: none :: t) st M) : SL b L xs l G b0 y cc nL ret rm Q mc ms cells slots lay pc (a0 :: a1 :: a2 :: a3 :: a4 :: a5 :: a6 :: a :: t) st M := by
  refine L_forget (by simp) (fun i v h => ?_) k
  rcases Nat.lt_trichotomy i 7 with z | z | z
  · rcases (show i = 0 ∨ i = 1 ∨ i = 2 ∨ i = 3 ∨ i = 4 ∨ i = 5 ∨ i = 6 by omega) with rfl | rfl | rfl | rfl | rfl | rfl | rfl <;> exact h
  · subst z; simp at h
  · obtain ⟨d, rfl⟩ : ∃ d, i = 8 + d := ⟨i - 8, by omega⟩
    have e1 : 8 + d = d + 1 + 1 + 1 + 1 + 1 + 1 + 1 + 1 := by omega
    rw [e1] at h ⊢
    simpa using h
theorem L_new {ci idx N : Nat} {C : String} {T : u_T} {dl : List (Option (Option Nat))} {ty : Nat → FieldType} (hd : decode cc pc = .ok (.new idx, 3)) (hc : vwCl[ci]? = some (C, T, N)) (hin : ∀ w ∈ u_ws C T N, w ∈ TG) (hty : ∀ k, k < N → parseFieldDescriptor (T k).2.2.1 = some (ty k)) (h1 : Cond.classLink y.cls idx C ∈ TG) (h2 : Cond.instantiable C N ∈ TG) (h3 : Cond.initialized C ∈ TG) (hdf : ∀ j, j < N → defaultValue (ty j) = vp_V (dl.mapIdx (fun j x => fv b0 (fun _ => 0) j x)) j) (hC : cells + 1 ≤ rm.cells) (hS : slots + N ≤ rm.slots) (hq : pc + 3 = q) (k1 : SL b L xs l G b0 y cc nL ret rm Q mc ms (cells + 1) (slots + N) (lay ++ [.inl (ci, dl)]) q ls (.ref (b0 + lay.length) :: st) (upA M lay.length (fun _ => 0))) : SL b L xs l G b0 y cc nL ret rm Q mc ms cells slots lay pc ls st M := by
  subst hq; intro p e s m args below meth c F hX hb hz H locs la hw hs hl
  refine W_size fun h9 => ?_
  have hsz := WD.ex hb hz hw hs.1 h9
  have hts := F.2.2.2.2.2.1
  have hK := F.2.2.2.2.2.2.2.1
  have hKn := hK.1 ci _ hc
  refine W.newcK F.1 F.2.1 F.2.2.2.2.1 (hts _ h1) (hts _ h2) (hts _ h3) rfl hd hC hS hKn.2.1 hsz fun H1 kC hkC e1 z1 o1 => ?_
  have hP1 : WD G b0 (lay ++ [.inl (ci, dl)]) (upA M lay.length (fun _ => 0)) H1 := by
    unfold WD
    rw [wl_app]
    refine (hw.kept fun k x hx => o1 x.1 (by rw [← hsz]; exact (hw k x hx).lt)).app (fun k x hx => ?_)
    have hz1 : k < 1 := (List.getElem?_eq_some_iff.mp hx).1
    rw [show k = 0 by omega] at hx
    cases hx
    exact ⟨_, hc, (u_born ty hts hin hKn hkC e1 hty).to hdf⟩
  exact k1 p e s m args below meth c F hX hb (by rw [List.length_append]; simp only [List.length_cons, List.length_nil]; omega) H1 locs la hP1 ⟨Nat.le_trans hs.1 (by omega), fun x a1 a2 => (o1 x (by have := hs.1; omega)).trans (hs.2.1 x a1 a2), hs.2.2⟩ hl
theorem L_newarr {n : Nat} {x : Int32} (hd : decode cc pc = .ok (.newarray .int, 2)) (h1 : Cond.arrayClass .int ∈ TG) (hx : x = nI n) (hn : n ≤ 100000) (hC : cells + 1 ≤ rm.cells) (hS : slots + n ≤ rm.slots) (hq : pc + 2 = q) (k1 : SL b L xs l G b0 y cc nL ret rm Q mc ms (cells + 1) (slots + n) (lay ++ [.inr (.inl n)]) q ls (.ref (b0 + lay.length) :: st) (upA M lay.length (fun _ => 0))) : SL b L xs l G b0 y cc nL ret rm Q mc ms cells slots lay pc ls (.int x :: st) M := by
  subst hq hx; intro p e s m args below meth c F hX hb hz H locs la hw hs hl
  refine W_size fun h9 => ?_
  have hsz := WD.ex hb hz hw hs.1 h9
  have hts := F.2.2.2.2.2.1
  have hK := F.2.2.2.2.2.2.2.1
  have h0 : ¬ nI n < 0 := fun z => absurd (nI_pos' (show n < 2 ^ 31 by omega)) (Int32.not_le.mpr z)
  refine va_newaK (atype := .int) F.1 F.2.1 (hts _ h1) rfl hd rfl h0 (nI_clamp (show n < 2 ^ 31 by omega)) (show n * 4 ≤ 536870912 by omega) hC hS hsz fun H1 cA e1 z1 o1 hAr hNm => ?_
  have hcA : cA = G.2.1 := by
    have h2 : s.vm.findClass ("[" ++ (FieldType.int).toString) = some G.2.1 := (hK.2 0 _ rfl).2
    exact Option.some.inj (hNm.symm.trans h2)
  subst hcA
  have hP1 : WD G b0 (lay ++ [.inr (.inl n)]) (upA M lay.length (fun _ => 0)) H1 := by
    unfold WD
    rw [wl_app]
    refine (hw.kept fun k x hx => o1 x.1 (by rw [← hsz]; exact (hw k x hx).lt)).app (fun k x hx => ?_)
    have hz1 : k < 1 := (List.getElem?_eq_some_iff.mp hx).1
    rw [show k = 0 by omega] at hx
    cases hx
    exact e1
  exact k1 p e s m args below meth c F hX hb (by rw [List.length_append]; simp only [List.length_cons, List.length_nil]; omega) H1 locs la hP1 ⟨Nat.le_trans hs.1 (by omega), fun x a1 a2 => (o1 x (by have := hs.1; omega)).trans (hs.2.1 x a1 a2), hs.2.2⟩ hl
theorem L_iret {lay' : Lay} {Post : PT} {v : Int32} {ty : FieldType} (hret : ret = some ty) (hd : decode cc pc = .ok (.ireturn, 1)) (hn : narrow ty (.int v) = .int v) (hlay : lay = lay') (hp : Post v M) : SL b L xs l G b0 y cc nL ret rm (QC G b0 ret lay' Post) mc ms mc ms lay pc ls [.int v] M := by
  subst hlay; intro p e s m args below meth c F hX hb hz H locs la hw hs hl
  refine W_size fun h9 => ?_
  refine W.zret (v := v) (ty := ty) F.1 F.2.1 (F.2.2.1.trans hret) hn (fun t ht hW => ⟨⟨v, M, by rw [hret]; rfl, hp, ?_, by rw [ht]; exact hw, va_K.moved hW.alike F.2.2.2.2.2.2.2.1, NW.warm hW F.2.2.2.2.2.2.2.2.1⟩, hs.F ht⟩) hs.2.2 hd F.2.2.2.2.2.2.1
  rw [ht]
  exact WD.ex hb hz hw hs.1 h9
theorem L_end {v : Int32} {ty : FieldType} (hret : ret = some ty) (hd : decode cc pc = .ok (.ireturn, 1)) (hn : narrow ty (.int v) = .int v) (hc1 : cells ≤ mc) (hc2 : slots ≤ ms) (hQ : Q = fun _ _ oc _ => oc = .returned (some (.int v))) : SL b L xs l G b0 y cc nL ret rm Q mc ms cells slots lay pc ls [.int v] M := by
  subst hQ; intro p e s m args below meth c F hX hb hz H locs la hw hs hl
  exact W.widen hc1 hc2 (W.zret (v := v) (ty := ty) F.1 F.2.1 (F.2.2.1.trans hret) hn (fun t ht hW => rfl) hs.2.2 hd F.2.2.2.2.2.2.1)
theorem L_slen (hd : decode cc pc = .ok (.arraylength, 1)) (hq : pc + 1 = q) (k1 : SL b L xs l G b0 y cc nL ret rm Q mc ms cells slots lay q ls (.int (nI L) :: st) M) : SL b L xs l G b0 y cc nL ret rm Q mc ms cells slots lay pc ls (.ref b :: st) M := by
  subst hq; intro p e s m args below meth c F hX hb hz H locs la hw hs hl
  exact va_slen F.1 F.2.1 hX.1 hX.2.2 (Nat.not_le.mpr hX.2.1) hs hd (k1 p e s m args below meth c F hX hb hz H locs la hw hs hl)
theorem L_sld {i : Nat} {x : Int32} (hd : decode cc pc = .ok (.iaload, 1)) (he : x = nI i) (hi : i < L) (hL : L ≤ 2048) (hq : pc + 1 = q) (k1 : SL b L xs l G b0 y cc nL ret rm Q mc ms cells slots lay q ls (.int (xs i) :: st) M) : SL b L xs l G b0 y cc nL ret rm Q mc ms cells slots lay pc ls (.int x :: .ref b :: st) M := by
  subst hq he; intro p e s m args below meth c F hX hb hz H locs la hw hs hl
  refine va_sld F.1 F.2.1 hX.1 hX.2.2 (Nat.not_le.mpr hX.2.1) hs (vp_in_nI hi (by omega)) hd ?_
  rw [nI_clamp (show i < 2 ^ 31 by omega)]
  exact k1 p e s m args below meth c F hX hb hz H locs la hw hs hl
theorem L_lay {lay1 : Lay} (h : lay = lay1) (k : SL b L xs l G b0 y cc nL ret rm Q mc ms cells slots lay1 pc ls st M) : SL b L xs l G b0 y cc nL ret rm Q mc ms cells slots lay pc ls st M := by
  subst h
  exact k
/-- a contract of a method that reads the script -/
def CtX (b L : Nat) (xs : Nat → Int32) (l : Launch) (G : Gd) (b0 : Nat) (y : MethodName) (cc : ByteArray) (nL : Nat) (ret : Option FieldType) (rm : Room) (lay lay' : Lay) (M : Mem) (vs : List Value) (Post : PT) : Prop := Met l y (.code y cc nL ret :: TG) rm (va_Pc vs (fun U => World G b0 lay M U ∧ va_X b L xs U U.heap ∧ b < b0 ∧ b < U.heap.size)) (QC G b0 ret lay' Post) rm.cells rm.slots (fun q => b0 ≤ q)
theorem CtX.of {lay' : Lay} {Post : PT} {vs : List Value} (ls0 : List (Option Value)) (hy : plainName y.cls = true) (hlen : vs.length ≤ nL) (hcat : vs.all (fun v => v.category == 1) = true) (hls : vs.map some ++ List.replicate (nL - vs.length) none = ls0) (k : SL b L xs l G b0 y cc nL ret rm (QC G b0 ret lay' Post) rm.cells rm.slots 0 0 lay 0 ls0 [] M) : CtX b L xs l G b0 y cc nL ret rm lay lay' M vs Post := by
  refine Met.ofW (cc := cc) (maxL := nL) (ret := ret) hy rfl ?_
  intro p e s m args below meth c s₁ B hml hv
  obtain ⟨rfl, ⟨hz, hw, hK, hN⟩, hX⟩ := hv
  have hts := atoms_spec (ws := .code y cc nL ret :: TG) B.pre
  rw [lg_entry_eq]
  exact k p e s m _ below meth c ⟨B.exec, B.bytes, B.returns, hml, findClass_of_methodNamed B.named, fun w h => hts w (List.mem_cons_of_mem _ h), B.notSynchronized, hK, hN, (name_of_methodNamed B.named B.method).1⟩ hX (by omega) (by omega) s.heap [] _ hw va_S.rf (hls ▸ LH_entry hlen hcat)
theorem CtX.blind {vs : List Value} : FrameBlind (va_Pc vs (fun U => World G b0 lay M U ∧ va_X b L xs U U.heap ∧ b < b0 ∧ b < U.heap.size)) := fun a U g mk q => ⟨q.1, ⟨q.2.1.1, q.2.1.2.1, va_K.moved (u := U) (U := U.calling g mk a) (Vm.Alike.refl U.vm) q.2.1.2.2.1, NW.same (u := U) (U := U.calling g mk a) rfl q.2.1.2.2.2⟩, va_X.moved (u := U) (U := U.calling g mk a) (Vm.Alike.refl U.vm) q.2.2.1, q.2.2.2⟩
variable {y' : MethodName} {cc' : ByteArray} {n' : Nat} {rm' : Room} {lay1 : Lay} {Post' : PT}
theorem L_callV0i {k ci N : Nat} {C : String} {T : u_T} {fs : List (Option (Option Nat))} {idx : Nat} {ty : FieldType} {rest : List Value} (hd : decode cc pc = .ok (.invokevirtual idx, 3)) (hL : LkV y.cls idx y' cc' n' (some ty) 0) (hk : lay[k]? = some (.inl (ci, fs))) (hc : vwCl[ci]? = some (C, T, N)) (hcl : y'.cls = C) (hM : Ct l G b0 y' cc' n' (some ty) rm' lay lay M [.ref (b0 + k)] Post') (h0 : rm'.cells = 0) (h00 : rm'.slots = 0) (hW : (rest.map fun v => v.category).sum ≤ 8) (hR : rm'.frames + 1 ≤ rm.frames ∧ 8 + (n' + 11) + rm'.locals ≤ rm.locals) (hC : cells + rm'.cells ≤ rm.cells ∧ slots + rm'.slots ≤ rm.slots) (hq : pc + 3 = q) (kk : ∀ (v : Int32) (M' : Mem), Post' v M' → SL b L xs l G b0 y cc nL ret rm Q mc ms cells slots lay q ls (.int v :: rest) M') : SL b L xs l G b0 y cc nL ret rm Q mc ms cells slots lay pc ls (.ref (b0 + k) :: rest) M := by
  subst hq
  intro p e s m args below meth c F hX hb hz H locs la hw hs hl
  refine W_size fun h9 => ?_
  refine go_int (va_runV (As := []) (rest := rest) (C := y'.cls) ⟨F.1, F.2.1, F.2.2.2.1, F.2.2.2.2.1, F.2.2.2.2.2.1⟩ hM (cwV 0 F.2.2.2.2.2.1 hL.1 rfl rfl rfl ⟨rfl, hL.2⟩ hR) ⟨Ct.blind, va_recv F.2.2.2.2.2.2.2.1 hw (ci := ci) (q0 := k) (q := (y'.cls, T, N)) (by rw [hcl]; exact hc) (wl_fs hk), fun U hU hW2 => ⟨rfl, by rw [hU]; exact WD.ex hb hz hw hs.1 h9, by rw [hU]; exact hw, va_K.moved hW2.alike F.2.2.2.2.2.2.2.1, NW.warm hW2 F.2.2.2.2.2.2.2.2.1⟩⟩ rfl rfl hl.1 rfl (lv_room hW) hd hC) hs (fun v M' H1 locs1 hp hw1 hs1 => ?_)
  rw [h0, h00, Nat.add_zero, Nat.add_zero]
  exact kk v M' hp p e s m args below meth c F hX hb hz H1 locs1 la hw1 hs1 hl
theorem L_callV1i {k ci N : Nat} {C : String} {T : u_T} {fs : List (Option (Option Nat))} {idx : Nat} {ty : FieldType} {a1 : Value} {rest : List Value} (hd : decode cc pc = .ok (.invokevirtual idx, 3)) (hL : LkV y.cls idx y' cc' n' (some ty) 1) (hk : lay[k]? = some (.inl (ci, fs))) (hc : vwCl[ci]? = some (C, T, N)) (hcl : y'.cls = C) (hM : Ct l G b0 y' cc' n' (some ty) rm' lay lay M [.ref (b0 + k), a1] Post') (h0 : rm'.cells = 0) (h00 : rm'.slots = 0) (hW : (rest.map fun v => v.category).sum ≤ 8) (hR : rm'.frames + 1 ≤ rm.frames ∧ 8 + (n' + 11) + rm'.locals ≤ rm.locals) (hC : cells + rm'.cells ≤ rm.cells ∧ slots + rm'.slots ≤ rm.slots) (hq : pc + 3 = q) (kk : ∀ (v : Int32) (M' : Mem), Post' v M' → SL b L xs l G b0 y cc nL ret rm Q mc ms cells slots lay q ls (.int v :: rest) M') : SL b L xs l G b0 y cc nL ret rm Q mc ms cells slots lay pc ls (a1 :: .ref (b0 + k) :: rest) M := by
  subst hq
  intro p e s m args below meth c F hX hb hz H locs la hw hs hl
  refine W_size fun h9 => ?_
  refine go_int (va_runV (As := [a1]) (rest := rest) (C := y'.cls) ⟨F.1, F.2.1, F.2.2.2.1, F.2.2.2.2.1, F.2.2.2.2.2.1⟩ hM (cwV 1 F.2.2.2.2.2.1 hL.1 rfl rfl rfl ⟨rfl, hL.2⟩ hR) ⟨Ct.blind, va_recv F.2.2.2.2.2.2.2.1 hw (ci := ci) (q0 := k) (q := (y'.cls, T, N)) (by rw [hcl]; exact hc) (wl_fs hk), fun U hU hW2 => ⟨rfl, by rw [hU]; exact WD.ex hb hz hw hs.1 h9, by rw [hU]; exact hw, va_K.moved hW2.alike F.2.2.2.2.2.2.2.1, NW.warm hW2 F.2.2.2.2.2.2.2.2.1⟩⟩ rfl rfl hl.1 rfl (lv_room hW) hd hC) hs (fun v M' H1 locs1 hp hw1 hs1 => ?_)
  rw [h0, h00, Nat.add_zero, Nat.add_zero]
  exact kk v M' hp p e s m args below meth c F hX hb hz H1 locs1 la hw1 hs1 hl
theorem L_callV2i {k ci N : Nat} {C : String} {T : u_T} {fs : List (Option (Option Nat))} {idx : Nat} {ty : FieldType} {a1 a2 : Value} {rest : List Value} (hd : decode cc pc = .ok (.invokevirtual idx, 3)) (hL : LkV y.cls idx y' cc' n' (some ty) 2) (hk : lay[k]? = some (.inl (ci, fs))) (hc : vwCl[ci]? = some (C, T, N)) (hcl : y'.cls = C) (hM : Ct l G b0 y' cc' n' (some ty) rm' lay lay M [.ref (b0 + k), a1, a2] Post') (h0 : rm'.cells = 0) (h00 : rm'.slots = 0) (hW : (rest.map fun v => v.category).sum ≤ 8) (hR : rm'.frames + 1 ≤ rm.frames ∧ 8 + (n' + 11) + rm'.locals ≤ rm.locals) (hC : cells + rm'.cells ≤ rm.cells ∧ slots + rm'.slots ≤ rm.slots) (hq : pc + 3 = q) (kk : ∀ (v : Int32) (M' : Mem), Post' v M' → SL b L xs l G b0 y cc nL ret rm Q mc ms cells slots lay q ls (.int v :: rest) M') : SL b L xs l G b0 y cc nL ret rm Q mc ms cells slots lay pc ls (a2 :: a1 :: .ref (b0 + k) :: rest) M := by
  subst hq
  intro p e s m args below meth c F hX hb hz H locs la hw hs hl
  refine W_size fun h9 => ?_
  refine go_int (va_runV (As := [a1, a2]) (rest := rest) (C := y'.cls) ⟨F.1, F.2.1, F.2.2.2.1, F.2.2.2.2.1, F.2.2.2.2.2.1⟩ hM (cwV 2 F.2.2.2.2.2.1 hL.1 rfl rfl rfl ⟨rfl, hL.2⟩ hR) ⟨Ct.blind, va_recv F.2.2.2.2.2.2.2.1 hw (ci := ci) (q0 := k) (q := (y'.cls, T, N)) (by rw [hcl]; exact hc) (wl_fs hk), fun U hU hW2 => ⟨rfl, by rw [hU]; exact WD.ex hb hz hw hs.1 h9, by rw [hU]; exact hw, va_K.moved hW2.alike F.2.2.2.2.2.2.2.1, NW.warm hW2 F.2.2.2.2.2.2.2.2.1⟩⟩ rfl rfl hl.1 rfl (lv_room hW) hd hC) hs (fun v M' H1 locs1 hp hw1 hs1 => ?_)
  rw [h0, h00, Nat.add_zero, Nat.add_zero]
  exact kk v M' hp p e s m args below meth c F hX hb hz H1 locs1 la hw1 hs1 hl
theorem L_callV3i {k ci N : Nat} {C : String} {T : u_T} {fs : List (Option (Option Nat))} {idx : Nat} {ty : FieldType} {a1 a2 a3 : Value} {rest : List Value} (hd : decode cc pc = .ok (.invokevirtual idx, 3)) (hL : LkV y.cls idx y' cc' n' (some ty) 3) (hk : lay[k]? = some (.inl (ci, fs))) (hc : vwCl[ci]? = some (C, T, N)) (hcl : y'.cls = C) (hM : Ct l G b0 y' cc' n' (some ty) rm' lay lay M [.ref (b0 + k), a1, a2, a3] Post') (h0 : rm'.cells = 0) (h00 : rm'.slots = 0) (hW : (rest.map fun v => v.category).sum ≤ 8) (hR : rm'.frames + 1 ≤ rm.frames ∧ 8 + (n' + 11) + rm'.locals ≤ rm.locals) (hC : cells + rm'.cells ≤ rm.cells ∧ slots + rm'.slots ≤ rm.slots) (hq : pc + 3 = q) (kk : ∀ (v : Int32) (M' : Mem), Post' v M' → SL b L xs l G b0 y cc nL ret rm Q mc ms cells slots lay q ls (.int v :: rest) M') : SL b L xs l G b0 y cc nL ret rm Q mc ms cells slots lay pc ls (a3 :: a2 :: a1 :: .ref (b0 + k) :: rest) M := by
  subst hq
  intro p e s m args below meth c F hX hb hz H locs la hw hs hl
  refine W_size fun h9 => ?_
  refine go_int (va_runV (As := [a1, a2, a3]) (rest := rest) (C := y'.cls) ⟨F.1, F.2.1, F.2.2.2.1, F.2.2.2.2.1, F.2.2.2.2.2.1⟩ hM (cwV 3 F.2.2.2.2.2.1 hL.1 rfl rfl rfl ⟨rfl, hL.2⟩ hR) ⟨Ct.blind, va_recv F.2.2.2.2.2.2.2.1 hw (ci := ci) (q0 := k) (q := (y'.cls, T, N)) (by rw [hcl]; exact hc) (wl_fs hk), fun U hU hW2 => ⟨rfl, by rw [hU]; exact WD.ex hb hz hw hs.1 h9, by rw [hU]; exact hw, va_K.moved hW2.alike F.2.2.2.2.2.2.2.1, NW.warm hW2 F.2.2.2.2.2.2.2.2.1⟩⟩ rfl rfl hl.1 rfl (lv_room hW) hd hC) hs (fun v M' H1 locs1 hp hw1 hs1 => ?_)
  rw [h0, h00, Nat.add_zero, Nat.add_zero]
  exact kk v M' hp p e s m args below meth c F hX hb hz H1 locs1 la hw1 hs1 hl
theorem L_callS2i {idx : Nat} {ty : FieldType} {a1 a2 : Value} {rest : List Value} (hd : decode cc pc = .ok (.invokestatic idx, 3)) (hL : LkS y.cls idx y' cc' n' (some ty) 2) (hM : Ct l G b0 y' cc' n' (some ty) rm' lay lay M [a1, a2] Post') (h0 : rm'.cells = 0) (h00 : rm'.slots = 0) (hW : (rest.map fun v => v.category).sum ≤ 8) (hR : rm'.frames + 1 ≤ rm.frames ∧ 8 + (n' + 11) + rm'.locals ≤ rm.locals) (hC : cells + rm'.cells ≤ rm.cells ∧ slots + rm'.slots ≤ rm.slots) (hq : pc + 3 = q) (kk : ∀ (v : Int32) (M' : Mem), Post' v M' → SL b L xs l G b0 y cc nL ret rm Q mc ms cells slots lay q ls (.int v :: rest) M') : SL b L xs l G b0 y cc nL ret rm Q mc ms cells slots lay pc ls (a2 :: a1 :: rest) M := by
  subst hq
  intro p e s m args below meth c F hX hb hz H locs la hw hs hl
  refine W_size fun h9 => ?_
  refine go_int (va_runS (As := [a1, a2]) (rest := rest) ⟨F.1, F.2.1, F.2.2.2.1, F.2.2.2.2.1, F.2.2.2.2.2.1⟩ hM (va_cwS 2 F.2.2.2.2.2.1 hL.1 rfl rfl rfl hL.2 hR) ⟨Ct.blind, fun U hU hW2 => ⟨rfl, by rw [hU]; exact WD.ex hb hz hw hs.1 h9, by rw [hU]; exact hw, va_K.moved hW2.alike F.2.2.2.2.2.2.2.1, NW.warm hW2 F.2.2.2.2.2.2.2.2.1⟩⟩ rfl rfl hl.1 rfl (lv_room hW) hd hC) hs (fun v M' H1 locs1 hp hw1 hs1 => ?_)
  rw [h0, h00, Nat.add_zero, Nat.add_zero]
  exact kk v M' hp p e s m args below meth c F hX hb hz H1 locs1 la hw1 hs1 hl
theorem L_callI0 {k idx : Nat} {rest : List Value} (hd : decode cc pc = .ok (.invokespecial idx, 3)) (hL : LkI y.cls idx y' cc' n' 0) (hM : Ct l G b0 y' cc' n' none rm' lay lay1 M [.ref (b0 + k)] Post') (hlen : lay1.length = lay.length + rm'.cells) (hW : (rest.map fun v => v.category).sum ≤ 8) (hR : rm'.frames + 1 ≤ rm.frames ∧ 8 + (n' + 11) + rm'.locals ≤ rm.locals) (hC : cells + rm'.cells ≤ rm.cells ∧ slots + rm'.slots ≤ rm.slots) (hq : pc + 3 = q) (kk : ∀ (v : Int32) (M' : Mem), Post' v M' → SL b L xs l G b0 y cc nL ret rm Q mc ms (cells + rm'.cells) (slots + rm'.slots) lay1 q ls rest M') : SL b L xs l G b0 y cc nL ret rm Q mc ms cells slots lay pc ls (.ref (b0 + k) :: rest) M := by
  subst hq
  intro p e s m args below meth c F hX hb hz H locs la hw hs hl
  refine W_size fun h9 => ?_
  have hpre : PreS s H (va_Pc [.ref (b0 + k)] (World G b0 lay M)) [.ref (b0 + k)] := ⟨Ct.blind, fun U hU hW2 => ⟨rfl, by rw [hU]; exact WD.ex hb hz hw hs.1 h9, by rw [hU]; exact hw, va_K.moved hW2.alike F.2.2.2.2.2.2.2.1, NW.warm hW2 F.2.2.2.2.2.2.2.2.1⟩⟩
  have hts := F.2.2.2.2.2.1
  have hfin := fun (v : Int32) (M' : Mem) (H1 : Heap) (locs1 : List Loc) (hp : Post' v M') (hw1 : WD G b0 lay1 M' H1) (hs1 : va_S (fun q => b0 ≤ q) s.heap H1 locs1) => kk v M' hp p e s m args below meth c F hX hb (by omega) H1 locs1 la hw1 hs1 hl
  obtain ⟨⟨hL1, hL2, hL3, hL4, hL5⟩, hL6⟩ := hL
  rcases hL2 with hL2 | ⟨host, hL2⟩
  · exact go_void (va_runI (As := []) (rest := rest) ⟨F.1, F.2.1, F.2.2.2.1, F.2.2.2.2.1, hts⟩ hM (cwI 0 hts hL1 rfl rfl rfl (hts _ hL3) (hts _ hL2) (hts _ hL4) hL5 hL6 hR) hpre rfl rfl hl.1 rfl (lv_room hW) hd hC) hs hfin
  · exact go_void (va_runIN (As := []) (rest := rest) ⟨F.1, F.2.1, F.2.2.2.1, F.2.2.2.2.1, hts⟩ hM ⟨va_cnB 0 hts hL1 rfl rfl rfl (F.2.2.2.2.2.2.2.2.1 _ hL2 rfl) (hts _ hL3) hL6 hR, hL5, hts _ hL4⟩ hpre rfl rfl hl.1 rfl (lv_room hW) hd hC) hs hfin
theorem L_callX1i {idx : Nat} {ty : FieldType} {a1 : Value} {rest : List Value} (hd : decode cc pc = .ok (.invokestatic idx, 3)) (hL : LkS y.cls idx y' cc' n' (some ty) 1) (hM : CtX b L xs l G b0 y' cc' n' (some ty) rm' lay lay M [a1] Post') (h0 : rm'.cells = 0) (h00 : rm'.slots = 0) (hW : (rest.map fun v => v.category).sum ≤ 8) (hR : rm'.frames + 1 ≤ rm.frames ∧ 8 + (n' + 11) + rm'.locals ≤ rm.locals) (hC : cells + rm'.cells ≤ rm.cells ∧ slots + rm'.slots ≤ rm.slots) (hq : pc + 3 = q) (kk : ∀ (v : Int32) (M' : Mem), Post' v M' → SL b L xs l G b0 y cc nL ret rm Q mc ms cells slots lay q ls (.int v :: rest) M') : SL b L xs l G b0 y cc nL ret rm Q mc ms cells slots lay pc ls (a1 :: rest) M := by
  subst hq
  intro p e s m args below meth c F hX hb hz H locs la hw hs hl
  refine W_size fun h9 => ?_
  refine go_int (va_runS (As := [a1]) (rest := rest) ⟨F.1, F.2.1, F.2.2.2.1, F.2.2.2.2.1, F.2.2.2.2.2.1⟩ hM (va_cwS 1 F.2.2.2.2.2.1 hL.1 rfl rfl rfl hL.2 hR) ⟨CtX.blind, fun U hU hW2 => ⟨rfl, ⟨by rw [hU]; exact WD.ex hb hz hw hs.1 h9, by rw [hU]; exact hw, va_K.moved hW2.alike F.2.2.2.2.2.2.2.1, NW.warm hW2 F.2.2.2.2.2.2.2.2.1⟩, by rw [hU]; exact va_X.moved hW2.alike (hX.1.kept (hs.2.1 b hX.2.2 (Nat.not_le.mpr hX.2.1))), hX.2.1, by rw [hU]; exact Nat.lt_of_lt_of_le hX.2.2 hs.1⟩⟩ rfl rfl hl.1 rfl (lv_room hW) hd hC) hs (fun v M' H1 locs1 hp hw1 hs1 => ?_)
  rw [h0, h00, Nat.add_zero, Nat.add_zero]
  exact kk v M' hp p e s m args below meth c F hX hb hz H1 locs1 la hw1 hs1 hl
theorem L_callX2i {idx : Nat} {ty : FieldType} {a1 a2 : Value} {rest : List Value} (hd : decode cc pc = .ok (.invokestatic idx, 3)) (hL : LkS y.cls idx y' cc' n' (some ty) 2) (hM : CtX b L xs l G b0 y' cc' n' (some ty) rm' lay lay M [a1, a2] Post') (h0 : rm'.cells = 0) (h00 : rm'.slots = 0) (hW : (rest.map fun v => v.category).sum ≤ 8) (hR : rm'.frames + 1 ≤ rm.frames ∧ 8 + (n' + 11) + rm'.locals ≤ rm.locals) (hC : cells + rm'.cells ≤ rm.cells ∧ slots + rm'.slots ≤ rm.slots) (hq : pc + 3 = q) (kk : ∀ (v : Int32) (M' : Mem), Post' v M' → SL b L xs l G b0 y cc nL ret rm Q mc ms cells slots lay q ls (.int v :: rest) M') : SL b L xs l G b0 y cc nL ret rm Q mc ms cells slots lay pc ls (a2 :: a1 :: rest) M := by
  subst hq
  intro p e s m args below meth c F hX hb hz H locs la hw hs hl
  refine W_size fun h9 => ?_
  refine go_int (va_runS (As := [a1, a2]) (rest := rest) ⟨F.1, F.2.1, F.2.2.2.1, F.2.2.2.2.1, F.2.2.2.2.2.1⟩ hM (va_cwS 2 F.2.2.2.2.2.1 hL.1 rfl rfl rfl hL.2 hR) ⟨CtX.blind, fun U hU hW2 => ⟨rfl, ⟨by rw [hU]; exact WD.ex hb hz hw hs.1 h9, by rw [hU]; exact hw, va_K.moved hW2.alike F.2.2.2.2.2.2.2.1, NW.warm hW2 F.2.2.2.2.2.2.2.2.1⟩, by rw [hU]; exact va_X.moved hW2.alike (hX.1.kept (hs.2.1 b hX.2.2 (Nat.not_le.mpr hX.2.1))), hX.2.1, by rw [hU]; exact Nat.lt_of_lt_of_le hX.2.2 hs.1⟩⟩ rfl rfl hl.1 rfl (lv_room hW) hd hC) hs (fun v M' H1 locs1 hp hw1 hs1 => ?_)
  rw [h0, h00, Nat.add_zero, Nat.add_zero]
  exact kk v M' hp p e s m args below meth c F hX hb hz H1 locs1 la hw1 hs1 hl
theorem L_callX3i {idx : Nat} {ty : FieldType} {a1 a2 a3 : Value} {rest : List Value} (hd : decode cc pc = .ok (.invokestatic idx, 3)) (hL : LkS y.cls idx y' cc' n' (some ty) 3) (hM : CtX b L xs l G b0 y' cc' n' (some ty) rm' lay lay M [a1, a2, a3] Post') (h0 : rm'.cells = 0) (h00 : rm'.slots = 0) (hW : (rest.map fun v => v.category).sum ≤ 8) (hR : rm'.frames + 1 ≤ rm.frames ∧ 8 + (n' + 11) + rm'.locals ≤ rm.locals) (hC : cells + rm'.cells ≤ rm.cells ∧ slots + rm'.slots ≤ rm.slots) (hq : pc + 3 = q) (kk : ∀ (v : Int32) (M' : Mem), Post' v M' → SL b L xs l G b0 y cc nL ret rm Q mc ms cells slots lay q ls (.int v :: rest) M') : SL b L xs l G b0 y cc nL ret rm Q mc ms cells slots lay pc ls (a3 :: a2 :: a1 :: rest) M := by
  subst hq
  intro p e s m args below meth c F hX hb hz H locs la hw hs hl
  refine W_size fun h9 => ?_
  refine go_int (va_runS (As := [a1, a2, a3]) (rest := rest) ⟨F.1, F.2.1, F.2.2.2.1, F.2.2.2.2.1, F.2.2.2.2.2.1⟩ hM (va_cwS 3 F.2.2.2.2.2.1 hL.1 rfl rfl rfl hL.2 hR) ⟨CtX.blind, fun U hU hW2 => ⟨rfl, ⟨by rw [hU]; exact WD.ex hb hz hw hs.1 h9, by rw [hU]; exact hw, va_K.moved hW2.alike F.2.2.2.2.2.2.2.1, NW.warm hW2 F.2.2.2.2.2.2.2.2.1⟩, by rw [hU]; exact va_X.moved hW2.alike (hX.1.kept (hs.2.1 b hX.2.2 (Nat.not_le.mpr hX.2.1))), hX.2.1, by rw [hU]; exact Nat.lt_of_lt_of_le hX.2.2 hs.1⟩⟩ rfl rfl hl.1 rfl (lv_room hW) hd hC) hs (fun v M' H1 locs1 hp hw1 hs1 => ?_)
  rw [h0, h00, Nat.add_zero, Nat.add_zero]
  exact kk v M' hp p e s m args below meth c F hX hb hz H1 locs1 la hw1 hs1 hl
end LWR
