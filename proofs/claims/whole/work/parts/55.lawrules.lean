/-! THE LAW'S RULES: the engine's, with the script at hand -/
def SL (b L : Nat) (xs : Nat → Int32) (l : Launch) (G : Gd) (b0 : Nat) (y : MethodName) (cc : ByteArray) (nL : Nat) (ret : Option FieldType) (rm : Room) (lay' : Lay) (Post : PT) (mc ms cells slots : Nat) (lay : Lay) (pc : Nat) (ls : List (Option Value)) (st : List Value) (M : Mem) : Prop :=
  ∀ (p : Program) (e : Env) (s : State) (m : MethodId) (args : Array Value) (below : List Frame) (meth : Method) (c : Code), Fx G y cc nL ret p s m args meth c → (va_X b L xs s s.heap ∧ b < b0 ∧ b < s.heap.size) → b0 ≤ s.heap.size → s.heap.size + cells = b0 + lay.length →
  ∀ (H : Heap) (locs : List Loc) (la : Array Slot), WD G b0 lay M H → va_S (fun q => b0 ≤ q) s.heap H locs → LH la nL ls →
  W p l e rm s m args below meth c H locs cells slots (MQ below (QC G b0 ret lay' Post) args s mc ms (fun q => b0 ≤ q)) (F0 m pc la st)
section LWR
variable {b L : Nat} {xs : Nat → Int32} {l : Launch} {G : Gd} {b0 : Nat} {y : MethodName} {cc : ByteArray} {nL : Nat} {ret : Option FieldType} {rm : Room} {lay' : Lay} {Post : PT} {mc ms cells slots : Nat} {lay : Lay} {pc q : Nat} {ls : List (Option Value)} {st : List Value} {M : Mem}
theorem L_dup {v : Value} (hd : decode cc pc = .ok (.dup, 1)) (hv : v.category = 1) (hq : pc + 1 = q) (k : SL b L xs l G b0 y cc nL ret rm lay' Post mc ms cells slots lay q ls (v :: v :: st) M) : SL b L xs l G b0 y cc nL ret rm lay' Post mc ms cells slots lay pc ls (v :: st) M := by
  subst hq; intro p e s m args below meth c F hX hb hz H locs la hw hs hl; exact lv_dup F.1 F.2.1 hd hv (k p e s m args below meth c F hX hb hz H locs la hw hs hl)
theorem L_iconst {n : Int} (v : Int32) (hd : decode cc pc = .ok (.iconst n, 1)) (hv : Int32.ofInt n = v) (hq : pc + 1 = q) (k : SL b L xs l G b0 y cc nL ret rm lay' Post mc ms cells slots lay q ls (.int v :: st) M) : SL b L xs l G b0 y cc nL ret rm lay' Post mc ms cells slots lay pc ls st M := by
  subst hq; intro p e s m args below meth c F hX hb hz H locs la hw hs hl; exact lv_iconst F.1 F.2.1 hd hv (k p e s m args below meth c F hX hb hz H locs la hw hs hl)
theorem L_bipush {n : Int} (v : Int32) (hd : decode cc pc = .ok (.bipush n, 2)) (hv : (Int8.ofInt n).toInt32 = v) (hq : pc + 2 = q) (k : SL b L xs l G b0 y cc nL ret rm lay' Post mc ms cells slots lay q ls (.int v :: st) M) : SL b L xs l G b0 y cc nL ret rm lay' Post mc ms cells slots lay pc ls st M := by
  subst hq; intro p e s m args below meth c F hX hb hz H locs la hw hs hl; exact lv_bipush F.1 F.2.1 hd hv (k p e s m args below meth c F hX hb hz H locs la hw hs hl)
theorem L_iand {x z : Int32} (hd : decode cc pc = .ok (.iand, 1)) (hq : pc + 1 = q) (k : SL b L xs l G b0 y cc nL ret rm lay' Post mc ms cells slots lay q ls (.int (x &&& z) :: st) M) : SL b L xs l G b0 y cc nL ret rm lay' Post mc ms cells slots lay pc ls (.int z :: .int x :: st) M := by
  subst hq; intro p e s m args below meth c F hX hb hz H locs la hw hs hl; exact lv_iand F.1 F.2.1 hd (k p e s m args below meth c F hX hb hz H locs la hw hs hl)
theorem L_isub {x z : Int32} (hd : decode cc pc = .ok (.isub, 1)) (hq : pc + 1 = q) (k : SL b L xs l G b0 y cc nL ret rm lay' Post mc ms cells slots lay q ls (.int (x - z) :: st) M) : SL b L xs l G b0 y cc nL ret rm lay' Post mc ms cells slots lay pc ls (.int z :: .int x :: st) M := by
  subst hq; intro p e s m args below meth c F hX hb hz H locs la hw hs hl; exact lv_isub F.1 F.2.1 hd (k p e s m args below meth c F hX hb hz H locs la hw hs hl)
theorem L_iadd {x z : Int32} (hd : decode cc pc = .ok (.iadd, 1)) (hq : pc + 1 = q) (k : SL b L xs l G b0 y cc nL ret rm lay' Post mc ms cells slots lay q ls (.int (x + z) :: st) M) : SL b L xs l G b0 y cc nL ret rm lay' Post mc ms cells slots lay pc ls (.int z :: .int x :: st) M := by
  subst hq; intro p e s m args below meth c F hX hb hz H locs la hw hs hl; exact lv_iadd F.1 F.2.1 hd (k p e s m args below meth c F hX hb hz H locs la hw hs hl)
theorem L_icmp_gt {x z : Int32} {off : Int} {t : Nat} (hd : decode cc pc = .ok (.if_icmp .gt off, 3)) (ht : (pc : Int) + off = (t : Int)) (hq : pc + 3 = q) (kt : z < x → SL b L xs l G b0 y cc nL ret rm lay' Post mc ms cells slots lay t ls st M) (kf : ¬ (z < x) → SL b L xs l G b0 y cc nL ret rm lay' Post mc ms cells slots lay q ls st M) : SL b L xs l G b0 y cc nL ret rm lay' Post mc ms cells slots lay pc ls (.int z :: .int x :: st) M := by
  subst hq; intro p e s m args below meth c F hX hb hz H locs la hw hs hl; exact lv_icmp_gt F.1 F.2.1 hd ht (fun h => kt h p e s m args below meth c F hX hb hz H locs la hw hs hl) (fun h => kf h p e s m args below meth c F hX hb hz H locs la hw hs hl)
theorem L_icmp_eq {x z : Int32} {off : Int} {t : Nat} (hd : decode cc pc = .ok (.if_icmp .eq off, 3)) (ht : (pc : Int) + off = (t : Int)) (hq : pc + 3 = q) (kt : x = z → SL b L xs l G b0 y cc nL ret rm lay' Post mc ms cells slots lay t ls st M) (kf : ¬ (x = z) → SL b L xs l G b0 y cc nL ret rm lay' Post mc ms cells slots lay q ls st M) : SL b L xs l G b0 y cc nL ret rm lay' Post mc ms cells slots lay pc ls (.int z :: .int x :: st) M := by
  subst hq; intro p e s m args below meth c F hX hb hz H locs la hw hs hl; exact lv_icmp_eq F.1 F.2.1 hd ht (fun h => kt h p e s m args below meth c F hX hb hz H locs la hw hs hl) (fun h => kf h p e s m args below meth c F hX hb hz H locs la hw hs hl)
theorem L_goto {off : Int} {t : Nat} (hd : decode cc pc = .ok (.goto off, 3)) (ht : (pc : Int) + off = (t : Int)) (k : SL b L xs l G b0 y cc nL ret rm lay' Post mc ms cells slots lay t ls st M) : SL b L xs l G b0 y cc nL ret rm lay' Post mc ms cells slots lay pc ls st M := by
  intro p e s m args below meth c F hX hb hz H locs la hw hs hl; exact lv_goto F.1 F.2.1 hd ht (k p e s m args below meth c F hX hb hz H locs la hw hs hl)
theorem L_iinc {i : Nat} {n : Int} {x : Int32} (v : Int32) (hd : decode cc pc = .ok (.iinc i n, 3)) (hx : ls[i]? = some (some (.int x))) (hv : x + Int32.ofInt n = v) (hq : pc + 3 = q) (k : SL b L xs l G b0 y cc nL ret rm lay' Post mc ms cells slots lay q (ls.set i (some (.int v))) st M) : SL b L xs l G b0 y cc nL ret rm lay' Post mc ms cells slots lay pc ls st M := by
  subst hq; intro p e s m args below meth c F hX hb hz H locs la hw hs hl
  obtain ⟨j, hj⟩ := hl.pick hx
  have hi := (List.getElem?_eq_some_iff.mp hx).1
  exact lv_iinc F.1 F.2.1 hd hl.lv hj hv (hl.lt hi) rfl (fun la' h' => k p e s m args below meth c F hX hb hz H locs la' hw hs (hl.put hi rfl h'))
theorem L_iinc_3 {n : Int} {x : Int32} {a0 a1 a2 : Option Value} {t : List (Option Value)} (v : Int32) (hd : decode cc pc = .ok (.iinc 3 n, 3)) (hv : x + Int32.ofInt n = v) (hq : pc + 3 = q) (k : SL b L xs l G b0 y cc nL ret rm lay' Post mc ms cells slots lay q (a0 :: a1 :: a2 :: some (.int v) :: t) st M) : SL b L xs l G b0 y cc nL ret rm lay' Post mc ms cells slots lay pc (a0 :: a1 :: a2 :: some (.int x) :: t) st M := L_iinc v hd rfl hv hq k
theorem L_aload_n {j : Fin 4} {i : Nat} {x : Nat} (hd : decode cc pc = .ok (.aload_n j, 1)) (hi : (j : Nat) = i) (hv : ls[i]? = some (some (.ref x))) (hq : pc + 1 = q) (k : SL b L xs l G b0 y cc nL ret rm lay' Post mc ms cells slots lay q ls (.ref x :: st) M) : SL b L xs l G b0 y cc nL ret rm lay' Post mc ms cells slots lay pc ls st M := by
  subst hq; intro p e s m args below meth c F hX hb hz H locs la hw hs hl; exact lv_aload_n F.1 F.2.1 hd hi (hl.at hv) (k p e s m args below meth c F hX hb hz H locs la hw hs hl)
theorem L_aload_0 {x : Nat} {t : List (Option Value)} (hd : decode cc pc = .ok (.aload_n 0, 1)) (hq : pc + 1 = q) (k : SL b L xs l G b0 y cc nL ret rm lay' Post mc ms cells slots lay q (some (.ref x) :: t) (.ref x :: st) M) : SL b L xs l G b0 y cc nL ret rm lay' Post mc ms cells slots lay pc (some (.ref x) :: t) st M := L_aload_n hd rfl rfl hq k
theorem L_aload_1 {x : Nat} {a0 : Option Value} {t : List (Option Value)} (hd : decode cc pc = .ok (.aload_n 1, 1)) (hq : pc + 1 = q) (k : SL b L xs l G b0 y cc nL ret rm lay' Post mc ms cells slots lay q (a0 :: some (.ref x) :: t) (.ref x :: st) M) : SL b L xs l G b0 y cc nL ret rm lay' Post mc ms cells slots lay pc (a0 :: some (.ref x) :: t) st M := L_aload_n hd rfl rfl hq k
theorem L_aload_2 {x : Nat} {a0 a1 : Option Value} {t : List (Option Value)} (hd : decode cc pc = .ok (.aload_n 2, 1)) (hq : pc + 1 = q) (k : SL b L xs l G b0 y cc nL ret rm lay' Post mc ms cells slots lay q (a0 :: a1 :: some (.ref x) :: t) (.ref x :: st) M) : SL b L xs l G b0 y cc nL ret rm lay' Post mc ms cells slots lay pc (a0 :: a1 :: some (.ref x) :: t) st M := L_aload_n hd rfl rfl hq k
theorem L_iload_n {j : Fin 4} {i : Nat} {x : Int32} (hd : decode cc pc = .ok (.iload_n j, 1)) (hi : (j : Nat) = i) (hv : ls[i]? = some (some (.int x))) (hq : pc + 1 = q) (k : SL b L xs l G b0 y cc nL ret rm lay' Post mc ms cells slots lay q ls (.int x :: st) M) : SL b L xs l G b0 y cc nL ret rm lay' Post mc ms cells slots lay pc ls st M := by
  subst hq; intro p e s m args below meth c F hX hb hz H locs la hw hs hl; exact lv_iload_n F.1 F.2.1 hd hi (hl.at hv) (k p e s m args below meth c F hX hb hz H locs la hw hs hl)
theorem L_iload_3 {x : Int32} {a0 a1 a2 : Option Value} {t : List (Option Value)} (hd : decode cc pc = .ok (.iload_n 3, 1)) (hq : pc + 1 = q) (k : SL b L xs l G b0 y cc nL ret rm lay' Post mc ms cells slots lay q (a0 :: a1 :: a2 :: some (.int x) :: t) (.int x :: st) M) : SL b L xs l G b0 y cc nL ret rm lay' Post mc ms cells slots lay pc (a0 :: a1 :: a2 :: some (.int x) :: t) st M := L_iload_n hd rfl rfl hq k
theorem L_istore_n {j : Fin 4} {i : Nat} {x : Int32} (hd : decode cc pc = .ok (.istore_n j, 1)) (hi : (j : Nat) = i) (hv : i < ls.length) (hq : pc + 1 = q) (k : SL b L xs l G b0 y cc nL ret rm lay' Post mc ms cells slots lay q (ls.set i (some (.int x))) st M) : SL b L xs l G b0 y cc nL ret rm lay' Post mc ms cells slots lay pc ls (.int x :: st) M := by
  subst hq; intro p e s m args below meth c F hX hb hz H locs la hw hs hl
  exact lv_istore_n F.1 F.2.1 hd hi hl.lv (hl.lt hv) rfl (fun la' h' => k p e s m args below meth c F hX hb hz H locs la' hw hs (hl.put hv rfl h'))
theorem L_istore_3 {x : Int32} {a0 a1 a2 : Option Value} {a : Option Value} {t : List (Option Value)} (hd : decode cc pc = .ok (.istore_n 3, 1)) (hq : pc + 1 = q) (k : SL b L xs l G b0 y cc nL ret rm lay' Post mc ms cells slots lay q (a0 :: a1 :: a2 :: some (.int x) :: t) st M) : SL b L xs l G b0 y cc nL ret rm lay' Post mc ms cells slots lay pc (a0 :: a1 :: a2 :: a :: t) (.int x :: st) M := L_istore_n hd rfl (by simp only [List.length_cons]; omega) hq k
theorem L_astore_n {j : Fin 4} {i : Nat} {x : Nat} (hd : decode cc pc = .ok (.astore_n j, 1)) (hi : (j : Nat) = i) (hv : i < ls.length) (hq : pc + 1 = q) (k : SL b L xs l G b0 y cc nL ret rm lay' Post mc ms cells slots lay q (ls.set i (some (.ref x))) st M) : SL b L xs l G b0 y cc nL ret rm lay' Post mc ms cells slots lay pc ls (.ref x :: st) M := by
  subst hq; intro p e s m args below meth c F hX hb hz H locs la hw hs hl
  exact lv_astore_n F.1 F.2.1 hd hi hl.lv (hl.lt hv) rfl (fun la' h' => k p e s m args below meth c F hX hb hz H locs la' hw hs (hl.put hv rfl h'))
theorem L_astore_1 {x : Nat} {a0 : Option Value} {a : Option Value} {t : List (Option Value)} (hd : decode cc pc = .ok (.astore_n 1, 1)) (hq : pc + 1 = q) (k : SL b L xs l G b0 y cc nL ret rm lay' Post mc ms cells slots lay q (a0 :: some (.ref x) :: t) st M) : SL b L xs l G b0 y cc nL ret rm lay' Post mc ms cells slots lay pc (a0 :: a :: t) (.ref x :: st) M := L_astore_n hd rfl (by simp only [List.length_cons]; omega) hq k
theorem L_astore_2 {x : Nat} {a0 a1 : Option Value} {a : Option Value} {t : List (Option Value)} (hd : decode cc pc = .ok (.astore_n 2, 1)) (hq : pc + 1 = q) (k : SL b L xs l G b0 y cc nL ret rm lay' Post mc ms cells slots lay q (a0 :: a1 :: some (.ref x) :: t) st M) : SL b L xs l G b0 y cc nL ret rm lay' Post mc ms cells slots lay pc (a0 :: a1 :: a :: t) (.ref x :: st) M := L_astore_n hd rfl (by simp only [List.length_cons]; omega) hq k
theorem L_iret {v : Int32} {ty : FieldType} (hret : ret = some ty) (hd : decode cc pc = .ok (.ireturn, 1)) (hn : narrow ty (.int v) = .int v) (hlay : lay = lay') (hp : Post v M) : SL b L xs l G b0 y cc nL ret rm lay' Post mc ms mc ms lay pc ls [.int v] M := by
  subst hlay; intro p e s m args below meth c F hX hb hz H locs la hw hs hl
  refine W_size fun h9 => ?_
  refine W.zret (v := v) (ty := ty) F.1 F.2.1 (F.2.2.1.trans hret) hn (fun t ht hW => ⟨⟨v, M, by rw [hret]; rfl, hp, ?_, by rw [ht]; exact hw, va_K.moved hW.alike F.2.2.2.2.2.2.2.1, NW.warm hW F.2.2.2.2.2.2.2.2.1⟩, hs.F ht⟩) hs.2.2 hd F.2.2.2.2.2.2.1
  rw [ht]
  exact WD.ex hb hz hw hs.1 h9
theorem L_new {ci idx N : Nat} {C : String} {T : u_T} {dl : List (Option (Option Nat))} {ty : Nat → FieldType} (hd : decode cc pc = .ok (.new idx, 3)) (hc : vwCl[ci]? = some (C, T, N)) (hin : ∀ w ∈ u_ws C T N, w ∈ TG) (hty : ∀ k, k < N → parseFieldDescriptor (T k).2.2.1 = some (ty k)) (h1 : Cond.classLink y.cls idx C ∈ TG) (h2 : Cond.instantiable C N ∈ TG) (h3 : Cond.initialized C ∈ TG) (hdf : ∀ j, j < N → defaultValue (ty j) = vp_V (dl.mapIdx (fun j x => fv b0 (fun _ => 0) j x)) j) (hC : cells + 1 ≤ rm.cells) (hS : slots + N ≤ rm.slots) (hq : pc + 3 = q) (k1 : SL b L xs l G b0 y cc nL ret rm lay' Post mc ms (cells + 1) (slots + N) (lay ++ [.inl (ci, dl)]) q ls (.ref (b0 + lay.length) :: st) (upA M lay.length (fun _ => 0))) : SL b L xs l G b0 y cc nL ret rm lay' Post mc ms cells slots lay pc ls st M := by
  subst hq; intro p e s m args below meth c F hX hb hz H locs la hw hs hl
  refine W_size fun h9 => ?_
  have hsz := WD.ex hb hz hw hs.1 h9
  have hts := F.2.2.2.2.2.1
  have hK := F.2.2.2.2.2.2.2.1
  have hKn := hK.1 ci _ hc
  refine W.newcK F.1 F.2.1 F.2.2.2.2.1 (hts _ h1) (hts _ h2) (hts _ h3) rfl hd hC hS hKn.2.1 hsz fun H1 kC hkC e1 z1 o1 => ?_
  have hP1 : WD G b0 (lay ++ [.inl (ci, dl)]) (upA M lay.length (fun _ => 0)) H1 := by
    unfold WD
    rw [wl_app]
    refine (hw.kept fun k x hx => o1 x.1 (by rw [← hsz]; exact (hw k x hx).lt)).app (fun k x hx => ?_)
    have hz1 : k < 1 := (List.getElem?_eq_some_iff.mp hx).1
    rw [show k = 0 by omega] at hx
    cases hx
    exact ⟨_, hc, (u_born ty hts hin hKn hkC e1 hty).to hdf⟩
  exact k1 p e s m args below meth c F hX hb (by rw [List.length_append]; simp only [List.length_cons, List.length_nil]; omega) H1 locs la hP1 ⟨Nat.le_trans hs.1 (by omega), fun x a1 a2 => (o1 x (by have := hs.1; omega)).trans (hs.2.1 x a1 a2), hs.2.2⟩ hl
variable {y' : MethodName} {cc' : ByteArray} {n' : Nat} {rm' : Room} {lay1 : Lay} {Post' : PT}
theorem L_callI0 {k idx : Nat} {rest : List Value} (hd : decode cc pc = .ok (.invokespecial idx, 3)) (hL : LkI y.cls idx y' cc' n' 0) (hM : Ct l G b0 y' cc' n' none rm' lay lay1 M [.ref (b0 + k)] Post') (hlen : lay1.length = lay.length + rm'.cells) (hW : (rest.map fun v => v.category).sum ≤ 8) (hR : rm'.frames + 1 ≤ rm.frames ∧ 8 + (n' + 11) + rm'.locals ≤ rm.locals) (hC : cells + rm'.cells ≤ rm.cells ∧ slots + rm'.slots ≤ rm.slots) (hq : pc + 3 = q) (kk : ∀ (v : Int32) (M' : Mem), Post' v M' → SL b L xs l G b0 y cc nL ret rm lay' Post mc ms (cells + rm'.cells) (slots + rm'.slots) lay1 q ls rest M') : SL b L xs l G b0 y cc nL ret rm lay' Post mc ms cells slots lay pc ls (.ref (b0 + k) :: rest) M := by
  subst hq
  intro p e s m args below meth c F hX hb hz H locs la hw hs hl
  refine W_size fun h9 => ?_
  have hpre : PreS s H (va_Pc [.ref (b0 + k)] (World G b0 lay M)) [.ref (b0 + k)] := ⟨Ct.blind, fun U hU hW2 => ⟨rfl, by rw [hU]; exact WD.ex hb hz hw hs.1 h9, by rw [hU]; exact hw, va_K.moved hW2.alike F.2.2.2.2.2.2.2.1, NW.warm hW2 F.2.2.2.2.2.2.2.2.1⟩⟩
  have hts := F.2.2.2.2.2.1
  have hfin := fun (v : Int32) (M' : Mem) (H1 : Heap) (locs1 : List Loc) (hp : Post' v M') (hw1 : WD G b0 lay1 M' H1) (hs1 : va_S (fun q => b0 ≤ q) s.heap H1 locs1) => kk v M' hp p e s m args below meth c F hX hb (by omega) H1 locs1 la hw1 hs1 hl
  obtain ⟨⟨hL1, hL2, hL3, hL4, hL5⟩, hL6⟩ := hL
  rcases hL2 with hL2 | ⟨host, hL2⟩
  · exact go_void (va_runI (As := []) (rest := rest) ⟨F.1, F.2.1, F.2.2.2.1, F.2.2.2.2.1, hts⟩ hM (cwI 0 hts hL1 rfl rfl rfl (hts _ hL3) (hts _ hL2) (hts _ hL4) hL5 hL6 hR) hpre rfl rfl hl.1 rfl (lv_room hW) hd hC) hs hfin
  · exact go_void (va_runIN (As := []) (rest := rest) ⟨F.1, F.2.1, F.2.2.2.1, F.2.2.2.2.1, hts⟩ hM ⟨va_cnB 0 hts hL1 rfl rfl rfl (F.2.2.2.2.2.2.2.2.1 _ hL2 rfl) (hts _ hL3) hL6 hR, hL5, hts _ hL4⟩ hpre rfl rfl hl.1 rfl (lv_room hW) hd hC) hs hfin
theorem L_callV0i {k ci N : Nat} {C : String} {T : u_T} {fs : List (Option (Option Nat))} {idx : Nat} {ty : FieldType} {rest : List Value} (hd : decode cc pc = .ok (.invokevirtual idx, 3)) (hL : LkV y.cls idx y' cc' n' (some ty) 0) (hk : lay[k]? = some (.inl (ci, fs))) (hc : vwCl[ci]? = some (C, T, N)) (hcl : y'.cls = C) (hM : Ct l G b0 y' cc' n' (some ty) rm' lay lay M [.ref (b0 + k)] Post') (h0 : rm'.cells = 0) (h00 : rm'.slots = 0) (hW : (rest.map fun v => v.category).sum ≤ 8) (hR : rm'.frames + 1 ≤ rm.frames ∧ 8 + (n' + 11) + rm'.locals ≤ rm.locals) (hC : cells + rm'.cells ≤ rm.cells ∧ slots + rm'.slots ≤ rm.slots) (hq : pc + 3 = q) (kk : ∀ (v : Int32) (M' : Mem), Post' v M' → SL b L xs l G b0 y cc nL ret rm lay' Post mc ms cells slots lay q ls (.int v :: rest) M') : SL b L xs l G b0 y cc nL ret rm lay' Post mc ms cells slots lay pc ls (.ref (b0 + k) :: rest) M := by
  subst hq
  intro p e s m args below meth c F hX hb hz H locs la hw hs hl
  refine W_size fun h9 => ?_
  refine go_int (va_runV (As := []) (rest := rest) (C := y'.cls) ⟨F.1, F.2.1, F.2.2.2.1, F.2.2.2.2.1, F.2.2.2.2.2.1⟩ hM (cwV 0 F.2.2.2.2.2.1 hL.1 rfl rfl rfl ⟨rfl, hL.2⟩ hR) ⟨Ct.blind, va_recv F.2.2.2.2.2.2.2.1 hw (ci := ci) (q0 := k) (q := (y'.cls, T, N)) (by rw [hcl]; exact hc) (wl_fs hk), fun U hU hW2 => ⟨rfl, by rw [hU]; exact WD.ex hb hz hw hs.1 h9, by rw [hU]; exact hw, va_K.moved hW2.alike F.2.2.2.2.2.2.2.1, NW.warm hW2 F.2.2.2.2.2.2.2.2.1⟩⟩ rfl rfl hl.1 rfl (lv_room hW) hd hC) hs (fun v M' H1 locs1 hp hw1 hs1 => ?_)
  rw [h0, h00, Nat.add_zero, Nat.add_zero]
  exact kk v M' hp p e s m args below meth c F hX hb hz H1 locs1 la hw1 hs1 hl
theorem L_callV1i {k ci N : Nat} {C : String} {T : u_T} {fs : List (Option (Option Nat))} {idx : Nat} {ty : FieldType} {a1 : Value} {rest : List Value} (hd : decode cc pc = .ok (.invokevirtual idx, 3)) (hL : LkV y.cls idx y' cc' n' (some ty) 1) (hk : lay[k]? = some (.inl (ci, fs))) (hc : vwCl[ci]? = some (C, T, N)) (hcl : y'.cls = C) (hM : Ct l G b0 y' cc' n' (some ty) rm' lay lay M [.ref (b0 + k), a1] Post') (h0 : rm'.cells = 0) (h00 : rm'.slots = 0) (hW : (rest.map fun v => v.category).sum ≤ 8) (hR : rm'.frames + 1 ≤ rm.frames ∧ 8 + (n' + 11) + rm'.locals ≤ rm.locals) (hC : cells + rm'.cells ≤ rm.cells ∧ slots + rm'.slots ≤ rm.slots) (hq : pc + 3 = q) (kk : ∀ (v : Int32) (M' : Mem), Post' v M' → SL b L xs l G b0 y cc nL ret rm lay' Post mc ms cells slots lay q ls (.int v :: rest) M') : SL b L xs l G b0 y cc nL ret rm lay' Post mc ms cells slots lay pc ls (a1 :: .ref (b0 + k) :: rest) M := by
  subst hq
  intro p e s m args below meth c F hX hb hz H locs la hw hs hl
  refine W_size fun h9 => ?_
  refine go_int (va_runV (As := [a1]) (rest := rest) (C := y'.cls) ⟨F.1, F.2.1, F.2.2.2.1, F.2.2.2.2.1, F.2.2.2.2.2.1⟩ hM (cwV 1 F.2.2.2.2.2.1 hL.1 rfl rfl rfl ⟨rfl, hL.2⟩ hR) ⟨Ct.blind, va_recv F.2.2.2.2.2.2.2.1 hw (ci := ci) (q0 := k) (q := (y'.cls, T, N)) (by rw [hcl]; exact hc) (wl_fs hk), fun U hU hW2 => ⟨rfl, by rw [hU]; exact WD.ex hb hz hw hs.1 h9, by rw [hU]; exact hw, va_K.moved hW2.alike F.2.2.2.2.2.2.2.1, NW.warm hW2 F.2.2.2.2.2.2.2.2.1⟩⟩ rfl rfl hl.1 rfl (lv_room hW) hd hC) hs (fun v M' H1 locs1 hp hw1 hs1 => ?_)
  rw [h0, h00, Nat.add_zero, Nat.add_zero]
  exact kk v M' hp p e s m args below meth c F hX hb hz H1 locs1 la hw1 hs1 hl
theorem L_callV2i {k ci N : Nat} {C : String} {T : u_T} {fs : List (Option (Option Nat))} {idx : Nat} {ty : FieldType} {a1 a2 : Value} {rest : List Value} (hd : decode cc pc = .ok (.invokevirtual idx, 3)) (hL : LkV y.cls idx y' cc' n' (some ty) 2) (hk : lay[k]? = some (.inl (ci, fs))) (hc : vwCl[ci]? = some (C, T, N)) (hcl : y'.cls = C) (hM : Ct l G b0 y' cc' n' (some ty) rm' lay lay M [.ref (b0 + k), a1, a2] Post') (h0 : rm'.cells = 0) (h00 : rm'.slots = 0) (hW : (rest.map fun v => v.category).sum ≤ 8) (hR : rm'.frames + 1 ≤ rm.frames ∧ 8 + (n' + 11) + rm'.locals ≤ rm.locals) (hC : cells + rm'.cells ≤ rm.cells ∧ slots + rm'.slots ≤ rm.slots) (hq : pc + 3 = q) (kk : ∀ (v : Int32) (M' : Mem), Post' v M' → SL b L xs l G b0 y cc nL ret rm lay' Post mc ms cells slots lay q ls (.int v :: rest) M') : SL b L xs l G b0 y cc nL ret rm lay' Post mc ms cells slots lay pc ls (a2 :: a1 :: .ref (b0 + k) :: rest) M := by
  subst hq
  intro p e s m args below meth c F hX hb hz H locs la hw hs hl
  refine W_size fun h9 => ?_
  refine go_int (va_runV (As := [a1, a2]) (rest := rest) (C := y'.cls) ⟨F.1, F.2.1, F.2.2.2.1, F.2.2.2.2.1, F.2.2.2.2.2.1⟩ hM (cwV 2 F.2.2.2.2.2.1 hL.1 rfl rfl rfl ⟨rfl, hL.2⟩ hR) ⟨Ct.blind, va_recv F.2.2.2.2.2.2.2.1 hw (ci := ci) (q0 := k) (q := (y'.cls, T, N)) (by rw [hcl]; exact hc) (wl_fs hk), fun U hU hW2 => ⟨rfl, by rw [hU]; exact WD.ex hb hz hw hs.1 h9, by rw [hU]; exact hw, va_K.moved hW2.alike F.2.2.2.2.2.2.2.1, NW.warm hW2 F.2.2.2.2.2.2.2.2.1⟩⟩ rfl rfl hl.1 rfl (lv_room hW) hd hC) hs (fun v M' H1 locs1 hp hw1 hs1 => ?_)
  rw [h0, h00, Nat.add_zero, Nat.add_zero]
  exact kk v M' hp p e s m args below meth c F hX hb hz H1 locs1 la hw1 hs1 hl
theorem L_callV3i {k ci N : Nat} {C : String} {T : u_T} {fs : List (Option (Option Nat))} {idx : Nat} {ty : FieldType} {a1 a2 a3 : Value} {rest : List Value} (hd : decode cc pc = .ok (.invokevirtual idx, 3)) (hL : LkV y.cls idx y' cc' n' (some ty) 3) (hk : lay[k]? = some (.inl (ci, fs))) (hc : vwCl[ci]? = some (C, T, N)) (hcl : y'.cls = C) (hM : Ct l G b0 y' cc' n' (some ty) rm' lay lay M [.ref (b0 + k), a1, a2, a3] Post') (h0 : rm'.cells = 0) (h00 : rm'.slots = 0) (hW : (rest.map fun v => v.category).sum ≤ 8) (hR : rm'.frames + 1 ≤ rm.frames ∧ 8 + (n' + 11) + rm'.locals ≤ rm.locals) (hC : cells + rm'.cells ≤ rm.cells ∧ slots + rm'.slots ≤ rm.slots) (hq : pc + 3 = q) (kk : ∀ (v : Int32) (M' : Mem), Post' v M' → SL b L xs l G b0 y cc nL ret rm lay' Post mc ms cells slots lay q ls (.int v :: rest) M') : SL b L xs l G b0 y cc nL ret rm lay' Post mc ms cells slots lay pc ls (a3 :: a2 :: a1 :: .ref (b0 + k) :: rest) M := by
  subst hq
  intro p e s m args below meth c F hX hb hz H locs la hw hs hl
  refine W_size fun h9 => ?_
  refine go_int (va_runV (As := [a1, a2, a3]) (rest := rest) (C := y'.cls) ⟨F.1, F.2.1, F.2.2.2.1, F.2.2.2.2.1, F.2.2.2.2.2.1⟩ hM (cwV 3 F.2.2.2.2.2.1 hL.1 rfl rfl rfl ⟨rfl, hL.2⟩ hR) ⟨Ct.blind, va_recv F.2.2.2.2.2.2.2.1 hw (ci := ci) (q0 := k) (q := (y'.cls, T, N)) (by rw [hcl]; exact hc) (wl_fs hk), fun U hU hW2 => ⟨rfl, by rw [hU]; exact WD.ex hb hz hw hs.1 h9, by rw [hU]; exact hw, va_K.moved hW2.alike F.2.2.2.2.2.2.2.1, NW.warm hW2 F.2.2.2.2.2.2.2.2.1⟩⟩ rfl rfl hl.1 rfl (lv_room hW) hd hC) hs (fun v M' H1 locs1 hp hw1 hs1 => ?_)
  rw [h0, h00, Nat.add_zero, Nat.add_zero]
  exact kk v M' hp p e s m args below meth c F hX hb hz H1 locs1 la hw1 hs1 hl
theorem L_slen (hd : decode cc pc = .ok (.arraylength, 1)) (hq : pc + 1 = q) (k1 : SL b L xs l G b0 y cc nL ret rm lay' Post mc ms cells slots lay q ls (.int (nI L) :: st) M) : SL b L xs l G b0 y cc nL ret rm lay' Post mc ms cells slots lay pc ls (.ref b :: st) M := by
  subst hq; intro p e s m args below meth c F hX hb hz H locs la hw hs hl
  exact va_slen F.1 F.2.1 hX.1 hX.2.2 (Nat.not_le.mpr hX.2.1) hs hd (k1 p e s m args below meth c F hX hb hz H locs la hw hs hl)
theorem L_sld {i : Nat} {x : Int32} (hd : decode cc pc = .ok (.iaload, 1)) (he : x = nI i) (hi : i < L) (hL : L ≤ 2048) (hq : pc + 1 = q) (k1 : SL b L xs l G b0 y cc nL ret rm lay' Post mc ms cells slots lay q ls (.int (xs i) :: st) M) : SL b L xs l G b0 y cc nL ret rm lay' Post mc ms cells slots lay pc ls (.int x :: .ref b :: st) M := by
  subst hq he; intro p e s m args below meth c F hX hb hz H locs la hw hs hl
  refine va_sld F.1 F.2.1 hX.1 hX.2.2 (Nat.not_le.mpr hX.2.1) hs (vp_in_nI hi (by omega)) hd ?_
  rw [nI_clamp (show i < 2 ^ 31 by omega)]
  exact k1 p e s m args below meth c F hX hb hz H locs la hw hs hl
theorem L_tin {dflt lo hi : Int} {offs : Array Int} {len : Nat} {x : Int32} {off : Int} {tgt : Nat} (hdg : decode cc pc = .ok (.tableswitch dflt lo hi offs, len)) (h1 : ¬ x.toInt < lo) (h2 : ¬ hi < x.toInt) (ho : offs[(x.toInt - lo).toNat]? = some off) (ht : (pc : Int) + off = (tgt : Int)) (k1 : SL b L xs l G b0 y cc nL ret rm lay' Post mc ms cells slots lay tgt ls st M) : SL b L xs l G b0 y cc nL ret rm lay' Post mc ms cells slots lay pc ls (.int x :: st) M := by
  intro p e s m args below meth c F hX hb hz H locs la hw hs hl
  exact lv_tableIn F.1 F.2.1 hdg h1 h2 ho ht (k1 p e s m args below meth c F hX hb hz H locs la hw hs hl)
theorem L_tout {dflt lo hi : Int} {offs : Array Int} {len : Nat} {x : Int32} {tgt : Nat} (hdg : decode cc pc = .ok (.tableswitch dflt lo hi offs, len)) (h : x.toInt < lo ∨ hi < x.toInt) (ht : (pc : Int) + dflt = (tgt : Int)) (k1 : SL b L xs l G b0 y cc nL ret rm lay' Post mc ms cells slots lay tgt ls st M) : SL b L xs l G b0 y cc nL ret rm lay' Post mc ms cells slots lay pc ls (.int x :: st) M := by
  intro p e s m args below meth c F hX hb hz H locs la hw hs hl
  exact lv_tableOut F.1 F.2.1 hdg h ht (k1 p e s m args below meth c F hX hb hz H locs la hw hs hl)
/-- an element of the script, behind the loop's place -/
theorem L_elem {n k : Nat} {k0 : Int} {a1 a2 : Option Value} (h0 : decode cc pc = .ok (.aload_n 0, 1)) (h1 : decode cc (pc + 1) = .ok (.iload_n 3, 1)) (h2 : decode cc (pc + 2) = .ok (.iconst k0, 1)) (h3 : decode cc (pc + 3) = .ok (.iadd, 1)) (h4 : decode cc (pc + 4) = .ok (.iaload, 1)) (hk : Int32.ofInt k0 = nI k) (hn : n + k < L) (hL : L ≤ 2048) (hq : pc + 5 = q) (k1 : SL b L xs l G b0 y cc nL ret rm lay' Post mc ms cells slots lay q [some (.ref b), a1, a2, some (.int (nI n))] (.int (xs (n + k)) :: st) M) : SL b L xs l G b0 y cc nL ret rm lay' Post mc ms cells slots lay pc [some (.ref b), a1, a2, some (.int (nI n))] st M := by
  refine L_aload_0 h0 rfl ?_
  refine L_iload_3 h1 rfl ?_
  refine L_iconst (nI k) h2 hk rfl ?_
  refine L_iadd h3 rfl ?_
  exact L_sld h4 (nI_add (a := n) (b := k)) hn hL hq k1
theorem L_lay {lay1 : Lay} (h : lay = lay1) (k : SL b L xs l G b0 y cc nL ret rm lay' Post mc ms cells slots lay1 pc ls st M) : SL b L xs l G b0 y cc nL ret rm lay' Post mc ms cells slots lay pc ls st M := by
  subst h
  exact k
end LWR
/-! the law's code and words -/
theorem cw_L_7 : Cond.classLink RL 7 RX9 ∈ TG := (TG_tab 16 (by decide +kernel) rfl)
theorem cw_L_10 : Cond.classLink RL 10 RX10 ∈ TG := (TG_tab 880 (by decide +kernel) rfl)
