/-! THE CONSTRUCTORS: each lays its cells behind its object -/
def rmC (f n c s : Nat) : Room := { frames := f, cells := c, slots := s, locals := n }
theorem hget {p R : Lay} {n : Nat} {x : LE} (hn : p.length = n) : (p ++ x :: R)[n]? = some x := by
  subst hn
  rw [List.getElem?_append_right (Nat.le_refl _), Nat.sub_self]
  rfl
theorem hset {p R : Lay} {n : Nat} {x z : LE} (hn : p.length = n) : (p ++ x :: R).set n z = p ++ z :: R := by
  subst hn
  rw [List.set_append_right _ _ (Nat.le_refl _), Nat.sub_self]
  rfl
theorem happ {p R : Lay} {x z : LE} : (p ++ x :: R) ++ [z] = p ++ x :: (R ++ [z]) := by
  rw [List.append_assoc]
  rfl
theorem happL {p R Z : Lay} {x : LE} : (p ++ x :: R) ++ Z = p ++ x :: (R ++ Z) := by
  rw [List.append_assoc]
  rfl
theorem hlen {p R : Lay} {n r : Nat} {x : LE} (hn : p.length = n) (hr : R.length = r) : (p ++ x :: R).length = n + 1 + r := by
  rw [List.length_append, List.length_cons, hn, hr]
  omega
theorem rlen {R Z : Lay} {r z s : Nat} (hr : R.length = r) (hz : Z.length = z) (hs : r + z = s) : (R ++ Z).length = s := by
  rw [List.length_append, hr, hz, hs]
theorem hgetR {p R : Lay} {n r o : Nat} {x ob : LE} (hn : p.length = n) (ho : n + 1 + r = o) (h : R[r]? = some x) : (p ++ ob :: R)[o]? = some x := by
  subst hn; subst ho
  rw [List.getElem?_append_right (by omega), show p.length + 1 + r - p.length = r + 1 by omega, List.getElem?_cons_succ]
  exact h
theorem hsetR {p R : Lay} {n r o : Nat} {z ob : LE} (hn : p.length = n) (ho : n + 1 + r = o) : (p ++ ob :: R).set o z = p ++ ob :: (R.set r z) := by
  subst hn; subst ho
  rw [List.set_append_right _ _ (by omega), show p.length + 1 + r - p.length = r + 1 by omega, List.set_cons_succ]
section HEAD
variable {l : Launch} {G : Gd} {b0 : Nat} {y : MethodName} {cc : ByteArray} {nL : Nat} {ret : Option FieldType} {rm : Room} {lay' : Lay} {Post : PT} {mc ms cells slots c' s' : Nat} {p R : Lay} {n r o : Nat} {ob : LE} {pc q : Nat} {ls : List (Option Value)} {st : List Value} {M : Mem}
theorem S_hnew {ci idx N : Nat} {C : String} {T : u_T} {dl : List (Option (Option Nat))} {ty : Nat → FieldType} (R' : Lay) (hn : p.length = n) (hr : R.length = r) (ho : n + 1 + r = o) (hR : R ++ [.inl (ci, dl)] = R') (hd : decode cc pc = .ok (.new idx, 3)) (hc : vwCl[ci]? = some (C, T, N)) (hin : ∀ w ∈ u_ws C T N, w ∈ TG) (hty : ∀ k, k < N → parseFieldDescriptor (T k).2.2.1 = some (ty k)) (h1 : Cond.classLink y.cls idx C ∈ TG) (h2 : Cond.instantiable C N ∈ TG) (h3 : Cond.initialized C ∈ TG) (hdf : ∀ j, j < N → defaultValue (ty j) = vp_V (dl.mapIdx (fun j x => fv b0 (fun _ => 0) j x)) j) (hc1 : cells + 1 = c') (hs1 : slots + N = s') (hC : c' ≤ rm.cells) (hS : s' ≤ rm.slots) (hq : pc + 3 = q) (k1 : S l G b0 y cc nL ret rm lay' Post mc ms c' s' (p ++ ob :: R') q ls (.ref (b0 + o) :: st) (upA M o (fun _ => 0))) : S l G b0 y cc nL ret rm lay' Post mc ms cells slots (p ++ ob :: R) pc ls st M := by
  subst hc1; subst hs1
  refine S_new hd hc hin hty h1 h2 h3 hdf hC hS hq ?_
  rw [happ, hlen hn hr, hR, ho]
  exact k1
theorem S_hnewarr {m : Nat} {x : Int32} (R' : Lay) (hn : p.length = n) (hr : R.length = r) (ho : n + 1 + r = o) (hR : R ++ [.inr (.inl m)] = R') (hd : decode cc pc = .ok (.newarray .int, 2)) (hx : x = nI m) (hm : m ≤ 100000) (hc1 : cells + 1 = c') (hs1 : slots + m = s') (hC : c' ≤ rm.cells) (hS : s' ≤ rm.slots) (hq : pc + 2 = q) (k1 : S l G b0 y cc nL ret rm lay' Post mc ms c' s' (p ++ ob :: R') q ls (.ref (b0 + o) :: st) (upA M o (fun _ => 0))) : S l G b0 y cc nL ret rm lay' Post mc ms cells slots (p ++ ob :: R) pc ls (.int x :: st) M := by
  subst hc1; subst hs1
  refine S_newarr hd (TG_tab 45 (by decide +kernel) rfl) hx hm hC hS hq ?_
  rw [happ, hlen hn hr, hR, ho]
  exact k1
theorem S_hanew {m idx t : Nat} {C : String} {x : Int32} (R' : Lay) (hn : p.length = n) (hr : R.length = r) (ho : n + 1 + r = o) (hR : R ++ [.inr (.inr (t, List.replicate m none))] = R') (hd : decode cc pc = .ok (.anewarray idx, 3)) (ht : t < 2) (hC0 : C = if t = 0 then RX1 else RX7) (h1 : Cond.classLink y.cls idx C ∈ TG) (h2 : Cond.arrayOver (.object C) ∈ tables_1) (hx : x = nI m) (hm : m ≤ 100000) (hc1 : cells + 1 = c') (hs1 : slots + m = s') (hC : c' ≤ rm.cells) (hS : s' ≤ rm.slots) (hq : pc + 3 = q) (k1 : S l G b0 y cc nL ret rm lay' Post mc ms c' s' (p ++ ob :: R') q ls (.ref (b0 + o) :: st) (upA M o (fun _ => 0))) : S l G b0 y cc nL ret rm lay' Post mc ms cells slots (p ++ ob :: R) pc ls (.int x :: st) M := by
  subst hc1; subst hs1
  refine S_anew hd ht hC0 h1 h2 hx hm hC hS hq ?_
  rw [happ, hlen hn hr, hR, ho]
  exact k1
theorem S_hputF {ci j idx : Nat} {fs : List (Option (Option Nat))} {x0 : Option Nat} {ty : FieldType} (fs' : List (Option (Option Nat))) (hn : p.length = n) (hs : fs.set j (some (some o)) = fs') (hj : fs[j]? = some (some x0)) (hd : decode cc pc = .ok (.putfield idx, 3)) (hf : FPF y.cls idx ci j ty) (hy : y.name = "<init>") (hfit : ∀ b, narrow ty (.ref b) = .ref b ∧ fits ty (.ref b) = true) (hq : pc + 3 = q) (k1 : S l G b0 y cc nL ret rm lay' Post mc ms cells slots (p ++ .inl (ci, fs') :: R) q ls st M) : S l G b0 y cc nL ret rm lay' Post mc ms cells slots (p ++ .inl (ci, fs) :: R) pc ls (.ref (b0 + o) :: .ref (b0 + n) :: st) M := by
  refine S_putF hd hf (hget hn) hj hy hfit hq ?_
  rw [hset hn, hs]
  exact k1
theorem S_haast {t ok ro ao ci N i : Nat} {rs : List (Option Nat)} {C : String} {T : u_T} {fs : List (Option (Option Nat))} {x : Int32} (R' : Lay) (hn : p.length = n) (ha : n + 1 + r = ao) (hka : R[r]? = some (.inr (.inr (t, rs)))) (hro : n + 1 + ro = ok) (hko : R[ro]? = some (.inl (ci, fs))) (hR : R.set r (.inr (.inr (t, rs.set i (some ok)))) = R') (hd : decode cc pc = .ok (.aastore, 1)) (ht : t < 2) (hc : vwCl[ci]? = some (C, T, N)) (hC0 : C = if t = 0 then RX1 else RX7) (hx : x = nI i) (hi : i < rs.length) (hr : rs.length < 2 ^ 31) (hq : pc + 1 = q) (k1 : S l G b0 y cc nL ret rm lay' Post mc ms cells slots (p ++ ob :: R') q ls st M) : S l G b0 y cc nL ret rm lay' Post mc ms cells slots (p ++ ob :: R) pc ls (.ref (b0 + ok) :: .int x :: .ref (b0 + ao) :: st) M := by
  refine S_aast hd (hgetR hn ha hka) ht (hgetR hn hro hko) hc hC0 hx hi hr hq ?_
  rw [hsetR hn ha, hR]
  exact k1
variable {y' : MethodName} {cc' : ByteArray} {n' : Nat} {rm' : Room} {Z : Lay} {x : LE} {Post' : PT}
theorem S_hcall0 {idx z : Nat} {rest : List Value} (R0 R' : Lay) (hn : p.length = n) (hr : R0.length = r) (ho : n + 1 + r = o) (hR0 : R0 ++ [x] = R) (hRR : R0 ++ Z = R') (hd : decode cc pc = .ok (.invokespecial idx, 3)) (hL : LkI y.cls idx y' cc' n' 0) (hM : Ct l G b0 y' cc' n' none rm' ((p ++ ob :: R0) ++ [x]) ((p ++ ob :: R0) ++ Z) M [.ref (b0 + o)] Post') (hz : Z.length = z) (hzc : z = 1 + rm'.cells) (hW : (rest.map fun v => v.category).sum ≤ 8) (hR : rm'.frames + 1 ≤ rm.frames ∧ 8 + (n' + 11) + rm'.locals ≤ rm.locals) (hc1 : cells + rm'.cells = c') (hs1 : slots + rm'.slots = s') (hC : c' ≤ rm.cells) (hS : s' ≤ rm.slots) (hq : pc + 3 = q) (kk : ∀ (v : Int32) (M' : Mem), Post' v M' → S l G b0 y cc nL ret rm lay' Post mc ms c' s' (p ++ ob :: R') q ls rest M') : S l G b0 y cc nL ret rm lay' Post mc ms cells slots (p ++ ob :: R) pc ls (.ref (b0 + o) :: rest) M := by
  subst hc1; subst hs1; subst hR0
  rw [← happ]
  refine S_callI0 hd hL hM (by simp only [List.length_append, List.length_cons, List.length_nil, hz, hzc]; omega) hW hR ⟨hC, hS⟩ hq (fun v M' hv => ?_)
  rw [happL, hRR]
  exact kk v M' hv
theorem S_hcall1 {idx z : Nat} {a1 : Value} {rest : List Value} (R0 R' : Lay) (hn : p.length = n) (hr : R0.length = r) (ho : n + 1 + r = o) (hR0 : R0 ++ [x] = R) (hRR : R0 ++ Z = R') (hd : decode cc pc = .ok (.invokespecial idx, 3)) (hL : LkI y.cls idx y' cc' n' 1) (hM : Ct l G b0 y' cc' n' none rm' ((p ++ ob :: R0) ++ [x]) ((p ++ ob :: R0) ++ Z) M [.ref (b0 + o), a1] Post') (hz : Z.length = z) (hzc : z = 1 + rm'.cells) (hW : (rest.map fun v => v.category).sum ≤ 8) (hR : rm'.frames + 1 ≤ rm.frames ∧ 8 + (n' + 11) + rm'.locals ≤ rm.locals) (hc1 : cells + rm'.cells = c') (hs1 : slots + rm'.slots = s') (hC : c' ≤ rm.cells) (hS : s' ≤ rm.slots) (hq : pc + 3 = q) (kk : ∀ (v : Int32) (M' : Mem), Post' v M' → S l G b0 y cc nL ret rm lay' Post mc ms c' s' (p ++ ob :: R') q ls rest M') : S l G b0 y cc nL ret rm lay' Post mc ms cells slots (p ++ ob :: R) pc ls (a1 :: .ref (b0 + o) :: rest) M := by
  subst hc1; subst hs1; subst hR0
  rw [← happ]
  refine S_callI1 hd hL hM (by simp only [List.length_append, List.length_cons, List.length_nil, hz, hzc]; omega) hW hR ⟨hC, hS⟩ hq (fun v M' hv => ?_)
  rw [happL, hRR]
  exact kk v M' hv
end HEAD
def dv0 (x : Option (Option Nat)) : Value := match x with
  | none => .int 0
  | some _ => .null
theorem df_of {n b0 : Nat} {ty : Nat → FieldType} {dl : List (Option (Option Nat))} (h : ∀ j, j < n → (dl[j]?).map dv0 = some (defaultValue (ty j))) (h2 : ∀ x ∈ dl, x = none ∨ x = some none) : ∀ j, j < n → defaultValue (ty j) = vp_V (dl.mapIdx (fun j x => fv b0 (fun _ => 0) j x)) j := by
  intro j hj
  have h3 := h j hj
  cases e : dl[j]? with
  | none => rw [e] at h3; cases h3
  | some x =>
    rw [e] at h3
    have h4 : dv0 x = defaultValue (ty j) := Option.some.inj h3
    unfold vp_V
    rw [List.getD_eq_getElem?_getD, List.getElem?_mapIdx, e, ← h4]
    rcases h2 x (List.mem_of_getElem? e) with rfl | rfl <;> rfl
theorem ns_X0 : Cond.instantiable RX0 3 ∈ TG := (TG_tab 30 (by decide +kernel) rfl)
theorem ii_X0 : Cond.initialized RX0 ∈ TG := (TG_tab 3 (by decide +kernel) rfl)
theorem df_X0 {b0 : Nat} : ∀ j, j < 3 → defaultValue (tyX0 j) = vp_V (([some none, some none, some none] : List (Option (Option Nat))).mapIdx (fun j x => fv b0 (fun _ => 0) j x)) j := df_of (by decide +kernel) (by decide +kernel)
theorem ns_X1 : Cond.instantiable RX1 5 ∈ TG := (TG_tab 24 (by decide +kernel) rfl)
theorem ii_X1 : Cond.initialized RX1 ∈ TG := (TG_tab 2 (by decide +kernel) rfl)
theorem df_X1 {b0 : Nat} : ∀ j, j < 5 → defaultValue (tyX1 j) = vp_V (([none, none, none, some none, some none] : List (Option (Option Nat))).mapIdx (fun j x => fv b0 (fun _ => 0) j x)) j := df_of (by decide +kernel) (by decide +kernel)
theorem ns_X2 : Cond.instantiable RX2 3 ∈ TG := (TG_tab 74 (by decide +kernel) rfl)
theorem ii_X2 : Cond.initialized RX2 ∈ TG := (TG_tab 4 (by decide +kernel) rfl)
theorem df_X2 {b0 : Nat} : ∀ j, j < 3 → defaultValue (tyX2 j) = vp_V (([some none, none, none] : List (Option (Option Nat))).mapIdx (fun j x => fv b0 (fun _ => 0) j x)) j := df_of (by decide +kernel) (by decide +kernel)
theorem ns_X3 : Cond.instantiable RX3 12 ∈ TG := (TG_tab 93 (by decide +kernel) rfl)
theorem ii_X3 : Cond.initialized RX3 ∈ TG := (TG_tab 5 (by decide +kernel) rfl)
theorem df_X3 {b0 : Nat} : ∀ j, j < 12 → defaultValue (tyX3 j) = vp_V (([none, none, some none, some none, some none, some none, some none, some none, some none, some none, none, none] : List (Option (Option Nat))).mapIdx (fun j x => fv b0 (fun _ => 0) j x)) j := df_of (by decide +kernel) (by decide +kernel)
theorem ns_X4 : Cond.instantiable RX4 4 ∈ TG := (TG_tab 162 (by decide +kernel) rfl)
theorem ii_X4 : Cond.initialized RX4 ∈ TG := (TG_tab 7 (by decide +kernel) rfl)
theorem df_X4 {b0 : Nat} : ∀ j, j < 4 → defaultValue (tyX4 j) = vp_V (([some none, some none, none, none] : List (Option (Option Nat))).mapIdx (fun j x => fv b0 (fun _ => 0) j x)) j := df_of (by decide +kernel) (by decide +kernel)
theorem ns_X5 : Cond.instantiable RX5 4 ∈ TG := (TG_tab 138 (by decide +kernel) rfl)
theorem ii_X5 : Cond.initialized RX5 ∈ TG := (TG_tab 6 (by decide +kernel) rfl)
theorem df_X5 {b0 : Nat} : ∀ j, j < 4 → defaultValue (tyX5 j) = vp_V (([some none, none, none, none] : List (Option (Option Nat))).mapIdx (fun j x => fv b0 (fun _ => 0) j x)) j := df_of (by decide +kernel) (by decide +kernel)
theorem ns_X6 : Cond.instantiable RX6 10 ∈ TG := (TG_tab 187 (by decide +kernel) rfl)
theorem ii_X6 : Cond.initialized RX6 ∈ TG := (TG_tab 8 (by decide +kernel) rfl)
theorem df_X6 {b0 : Nat} : ∀ j, j < 10 → defaultValue (tyX6 j) = vp_V (([some none, some none, some none, some none, some none, none, none, none, none, none] : List (Option (Option Nat))).mapIdx (fun j x => fv b0 (fun _ => 0) j x)) j := df_of (by decide +kernel) (by decide +kernel)
theorem ns_X7 : Cond.instantiable RX7 3 ∈ TG := (TG_tab 249 (by decide +kernel) rfl)
theorem ii_X7 : Cond.initialized RX7 ∈ TG := (TG_tab 11 (by decide +kernel) rfl)
theorem df_X7 {b0 : Nat} : ∀ j, j < 3 → defaultValue (tyX7 j) = vp_V (([some none, none, none] : List (Option (Option Nat))).mapIdx (fun j x => fv b0 (fun _ => 0) j x)) j := df_of (by decide +kernel) (by decide +kernel)
theorem ns_X8 : Cond.instantiable RX8 2 ∈ TG := (TG_tab 230 (by decide +kernel) rfl)
theorem ii_X8 : Cond.initialized RX8 ∈ TG := (TG_tab 9 (by decide +kernel) rfl)
theorem df_X8 {b0 : Nat} : ∀ j, j < 2 → defaultValue (tyX8 j) = vp_V (([some none, none] : List (Option (Option Nat))).mapIdx (fun j x => fv b0 (fun _ => 0) j x)) j := df_of (by decide +kernel) (by decide +kernel)
theorem ns_X9 : Cond.instantiable RX9 16 ∈ TG := (TG_tab 16 (by decide +kernel) rfl)
theorem ii_X9 : Cond.initialized RX9 ∈ TG := (TG_tab 1 (by decide +kernel) rfl)
theorem df_X9 {b0 : Nat} : ∀ j, j < 16 → defaultValue (tyX9 j) = vp_V (([some none, some none, some none, none, some none, some none, some none, some none, some none, none, none, none, some none, some none, some none, some none] : List (Option (Option Nat))).mapIdx (fun j x => fv b0 (fun _ => 0) j x)) j := df_of (by decide +kernel) (by decide +kernel)
theorem oi_X0 : Cond.methodLink RX0 3 Lib.objectInit ∈ TG := (TG_tab 34 (by decide +kernel) rfl)
theorem pf_X0_9 : FPF RX0 9 0 0 (tyX0 0) := ⟨RX0, TX0, 3, tyX0, rfl, by decide, in_X0, (TG_tab 35 (by decide +kernel) rfl), tyX0_ok, nmX0, rfl, rfl, by decide +kernel⟩
theorem pf_X0_15 : FPF RX0 15 0 1 (tyX0 1) := ⟨RX0, TX0, 3, tyX0, rfl, by decide, in_X0, (TG_tab 36 (by decide +kernel) rfl), tyX0_ok, nmX0, rfl, rfl, by decide +kernel⟩
theorem pf_X0_18 : FPF RX0 18 0 2 (tyX0 2) := ⟨RX0, TX0, 3, tyX0, rfl, by decide, in_X0, (TG_tab 37 (by decide +kernel) rfl), tyX0_ok, nmX0, rfl, rfl, by decide +kernel⟩
theorem oi_X1 : Cond.methodLink RX1 3 Lib.objectInit ∈ TG := (TG_tab 28 (by decide +kernel) rfl)
theorem cw_X1_21 : Cond.classLink RX1 21 RX0 ∈ TG := (TG_tab 29 (by decide +kernel) rfl)
theorem pf_X1_24 : FPF RX1 24 1 3 (tyX1 3) := ⟨RX1, TX1, 5, tyX1, rfl, by decide, in_X1, (TG_tab 55 (by decide +kernel) rfl), tyX1_ok, nmX1, rfl, rfl, by decide +kernel⟩
theorem pf_X1_28 : FPF RX1 28 1 4 (tyX1 4) := ⟨RX1, TX1, 5, tyX1, rfl, by decide, in_X1, (TG_tab 57 (by decide +kernel) rfl), tyX1_ok, nmX1, rfl, rfl, by decide +kernel⟩
theorem oi_X2 : Cond.methodLink RX2 3 Lib.objectInit ∈ TG := (TG_tab 78 (by decide +kernel) rfl)
theorem cw_X2_9 : Cond.classLink RX2 9 RX1 ∈ TG := (TG_tab 79 (by decide +kernel) rfl)
theorem ao_X2_9 : Cond.arrayOver (.object RX1) ∈ tables_1 := List.mem_of_getElem? (i := 80) (by decide +kernel)
theorem pf_X2_11 : FPF RX2 11 2 0 (tyX2 0) := ⟨RX2, TX2, 3, tyX2, rfl, by decide, in_X2, (TG_tab 82 (by decide +kernel) rfl), tyX2_ok, nmX2, rfl, rfl, by decide +kernel⟩
theorem oi_X3 : Cond.methodLink RX3 3 Lib.objectInit ∈ TG := (TG_tab 97 (by decide +kernel) rfl)
theorem pf_X3_18 : FPF RX3 18 3 2 (tyX3 2) := ⟨RX3, TX3, 12, tyX3, rfl, by decide, in_X3, (TG_tab 100 (by decide +kernel) rfl), tyX3_ok, nmX3, rfl, rfl, by decide +kernel⟩
theorem pf_X3_22 : FPF RX3 22 3 3 (tyX3 3) := ⟨RX3, TX3, 12, tyX3, rfl, by decide, in_X3, (TG_tab 101 (by decide +kernel) rfl), tyX3_ok, nmX3, rfl, rfl, by decide +kernel⟩
theorem pf_X3_25 : FPF RX3 25 3 4 (tyX3 4) := ⟨RX3, TX3, 12, tyX3, rfl, by decide, in_X3, (TG_tab 102 (by decide +kernel) rfl), tyX3_ok, nmX3, rfl, rfl, by decide +kernel⟩
theorem pf_X3_28 : FPF RX3 28 3 5 (tyX3 5) := ⟨RX3, TX3, 12, tyX3, rfl, by decide, in_X3, (TG_tab 103 (by decide +kernel) rfl), tyX3_ok, nmX3, rfl, rfl, by decide +kernel⟩
theorem pf_X3_31 : FPF RX3 31 3 6 (tyX3 6) := ⟨RX3, TX3, 12, tyX3, rfl, by decide, in_X3, (TG_tab 104 (by decide +kernel) rfl), tyX3_ok, nmX3, rfl, rfl, by decide +kernel⟩
theorem pf_X3_34 : FPF RX3 34 3 7 (tyX3 7) := ⟨RX3, TX3, 12, tyX3, rfl, by decide, in_X3, (TG_tab 105 (by decide +kernel) rfl), tyX3_ok, nmX3, rfl, rfl, by decide +kernel⟩
theorem pf_X3_37 : FPF RX3 37 3 8 (tyX3 8) := ⟨RX3, TX3, 12, tyX3, rfl, by decide, in_X3, (TG_tab 106 (by decide +kernel) rfl), tyX3_ok, nmX3, rfl, rfl, by decide +kernel⟩
theorem pf_X3_40 : FPF RX3 40 3 9 (tyX3 9) := ⟨RX3, TX3, 12, tyX3, rfl, by decide, in_X3, (TG_tab 107 (by decide +kernel) rfl), tyX3_ok, nmX3, rfl, rfl, by decide +kernel⟩
theorem oi_X4 : Cond.methodLink RX4 1 Lib.objectInit ∈ TG := (TG_tab 166 (by decide +kernel) rfl)
theorem cw_X4_7 : Cond.classLink RX4 7 RX1 ∈ TG := (TG_tab 167 (by decide +kernel) rfl)
theorem pf_X4_10 : FPF RX4 10 4 0 (tyX4 0) := ⟨RX4, TX4, 4, tyX4, rfl, by decide, in_X4, (TG_tab 171 (by decide +kernel) rfl), tyX4_ok, nmX4, rfl, rfl, by decide +kernel⟩
theorem cw_X4_16 : Cond.classLink RX4 16 RX5 ∈ TG := (TG_tab 169 (by decide +kernel) rfl)
theorem pf_X4_19 : FPF RX4 19 4 1 (tyX4 1) := ⟨RX4, TX4, 4, tyX4, rfl, by decide, in_X4, (TG_tab 172 (by decide +kernel) rfl), tyX4_ok, nmX4, rfl, rfl, by decide +kernel⟩
theorem oi_X5 : Cond.methodLink RX5 3 Lib.objectInit ∈ TG := (TG_tab 142 (by decide +kernel) rfl)
theorem cw_X5_9 : Cond.classLink RX5 9 RX3 ∈ TG := (TG_tab 143 (by decide +kernel) rfl)
theorem pf_X5_12 : FPF RX5 12 5 0 (tyX5 0) := ⟨RX5, TX5, 4, tyX5, rfl, by decide, in_X5, (TG_tab 145 (by decide +kernel) rfl), tyX5_ok, nmX5, rfl, rfl, by decide +kernel⟩
theorem oi_X6 : Cond.methodLink RX6 3 Lib.objectInit ∈ TG := (TG_tab 191 (by decide +kernel) rfl)
theorem cw_X6_9 : Cond.classLink RX6 9 RX1 ∈ TG := (TG_tab 192 (by decide +kernel) rfl)
theorem pf_X6_12 : FPF RX6 12 6 0 (tyX6 0) := ⟨RX6, TX6, 10, tyX6, rfl, by decide, in_X6, (TG_tab 196 (by decide +kernel) rfl), tyX6_ok, nmX6, rfl, rfl, by decide +kernel⟩
theorem cw_X6_18 : Cond.classLink RX6 18 RX5 ∈ TG := (TG_tab 194 (by decide +kernel) rfl)
theorem pf_X6_21 : FPF RX6 21 6 1 (tyX6 1) := ⟨RX6, TX6, 10, tyX6, rfl, by decide, in_X6, (TG_tab 197 (by decide +kernel) rfl), tyX6_ok, nmX6, rfl, rfl, by decide +kernel⟩
theorem pf_X6_25 : FPF RX6 25 6 2 (tyX6 2) := ⟨RX6, TX6, 10, tyX6, rfl, by decide, in_X6, (TG_tab 198 (by decide +kernel) rfl), tyX6_ok, nmX6, rfl, rfl, by decide +kernel⟩
theorem pf_X6_29 : FPF RX6 29 6 3 (tyX6 3) := ⟨RX6, TX6, 10, tyX6, rfl, by decide, in_X6, (TG_tab 199 (by decide +kernel) rfl), tyX6_ok, nmX6, rfl, rfl, by decide +kernel⟩
theorem pf_X6_32 : FPF RX6 32 6 4 (tyX6 4) := ⟨RX6, TX6, 10, tyX6, rfl, by decide, in_X6, (TG_tab 200 (by decide +kernel) rfl), tyX6_ok, nmX6, rfl, rfl, by decide +kernel⟩
theorem oi_X7 : Cond.methodLink RX7 3 Lib.objectInit ∈ TG := (TG_tab 253 (by decide +kernel) rfl)
theorem pf_X7_9 : FPF RX7 9 7 0 (tyX7 0) := ⟨RX7, TX7, 3, tyX7, rfl, by decide, in_X7, (TG_tab 254 (by decide +kernel) rfl), tyX7_ok, nmX7, rfl, rfl, by decide +kernel⟩
theorem oi_X8 : Cond.methodLink RX8 1 Lib.objectInit ∈ TG := (TG_tab 234 (by decide +kernel) rfl)
theorem pf_X8_19 : FPF RX8 19 8 0 (tyX8 0) := ⟨RX8, TX8, 2, tyX8, rfl, by decide, in_X8, (TG_tab 238 (by decide +kernel) rfl), tyX8_ok, nmX8, rfl, rfl, by decide +kernel⟩
theorem oi_X9 : Cond.methodLink RX9 3 Lib.objectInit ∈ TG := (TG_tab 20 (by decide +kernel) rfl)
theorem cw_X9_9 : Cond.classLink RX9 9 RX1 ∈ TG := (TG_tab 23 (by decide +kernel) rfl)
theorem pf_X9_12 : FPF RX9 12 9 0 (tyX9 0) := ⟨RX9, TX9, 16, tyX9, rfl, by decide, in_X9, (TG_tab 280 (by decide +kernel) rfl), tyX9_ok, nmX9, rfl, rfl, by decide +kernel⟩
theorem pf_X9_16 : FPF RX9 16 9 1 (tyX9 1) := ⟨RX9, TX9, 16, tyX9, rfl, by decide, in_X9, (TG_tab 281 (by decide +kernel) rfl), tyX9_ok, nmX9, rfl, rfl, by decide +kernel⟩
theorem pf_X9_19 : FPF RX9 19 9 2 (tyX9 2) := ⟨RX9, TX9, 16, tyX9, rfl, by decide, in_X9, (TG_tab 282 (by decide +kernel) rfl), tyX9_ok, nmX9, rfl, rfl, by decide +kernel⟩
theorem cw_X9_26 : Cond.classLink RX9 26 RX2 ∈ TG := (TG_tab 73 (by decide +kernel) rfl)
theorem pf_X9_29 : FPF RX9 29 9 4 (tyX9 4) := ⟨RX9, TX9, 16, tyX9, rfl, by decide, in_X9, (TG_tab 284 (by decide +kernel) rfl), tyX9_ok, nmX9, rfl, rfl, by decide +kernel⟩
theorem cw_X9_33 : Cond.classLink RX9 33 RX3 ∈ TG := (TG_tab 92 (by decide +kernel) rfl)
theorem pf_X9_36 : FPF RX9 36 9 5 (tyX9 5) := ⟨RX9, TX9, 16, tyX9, rfl, by decide, in_X9, (TG_tab 285 (by decide +kernel) rfl), tyX9_ok, nmX9, rfl, rfl, by decide +kernel⟩
theorem cw_X9_40 : Cond.classLink RX9 40 RX5 ∈ TG := (TG_tab 137 (by decide +kernel) rfl)
theorem pf_X9_43 : FPF RX9 43 9 6 (tyX9 6) := ⟨RX9, TX9, 16, tyX9, rfl, by decide, in_X9, (TG_tab 286 (by decide +kernel) rfl), tyX9_ok, nmX9, rfl, rfl, by decide +kernel⟩
theorem cw_X9_47 : Cond.classLink RX9 47 RX4 ∈ TG := (TG_tab 161 (by decide +kernel) rfl)
theorem pf_X9_50 : FPF RX9 50 9 7 (tyX9 7) := ⟨RX9, TX9, 16, tyX9, rfl, by decide, in_X9, (TG_tab 287 (by decide +kernel) rfl), tyX9_ok, nmX9, rfl, rfl, by decide +kernel⟩
theorem cw_X9_54 : Cond.classLink RX9 54 RX6 ∈ TG := (TG_tab 186 (by decide +kernel) rfl)
theorem pf_X9_57 : FPF RX9 57 9 8 (tyX9 8) := ⟨RX9, TX9, 16, tyX9, rfl, by decide, in_X9, (TG_tab 288 (by decide +kernel) rfl), tyX9_ok, nmX9, rfl, rfl, by decide +kernel⟩
theorem cw_X9_71 : Cond.classLink RX9 71 RX8 ∈ TG := (TG_tab 229 (by decide +kernel) rfl)
theorem pf_X9_76 : FPF RX9 76 9 12 (tyX9 12) := ⟨RX9, TX9, 16, tyX9, rfl, by decide, in_X9, (TG_tab 292 (by decide +kernel) rfl), tyX9_ok, nmX9, rfl, rfl, by decide +kernel⟩
theorem pf_X9_80 : FPF RX9 80 9 13 (tyX9 13) := ⟨RX9, TX9, 16, tyX9, rfl, by decide, in_X9, (TG_tab 293 (by decide +kernel) rfl), tyX9_ok, nmX9, rfl, rfl, by decide +kernel⟩
theorem cw_X9_83 : Cond.classLink RX9 83 RX0 ∈ TG := (TG_tab 245 (by decide +kernel) rfl)
theorem pf_X9_86 : FPF RX9 86 9 14 (tyX9 14) := ⟨RX9, TX9, 16, tyX9, rfl, by decide, in_X9, (TG_tab 294 (by decide +kernel) rfl), tyX9_ok, nmX9, rfl, rfl, by decide +kernel⟩
theorem cw_X9_90 : Cond.classLink RX9 90 RX7 ∈ TG := (TG_tab 247 (by decide +kernel) rfl)
theorem ao_X9_90 : Cond.arrayOver (.object RX7) ∈ tables_1 := List.mem_of_getElem? (i := 248) (by decide +kernel)
theorem pf_X9_93 : FPF RX9 93 9 15 (tyX9 15) := ⟨RX9, TX9, 16, tyX9, rfl, by decide, in_X9, (TG_tab 295 (by decide +kernel) rfl), tyX9_ok, nmX9, rfl, rfl, by decide +kernel⟩
theorem oi_i : Cond.instanceMethod Lib.objectInit ∈ TG := (TG_tab 21 (by decide +kernel) rfl)
theorem oi_c : Cond.code Lib.objectInit ⟨#[0xb1]⟩ 1 none ∈ TG := (TG_tab 22 (by decide +kernel) rfl)
