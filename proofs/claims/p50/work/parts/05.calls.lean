
theorem good_cons {w : Cond} (h : w ∈ TG) {ws : List Cond} (h2 : GoodIn TG ws) : GoodIn TG (w :: ws) := fun x hx => (List.mem_cons.mp hx).elim (fun e => by rw [e]; exact ⟨h, TG_good h⟩) (h2 x)
theorem good_TG : GoodIn TG TG := fun _ h => ⟨h, TG_good h⟩
def hnd (y : MethodName) (na : Nat) : Prop := y.cls ≠ "java/lang/invoke/MethodHandle" ∧ y.cls ≠ "java/lang/invoke/VarHandle" ∧ (parseMethodDescriptor y.desc).map (fun d => d.parameters.length) = some na
/-- the words of a call, by kind: virtual, static, a nest mate's static, a nest mate's or one's own <init> -/
def LkV (own : String) (idx : Nat) (y' : MethodName) (cc' : ByteArray) (n' : Nat) (ret' : Option FieldType) (na : Nat) : Prop := GoodIn TG (wsV own idx y'.cls y' (.code y' cc' n' ret' :: TG)) ∧ hnd y' na
def LkS (own : String) (idx : Nat) (y' : MethodName) (cc' : ByteArray) (n' : Nat) (ret' : Option FieldType) (na : Nat) : Prop := GoodIn TG (va_wsS own idx y' (.code y' cc' n' ret' :: TG)) ∧ hnd y' na
def LkSN (own : String) (idx : Nat) (y' : MethodName) (cc' : ByteArray) (n' : Nat) (ret' : Option FieldType) (na : Nat) : Prop := (GoodIn TG (.code y' cc' n' ret' :: TG) ∧ (∃ host, Cond.methodLinkNest own idx y' host ∈ tables_1) ∧ Cond.initialized y'.cls ∈ TG ∧ Cond.static y' ∈ TG) ∧ hnd y' na
def LkI (own : String) (idx : Nat) (y' : MethodName) (cc' : ByteArray) (n' : Nat) (na : Nat) : Prop := (GoodIn TG (.code y' cc' n' none :: TG) ∧ (Cond.methodLink own idx y' ∈ TG ∨ ∃ host, Cond.methodLinkNest own idx y' host ∈ tables_1) ∧ Cond.initialized y'.cls ∈ TG ∧ Cond.instanceMethod y' ∈ TG ∧ y'.name = "<init>") ∧ hnd y' na
theorem LkV.of {own : String} {idx : Nat} {y' : MethodName} {cc' : ByteArray} {n' : Nat} {ret' : Option FieldType} {na : Nat} (h1 : Cond.methodLink own idx y' ∈ TG) (h2 : Cond.instanceMethod y' ∈ TG) (h3 : Cond.selects y'.cls y' y' ∈ TG) (h4 : Cond.initialized y'.cls ∈ TG) (h5 : Cond.code y' cc' n' ret' ∈ TG) (hd : hnd y' na) : LkV own idx y' cc' n' ret' na := ⟨good_cons h1 (good_cons h2 (good_cons h3 (good_cons h4 (good_cons h5 good_TG)))), hd⟩
theorem LkS.of {own : String} {idx : Nat} {y' : MethodName} {cc' : ByteArray} {n' : Nat} {ret' : Option FieldType} {na : Nat} (h1 : Cond.methodLink own idx y' ∈ TG) (h2 : Cond.static y' ∈ TG) (h4 : Cond.initialized y'.cls ∈ TG) (h5 : Cond.code y' cc' n' ret' ∈ TG) (hd : hnd y' na) : LkS own idx y' cc' n' ret' na := ⟨good_cons h1 (good_cons h2 (good_cons h4 (good_cons h5 good_TG))), hd⟩
theorem LkSN.of {own : String} {idx : Nat} {y' : MethodName} {cc' : ByteArray} {n' : Nat} {ret' : Option FieldType} {na : Nat} {host : String} (h1 : Cond.methodLinkNest own idx y' host ∈ tables_1) (h2 : Cond.static y' ∈ TG) (h4 : Cond.initialized y'.cls ∈ TG) (h5 : Cond.code y' cc' n' ret' ∈ TG) (hd : hnd y' na) : LkSN own idx y' cc' n' ret' na := ⟨⟨good_cons h5 good_TG, ⟨host, h1⟩, h4, h2⟩, hd⟩
theorem LkI.of {own : String} {idx : Nat} {y' : MethodName} {cc' : ByteArray} {n' : Nat} {na : Nat} (h1 : Cond.methodLink own idx y' ∈ TG ∨ ∃ host, Cond.methodLinkNest own idx y' host ∈ tables_1) (h2 : Cond.instanceMethod y' ∈ TG) (h4 : Cond.initialized y'.cls ∈ TG) (h5 : Cond.code y' cc' n' none ∈ TG) (hn : y'.name = "<init>") (hd : hnd y' na) : LkI own idx y' cc' n' na := ⟨⟨good_cons h5 good_TG, h1, h4, h2, hn⟩, hd⟩
theorem lg_sl1 : ∀ (vs : List Value), vs.all (fun v => v.category == 1) = true → lg_sl vs = vs.map Slot.val := by
  intro vs
  induction vs with
  | nil => intro _; rfl
  | cons v vs ih =>
    intro h
    simp only [List.all_cons, Bool.and_eq_true, beq_iff_eq] at h
    have h2 := ih h.2
    unfold lg_sl at h2 ⊢
    rw [List.flatMap_cons, h2, if_neg (by omega)]
    rfl
theorem LH_entry {vs : List Value} {nL : Nat} (hlen : vs.length ≤ nL) (hcat : vs.all (fun v => v.category == 1) = true) : LH ((lg_sl vs ++ List.replicate (nL - (lg_sl vs).length) Slot.unset).toArray) nL (vs.map some ++ List.replicate (nL - vs.length) none) := by
  have e := lg_sl1 vs hcat
  have hl := lv_entry vs (n := nL) (by rw [e]; simpa using hlen)
  refine ⟨hl.1, hl.2.1, by simp; omega, fun i v hi => ?_⟩
  have hlt : i < vs.length := by
    rcases Nat.lt_or_ge i vs.length with h | h
    · exact h
    · rw [List.getElem?_append_right (by simpa using h)] at hi
      have := List.mem_of_getElem? hi
      simp at this
  rw [List.getElem?_append_left (by simpa using hlt)] at hi
  simp only [List.getElem?_map] at hi
  cases hv : vs[i]? with
  | none => rw [hv] at hi; cases hi
  | some z =>
    rw [hv] at hi
    have hzv : z = v := by simpa using hi
    subst hzv
    have hc := List.all_eq_true.mp hcat z (List.mem_of_getElem? hv)
    refine ⟨by simpa using hc, ?_⟩
    rw [e]
    simp only [List.getElem?_toArray]
    rw [List.getElem?_append_left (by simpa using hlt), List.getElem?_map, hv]
    rfl
section CALLS
variable {l : Launch} {G : Gd} {b0 : Nat} {y : MethodName} {cc : ByteArray} {nL : Nat} {ret : Option FieldType} {rm : Room} {lay' : Lay} {Post : PT} {mc ms cells slots : Nat} {lay : Lay} {pc q : Nat} {ls : List (Option Value)} {st : List Value} {M : Mem}
theorem Ct.of {vs : List Value} (ls0 : List (Option Value)) (hy : plainName y.cls = true) (hlen : vs.length ≤ nL) (hcat : vs.all (fun v => v.category == 1) = true) (hls : vs.map some ++ List.replicate (nL - vs.length) none = ls0) (k : S l G b0 y cc nL ret rm lay' Post rm.cells rm.slots 0 0 lay 0 ls0 [] M) : Ct l G b0 y cc nL ret rm lay lay' M vs Post := by
  refine Met.ofW (cc := cc) (maxL := nL) (ret := ret) hy rfl ?_
  intro p e s m args below meth c s₁ B hml hv
  obtain ⟨rfl, hz, hw, hK, hN⟩ := hv
  have hts := atoms_spec (ws := .code y cc nL ret :: TG) B.pre
  rw [lg_entry_eq]
  exact k p e s m _ below meth c ⟨B.exec, B.bytes, B.returns, hml, findClass_of_methodNamed B.named, fun w h => hts w (List.mem_cons_of_mem _ h), B.notSynchronized, hK, hN, (name_of_methodNamed B.named B.method).1⟩ (by omega) (by omega) s.heap [] _ hw va_S.rf (hls ▸ LH_entry hlen hcat)
theorem Ct.blind {vs : List Value} : FrameBlind (va_Pc vs (World G b0 lay M)) := fun a U g mk q => ⟨q.1, q.2.1, q.2.2.1, va_K.moved (u := U) (U := U.calling g mk a) (Vm.Alike.refl U.vm) q.2.2.2.1, NW.same (u := U) (U := U.calling g mk a) rfl q.2.2.2.2⟩
section GO
variable {p : Program} {e : Env} {s : State} {m : MethodId} {args : Array Value} {below : List Frame} {meth : Method} {c : Code} {H : Heap} {locs : List Loc} {Q : State → Prop} {la : Array Slot} {st0 rest : List Value} {a : Array Value} {mc1 ms1 : Nat} {lay1 : Lay} {Post' : PT}
theorem go_int {ty : FieldType} (hr : va_Run p l e rm s m args below meth c H locs cells slots mc1 ms1 (F0 m pc la st0) rest (QC G b0 (some ty) lay1 Post' a) (fun q => b0 ≤ q)) (hs : va_S (fun q => b0 ≤ q) s.heap H locs) (kk : ∀ (v : Int32) (M' : Mem) (H1 : Heap) (locs1 : List Loc), Post' v M' → WD G b0 lay1 M' H1 → va_S (fun q => b0 ≤ q) s.heap H1 locs1 → W p l e rm s m args below meth c H1 locs1 (cells + mc1) (slots + ms1) Q (F0 m (pc + 3) la (.int v :: rest))) : W p l e rm s m args below meth c H locs cells slots Q (F0 m pc la st0) := by
  intro T hT X
  obtain ⟨v, st₀, t, T', L, h0, X', hL, e1, e2, ⟨⟨r, M', hv, hp, hw⟩, hz, hk⟩, st⟩ := hr T hT X
  cases hv
  rw [h0] at hz hk
  obtain ⟨t2, a1, b1⟩ := kk r M' T'.heap (locs ++ L) hp (by rw [e1]; exact hw.2.1) ⟨Nat.le_trans hs.1 (by rw [e1]; exact hz), fun q h1 h2 => by rw [e1, hk q (Nat.lt_of_lt_of_le h1 hs.1) h2]; exact hs.2.1 q h1 h2, fun q hq => (List.mem_append.mp hq).elim (hs.2.2 q) (hL q)⟩ T' rfl X'
  exact ⟨t2, st t2 a1, b1⟩
theorem go_void (hr : va_Run p l e rm s m args below meth c H locs cells slots mc1 ms1 (F0 m pc la st0) rest (QC G b0 none lay1 Post' a) (fun q => b0 ≤ q)) (hs : va_S (fun q => b0 ≤ q) s.heap H locs) (kk : ∀ (v : Int32) (M' : Mem) (H1 : Heap) (locs1 : List Loc), Post' v M' → WD G b0 lay1 M' H1 → va_S (fun q => b0 ≤ q) s.heap H1 locs1 → W p l e rm s m args below meth c H1 locs1 (cells + mc1) (slots + ms1) Q (F0 m (pc + 3) la rest)) : W p l e rm s m args below meth c H locs cells slots Q (F0 m pc la st0) := by
  intro T hT X
  obtain ⟨v, st₀, t, T', L, h0, X', hL, e1, e2, ⟨⟨r, M', hv, hp, hw⟩, hz, hk⟩, st⟩ := hr T hT X
  cases hv
  rw [h0] at hz hk
  obtain ⟨t2, a1, b1⟩ := kk r M' T'.heap (locs ++ L) hp (by rw [e1]; exact hw.2.1) ⟨Nat.le_trans hs.1 (by rw [e1]; exact hz), fun q h1 h2 => by rw [e1, hk q (Nat.lt_of_lt_of_le h1 hs.1) h2]; exact hs.2.1 q h1 h2, fun q hq => (List.mem_append.mp hq).elim (hs.2.2 q) (hL q)⟩ T' rfl X'
  exact ⟨t2, st t2 a1, b1⟩
end GO
variable {y' : MethodName} {cc' : ByteArray} {n' : Nat} {rm' : Room} {lay1 : Lay} {Post' : PT}

theorem S_callV0i {k ci N : Nat} {C : String} {T : u_T} {fs : List (Option (Option Nat))} {idx : Nat} {ty : FieldType} {rest : List Value} (hd : decode cc pc = .ok (.invokevirtual idx, 3)) (hL : LkV y.cls idx y' cc' n' (some ty) 0) (hk : lay[k]? = some (.inl (ci, fs))) (hc : vwCl[ci]? = some (C, T, N)) (hcl : y'.cls = C) (hM : Ct l G b0 y' cc' n' (some ty) rm' lay lay M [.ref (b0 + k)] Post') (h0 : rm'.cells = 0) (h00 : rm'.slots = 0) (hW : (rest.map fun v => v.category).sum ≤ 8) (hR : rm'.frames + 1 ≤ rm.frames ∧ 8 + (n' + 11) + rm'.locals ≤ rm.locals) (hC : cells + rm'.cells ≤ rm.cells ∧ slots + rm'.slots ≤ rm.slots) (hq : pc + 3 = q) (kk : ∀ (v : Int32) (M' : Mem), Post' v M' → S l G b0 y cc nL ret rm lay' Post mc ms cells slots lay q ls (.int v :: rest) M') : S l G b0 y cc nL ret rm lay' Post mc ms cells slots lay pc ls (.ref (b0 + k) :: rest) M := by
  subst hq
  intro p e s m args below meth c F hb hz H locs la hw hs hl
  refine W_size fun h9 => ?_
  refine go_int (va_runV (As := []) (rest := rest) (C := y'.cls) ⟨F.1, F.2.1, F.2.2.2.1, F.2.2.2.2.1, F.2.2.2.2.2.1⟩ hM (cwV 0 F.2.2.2.2.2.1 hL.1 rfl rfl rfl ⟨rfl, hL.2⟩ hR) ⟨Ct.blind, va_recv F.2.2.2.2.2.2.2.1 hw (ci := ci) (q0 := k) (q := (y'.cls, T, N)) (by rw [hcl]; exact hc) (wl_fs hk), fun U hU hW2 => ⟨rfl, by rw [hU]; exact WD.ex hb hz hw hs.1 h9, by rw [hU]; exact hw, va_K.moved hW2.alike F.2.2.2.2.2.2.2.1, NW.warm hW2 F.2.2.2.2.2.2.2.2.1⟩⟩ rfl rfl hl.1 rfl (lv_room hW) hd hC) hs (fun v M' H1 locs1 hp hw1 hs1 => ?_)
  rw [h0, h00, Nat.add_zero, Nat.add_zero]
  exact kk v M' hp p e s m args below meth c F hb hz H1 locs1 la hw1 hs1 hl
theorem S_callV0v {k ci N : Nat} {C : String} {T : u_T} {fs : List (Option (Option Nat))} {idx : Nat} {rest : List Value} (hd : decode cc pc = .ok (.invokevirtual idx, 3)) (hL : LkV y.cls idx y' cc' n' none 0) (hk : lay[k]? = some (.inl (ci, fs))) (hc : vwCl[ci]? = some (C, T, N)) (hcl : y'.cls = C) (hM : Ct l G b0 y' cc' n' none rm' lay lay M [.ref (b0 + k)] Post') (h0 : rm'.cells = 0) (h00 : rm'.slots = 0) (hW : (rest.map fun v => v.category).sum ≤ 8) (hR : rm'.frames + 1 ≤ rm.frames ∧ 8 + (n' + 11) + rm'.locals ≤ rm.locals) (hC : cells + rm'.cells ≤ rm.cells ∧ slots + rm'.slots ≤ rm.slots) (hq : pc + 3 = q) (kk : ∀ (v : Int32) (M' : Mem), Post' v M' → S l G b0 y cc nL ret rm lay' Post mc ms cells slots lay q ls rest M') : S l G b0 y cc nL ret rm lay' Post mc ms cells slots lay pc ls (.ref (b0 + k) :: rest) M := by
  subst hq
  intro p e s m args below meth c F hb hz H locs la hw hs hl
  refine W_size fun h9 => ?_
  refine go_void (va_runV (As := []) (rest := rest) (C := y'.cls) ⟨F.1, F.2.1, F.2.2.2.1, F.2.2.2.2.1, F.2.2.2.2.2.1⟩ hM (cwV 0 F.2.2.2.2.2.1 hL.1 rfl rfl rfl ⟨rfl, hL.2⟩ hR) ⟨Ct.blind, va_recv F.2.2.2.2.2.2.2.1 hw (ci := ci) (q0 := k) (q := (y'.cls, T, N)) (by rw [hcl]; exact hc) (wl_fs hk), fun U hU hW2 => ⟨rfl, by rw [hU]; exact WD.ex hb hz hw hs.1 h9, by rw [hU]; exact hw, va_K.moved hW2.alike F.2.2.2.2.2.2.2.1, NW.warm hW2 F.2.2.2.2.2.2.2.2.1⟩⟩ rfl rfl hl.1 rfl (lv_room hW) hd hC) hs (fun v M' H1 locs1 hp hw1 hs1 => ?_)
  rw [h0, h00, Nat.add_zero, Nat.add_zero]
  exact kk v M' hp p e s m args below meth c F hb hz H1 locs1 la hw1 hs1 hl
theorem S_callV1i {k ci N : Nat} {C : String} {T : u_T} {fs : List (Option (Option Nat))} {idx : Nat} {ty : FieldType} {a1 : Value} {rest : List Value} (hd : decode cc pc = .ok (.invokevirtual idx, 3)) (hL : LkV y.cls idx y' cc' n' (some ty) 1) (hk : lay[k]? = some (.inl (ci, fs))) (hc : vwCl[ci]? = some (C, T, N)) (hcl : y'.cls = C) (hM : Ct l G b0 y' cc' n' (some ty) rm' lay lay M [.ref (b0 + k), a1] Post') (h0 : rm'.cells = 0) (h00 : rm'.slots = 0) (hW : (rest.map fun v => v.category).sum ≤ 8) (hR : rm'.frames + 1 ≤ rm.frames ∧ 8 + (n' + 11) + rm'.locals ≤ rm.locals) (hC : cells + rm'.cells ≤ rm.cells ∧ slots + rm'.slots ≤ rm.slots) (hq : pc + 3 = q) (kk : ∀ (v : Int32) (M' : Mem), Post' v M' → S l G b0 y cc nL ret rm lay' Post mc ms cells slots lay q ls (.int v :: rest) M') : S l G b0 y cc nL ret rm lay' Post mc ms cells slots lay pc ls (a1 :: .ref (b0 + k) :: rest) M := by
  subst hq
  intro p e s m args below meth c F hb hz H locs la hw hs hl
  refine W_size fun h9 => ?_
  refine go_int (va_runV (As := [a1]) (rest := rest) (C := y'.cls) ⟨F.1, F.2.1, F.2.2.2.1, F.2.2.2.2.1, F.2.2.2.2.2.1⟩ hM (cwV 1 F.2.2.2.2.2.1 hL.1 rfl rfl rfl ⟨rfl, hL.2⟩ hR) ⟨Ct.blind, va_recv F.2.2.2.2.2.2.2.1 hw (ci := ci) (q0 := k) (q := (y'.cls, T, N)) (by rw [hcl]; exact hc) (wl_fs hk), fun U hU hW2 => ⟨rfl, by rw [hU]; exact WD.ex hb hz hw hs.1 h9, by rw [hU]; exact hw, va_K.moved hW2.alike F.2.2.2.2.2.2.2.1, NW.warm hW2 F.2.2.2.2.2.2.2.2.1⟩⟩ rfl rfl hl.1 rfl (lv_room hW) hd hC) hs (fun v M' H1 locs1 hp hw1 hs1 => ?_)
  rw [h0, h00, Nat.add_zero, Nat.add_zero]
  exact kk v M' hp p e s m args below meth c F hb hz H1 locs1 la hw1 hs1 hl
theorem S_callV1v {k ci N : Nat} {C : String} {T : u_T} {fs : List (Option (Option Nat))} {idx : Nat} {a1 : Value} {rest : List Value} (hd : decode cc pc = .ok (.invokevirtual idx, 3)) (hL : LkV y.cls idx y' cc' n' none 1) (hk : lay[k]? = some (.inl (ci, fs))) (hc : vwCl[ci]? = some (C, T, N)) (hcl : y'.cls = C) (hM : Ct l G b0 y' cc' n' none rm' lay lay M [.ref (b0 + k), a1] Post') (h0 : rm'.cells = 0) (h00 : rm'.slots = 0) (hW : (rest.map fun v => v.category).sum ≤ 8) (hR : rm'.frames + 1 ≤ rm.frames ∧ 8 + (n' + 11) + rm'.locals ≤ rm.locals) (hC : cells + rm'.cells ≤ rm.cells ∧ slots + rm'.slots ≤ rm.slots) (hq : pc + 3 = q) (kk : ∀ (v : Int32) (M' : Mem), Post' v M' → S l G b0 y cc nL ret rm lay' Post mc ms cells slots lay q ls rest M') : S l G b0 y cc nL ret rm lay' Post mc ms cells slots lay pc ls (a1 :: .ref (b0 + k) :: rest) M := by
  subst hq
  intro p e s m args below meth c F hb hz H locs la hw hs hl
  refine W_size fun h9 => ?_
  refine go_void (va_runV (As := [a1]) (rest := rest) (C := y'.cls) ⟨F.1, F.2.1, F.2.2.2.1, F.2.2.2.2.1, F.2.2.2.2.2.1⟩ hM (cwV 1 F.2.2.2.2.2.1 hL.1 rfl rfl rfl ⟨rfl, hL.2⟩ hR) ⟨Ct.blind, va_recv F.2.2.2.2.2.2.2.1 hw (ci := ci) (q0 := k) (q := (y'.cls, T, N)) (by rw [hcl]; exact hc) (wl_fs hk), fun U hU hW2 => ⟨rfl, by rw [hU]; exact WD.ex hb hz hw hs.1 h9, by rw [hU]; exact hw, va_K.moved hW2.alike F.2.2.2.2.2.2.2.1, NW.warm hW2 F.2.2.2.2.2.2.2.2.1⟩⟩ rfl rfl hl.1 rfl (lv_room hW) hd hC) hs (fun v M' H1 locs1 hp hw1 hs1 => ?_)
  rw [h0, h00, Nat.add_zero, Nat.add_zero]
  exact kk v M' hp p e s m args below meth c F hb hz H1 locs1 la hw1 hs1 hl
theorem S_callV2i {k ci N : Nat} {C : String} {T : u_T} {fs : List (Option (Option Nat))} {idx : Nat} {ty : FieldType} {a1 a2 : Value} {rest : List Value} (hd : decode cc pc = .ok (.invokevirtual idx, 3)) (hL : LkV y.cls idx y' cc' n' (some ty) 2) (hk : lay[k]? = some (.inl (ci, fs))) (hc : vwCl[ci]? = some (C, T, N)) (hcl : y'.cls = C) (hM : Ct l G b0 y' cc' n' (some ty) rm' lay lay M [.ref (b0 + k), a1, a2] Post') (h0 : rm'.cells = 0) (h00 : rm'.slots = 0) (hW : (rest.map fun v => v.category).sum ≤ 8) (hR : rm'.frames + 1 ≤ rm.frames ∧ 8 + (n' + 11) + rm'.locals ≤ rm.locals) (hC : cells + rm'.cells ≤ rm.cells ∧ slots + rm'.slots ≤ rm.slots) (hq : pc + 3 = q) (kk : ∀ (v : Int32) (M' : Mem), Post' v M' → S l G b0 y cc nL ret rm lay' Post mc ms cells slots lay q ls (.int v :: rest) M') : S l G b0 y cc nL ret rm lay' Post mc ms cells slots lay pc ls (a2 :: a1 :: .ref (b0 + k) :: rest) M := by
  subst hq
  intro p e s m args below meth c F hb hz H locs la hw hs hl
  refine W_size fun h9 => ?_
  refine go_int (va_runV (As := [a1, a2]) (rest := rest) (C := y'.cls) ⟨F.1, F.2.1, F.2.2.2.1, F.2.2.2.2.1, F.2.2.2.2.2.1⟩ hM (cwV 2 F.2.2.2.2.2.1 hL.1 rfl rfl rfl ⟨rfl, hL.2⟩ hR) ⟨Ct.blind, va_recv F.2.2.2.2.2.2.2.1 hw (ci := ci) (q0 := k) (q := (y'.cls, T, N)) (by rw [hcl]; exact hc) (wl_fs hk), fun U hU hW2 => ⟨rfl, by rw [hU]; exact WD.ex hb hz hw hs.1 h9, by rw [hU]; exact hw, va_K.moved hW2.alike F.2.2.2.2.2.2.2.1, NW.warm hW2 F.2.2.2.2.2.2.2.2.1⟩⟩ rfl rfl hl.1 rfl (lv_room hW) hd hC) hs (fun v M' H1 locs1 hp hw1 hs1 => ?_)
  rw [h0, h00, Nat.add_zero, Nat.add_zero]
  exact kk v M' hp p e s m args below meth c F hb hz H1 locs1 la hw1 hs1 hl
theorem S_callV2v {k ci N : Nat} {C : String} {T : u_T} {fs : List (Option (Option Nat))} {idx : Nat} {a1 a2 : Value} {rest : List Value} (hd : decode cc pc = .ok (.invokevirtual idx, 3)) (hL : LkV y.cls idx y' cc' n' none 2) (hk : lay[k]? = some (.inl (ci, fs))) (hc : vwCl[ci]? = some (C, T, N)) (hcl : y'.cls = C) (hM : Ct l G b0 y' cc' n' none rm' lay lay M [.ref (b0 + k), a1, a2] Post') (h0 : rm'.cells = 0) (h00 : rm'.slots = 0) (hW : (rest.map fun v => v.category).sum ≤ 8) (hR : rm'.frames + 1 ≤ rm.frames ∧ 8 + (n' + 11) + rm'.locals ≤ rm.locals) (hC : cells + rm'.cells ≤ rm.cells ∧ slots + rm'.slots ≤ rm.slots) (hq : pc + 3 = q) (kk : ∀ (v : Int32) (M' : Mem), Post' v M' → S l G b0 y cc nL ret rm lay' Post mc ms cells slots lay q ls rest M') : S l G b0 y cc nL ret rm lay' Post mc ms cells slots lay pc ls (a2 :: a1 :: .ref (b0 + k) :: rest) M := by
  subst hq
  intro p e s m args below meth c F hb hz H locs la hw hs hl
  refine W_size fun h9 => ?_
  refine go_void (va_runV (As := [a1, a2]) (rest := rest) (C := y'.cls) ⟨F.1, F.2.1, F.2.2.2.1, F.2.2.2.2.1, F.2.2.2.2.2.1⟩ hM (cwV 2 F.2.2.2.2.2.1 hL.1 rfl rfl rfl ⟨rfl, hL.2⟩ hR) ⟨Ct.blind, va_recv F.2.2.2.2.2.2.2.1 hw (ci := ci) (q0 := k) (q := (y'.cls, T, N)) (by rw [hcl]; exact hc) (wl_fs hk), fun U hU hW2 => ⟨rfl, by rw [hU]; exact WD.ex hb hz hw hs.1 h9, by rw [hU]; exact hw, va_K.moved hW2.alike F.2.2.2.2.2.2.2.1, NW.warm hW2 F.2.2.2.2.2.2.2.2.1⟩⟩ rfl rfl hl.1 rfl (lv_room hW) hd hC) hs (fun v M' H1 locs1 hp hw1 hs1 => ?_)
  rw [h0, h00, Nat.add_zero, Nat.add_zero]
  exact kk v M' hp p e s m args below meth c F hb hz H1 locs1 la hw1 hs1 hl
theorem S_callV3i {k ci N : Nat} {C : String} {T : u_T} {fs : List (Option (Option Nat))} {idx : Nat} {ty : FieldType} {a1 a2 a3 : Value} {rest : List Value} (hd : decode cc pc = .ok (.invokevirtual idx, 3)) (hL : LkV y.cls idx y' cc' n' (some ty) 3) (hk : lay[k]? = some (.inl (ci, fs))) (hc : vwCl[ci]? = some (C, T, N)) (hcl : y'.cls = C) (hM : Ct l G b0 y' cc' n' (some ty) rm' lay lay M [.ref (b0 + k), a1, a2, a3] Post') (h0 : rm'.cells = 0) (h00 : rm'.slots = 0) (hW : (rest.map fun v => v.category).sum ≤ 8) (hR : rm'.frames + 1 ≤ rm.frames ∧ 8 + (n' + 11) + rm'.locals ≤ rm.locals) (hC : cells + rm'.cells ≤ rm.cells ∧ slots + rm'.slots ≤ rm.slots) (hq : pc + 3 = q) (kk : ∀ (v : Int32) (M' : Mem), Post' v M' → S l G b0 y cc nL ret rm lay' Post mc ms cells slots lay q ls (.int v :: rest) M') : S l G b0 y cc nL ret rm lay' Post mc ms cells slots lay pc ls (a3 :: a2 :: a1 :: .ref (b0 + k) :: rest) M := by
  subst hq
  intro p e s m args below meth c F hb hz H locs la hw hs hl
  refine W_size fun h9 => ?_
  refine go_int (va_runV (As := [a1, a2, a3]) (rest := rest) (C := y'.cls) ⟨F.1, F.2.1, F.2.2.2.1, F.2.2.2.2.1, F.2.2.2.2.2.1⟩ hM (cwV 3 F.2.2.2.2.2.1 hL.1 rfl rfl rfl ⟨rfl, hL.2⟩ hR) ⟨Ct.blind, va_recv F.2.2.2.2.2.2.2.1 hw (ci := ci) (q0 := k) (q := (y'.cls, T, N)) (by rw [hcl]; exact hc) (wl_fs hk), fun U hU hW2 => ⟨rfl, by rw [hU]; exact WD.ex hb hz hw hs.1 h9, by rw [hU]; exact hw, va_K.moved hW2.alike F.2.2.2.2.2.2.2.1, NW.warm hW2 F.2.2.2.2.2.2.2.2.1⟩⟩ rfl rfl hl.1 rfl (lv_room hW) hd hC) hs (fun v M' H1 locs1 hp hw1 hs1 => ?_)
  rw [h0, h00, Nat.add_zero, Nat.add_zero]
  exact kk v M' hp p e s m args below meth c F hb hz H1 locs1 la hw1 hs1 hl
theorem S_callV3v {k ci N : Nat} {C : String} {T : u_T} {fs : List (Option (Option Nat))} {idx : Nat} {a1 a2 a3 : Value} {rest : List Value} (hd : decode cc pc = .ok (.invokevirtual idx, 3)) (hL : LkV y.cls idx y' cc' n' none 3) (hk : lay[k]? = some (.inl (ci, fs))) (hc : vwCl[ci]? = some (C, T, N)) (hcl : y'.cls = C) (hM : Ct l G b0 y' cc' n' none rm' lay lay M [.ref (b0 + k), a1, a2, a3] Post') (h0 : rm'.cells = 0) (h00 : rm'.slots = 0) (hW : (rest.map fun v => v.category).sum ≤ 8) (hR : rm'.frames + 1 ≤ rm.frames ∧ 8 + (n' + 11) + rm'.locals ≤ rm.locals) (hC : cells + rm'.cells ≤ rm.cells ∧ slots + rm'.slots ≤ rm.slots) (hq : pc + 3 = q) (kk : ∀ (v : Int32) (M' : Mem), Post' v M' → S l G b0 y cc nL ret rm lay' Post mc ms cells slots lay q ls rest M') : S l G b0 y cc nL ret rm lay' Post mc ms cells slots lay pc ls (a3 :: a2 :: a1 :: .ref (b0 + k) :: rest) M := by
  subst hq
  intro p e s m args below meth c F hb hz H locs la hw hs hl
  refine W_size fun h9 => ?_
  refine go_void (va_runV (As := [a1, a2, a3]) (rest := rest) (C := y'.cls) ⟨F.1, F.2.1, F.2.2.2.1, F.2.2.2.2.1, F.2.2.2.2.2.1⟩ hM (cwV 3 F.2.2.2.2.2.1 hL.1 rfl rfl rfl ⟨rfl, hL.2⟩ hR) ⟨Ct.blind, va_recv F.2.2.2.2.2.2.2.1 hw (ci := ci) (q0 := k) (q := (y'.cls, T, N)) (by rw [hcl]; exact hc) (wl_fs hk), fun U hU hW2 => ⟨rfl, by rw [hU]; exact WD.ex hb hz hw hs.1 h9, by rw [hU]; exact hw, va_K.moved hW2.alike F.2.2.2.2.2.2.2.1, NW.warm hW2 F.2.2.2.2.2.2.2.2.1⟩⟩ rfl rfl hl.1 rfl (lv_room hW) hd hC) hs (fun v M' H1 locs1 hp hw1 hs1 => ?_)
  rw [h0, h00, Nat.add_zero, Nat.add_zero]
  exact kk v M' hp p e s m args below meth c F hb hz H1 locs1 la hw1 hs1 hl
theorem S_callV4i {k ci N : Nat} {C : String} {T : u_T} {fs : List (Option (Option Nat))} {idx : Nat} {ty : FieldType} {a1 a2 a3 a4 : Value} {rest : List Value} (hd : decode cc pc = .ok (.invokevirtual idx, 3)) (hL : LkV y.cls idx y' cc' n' (some ty) 4) (hk : lay[k]? = some (.inl (ci, fs))) (hc : vwCl[ci]? = some (C, T, N)) (hcl : y'.cls = C) (hM : Ct l G b0 y' cc' n' (some ty) rm' lay lay M [.ref (b0 + k), a1, a2, a3, a4] Post') (h0 : rm'.cells = 0) (h00 : rm'.slots = 0) (hW : (rest.map fun v => v.category).sum ≤ 8) (hR : rm'.frames + 1 ≤ rm.frames ∧ 8 + (n' + 11) + rm'.locals ≤ rm.locals) (hC : cells + rm'.cells ≤ rm.cells ∧ slots + rm'.slots ≤ rm.slots) (hq : pc + 3 = q) (kk : ∀ (v : Int32) (M' : Mem), Post' v M' → S l G b0 y cc nL ret rm lay' Post mc ms cells slots lay q ls (.int v :: rest) M') : S l G b0 y cc nL ret rm lay' Post mc ms cells slots lay pc ls (a4 :: a3 :: a2 :: a1 :: .ref (b0 + k) :: rest) M := by
  subst hq
  intro p e s m args below meth c F hb hz H locs la hw hs hl
  refine W_size fun h9 => ?_
  refine go_int (va_runV (As := [a1, a2, a3, a4]) (rest := rest) (C := y'.cls) ⟨F.1, F.2.1, F.2.2.2.1, F.2.2.2.2.1, F.2.2.2.2.2.1⟩ hM (cwV 4 F.2.2.2.2.2.1 hL.1 rfl rfl rfl ⟨rfl, hL.2⟩ hR) ⟨Ct.blind, va_recv F.2.2.2.2.2.2.2.1 hw (ci := ci) (q0 := k) (q := (y'.cls, T, N)) (by rw [hcl]; exact hc) (wl_fs hk), fun U hU hW2 => ⟨rfl, by rw [hU]; exact WD.ex hb hz hw hs.1 h9, by rw [hU]; exact hw, va_K.moved hW2.alike F.2.2.2.2.2.2.2.1, NW.warm hW2 F.2.2.2.2.2.2.2.2.1⟩⟩ rfl rfl hl.1 rfl (lv_room hW) hd hC) hs (fun v M' H1 locs1 hp hw1 hs1 => ?_)
  rw [h0, h00, Nat.add_zero, Nat.add_zero]
  exact kk v M' hp p e s m args below meth c F hb hz H1 locs1 la hw1 hs1 hl
theorem S_callV4v {k ci N : Nat} {C : String} {T : u_T} {fs : List (Option (Option Nat))} {idx : Nat} {a1 a2 a3 a4 : Value} {rest : List Value} (hd : decode cc pc = .ok (.invokevirtual idx, 3)) (hL : LkV y.cls idx y' cc' n' none 4) (hk : lay[k]? = some (.inl (ci, fs))) (hc : vwCl[ci]? = some (C, T, N)) (hcl : y'.cls = C) (hM : Ct l G b0 y' cc' n' none rm' lay lay M [.ref (b0 + k), a1, a2, a3, a4] Post') (h0 : rm'.cells = 0) (h00 : rm'.slots = 0) (hW : (rest.map fun v => v.category).sum ≤ 8) (hR : rm'.frames + 1 ≤ rm.frames ∧ 8 + (n' + 11) + rm'.locals ≤ rm.locals) (hC : cells + rm'.cells ≤ rm.cells ∧ slots + rm'.slots ≤ rm.slots) (hq : pc + 3 = q) (kk : ∀ (v : Int32) (M' : Mem), Post' v M' → S l G b0 y cc nL ret rm lay' Post mc ms cells slots lay q ls rest M') : S l G b0 y cc nL ret rm lay' Post mc ms cells slots lay pc ls (a4 :: a3 :: a2 :: a1 :: .ref (b0 + k) :: rest) M := by
  subst hq
  intro p e s m args below meth c F hb hz H locs la hw hs hl
  refine W_size fun h9 => ?_
  refine go_void (va_runV (As := [a1, a2, a3, a4]) (rest := rest) (C := y'.cls) ⟨F.1, F.2.1, F.2.2.2.1, F.2.2.2.2.1, F.2.2.2.2.2.1⟩ hM (cwV 4 F.2.2.2.2.2.1 hL.1 rfl rfl rfl ⟨rfl, hL.2⟩ hR) ⟨Ct.blind, va_recv F.2.2.2.2.2.2.2.1 hw (ci := ci) (q0 := k) (q := (y'.cls, T, N)) (by rw [hcl]; exact hc) (wl_fs hk), fun U hU hW2 => ⟨rfl, by rw [hU]; exact WD.ex hb hz hw hs.1 h9, by rw [hU]; exact hw, va_K.moved hW2.alike F.2.2.2.2.2.2.2.1, NW.warm hW2 F.2.2.2.2.2.2.2.2.1⟩⟩ rfl rfl hl.1 rfl (lv_room hW) hd hC) hs (fun v M' H1 locs1 hp hw1 hs1 => ?_)
  rw [h0, h00, Nat.add_zero, Nat.add_zero]
  exact kk v M' hp p e s m args below meth c F hb hz H1 locs1 la hw1 hs1 hl
theorem S_callS1i {idx : Nat} {ty : FieldType} {a1 : Value} {rest : List Value} (hd : decode cc pc = .ok (.invokestatic idx, 3)) (hL : LkS y.cls idx y' cc' n' (some ty) 1) (hM : Ct l G b0 y' cc' n' (some ty) rm' lay lay M [a1] Post') (h0 : rm'.cells = 0) (h00 : rm'.slots = 0) (hW : (rest.map fun v => v.category).sum ≤ 8) (hR : rm'.frames + 1 ≤ rm.frames ∧ 8 + (n' + 11) + rm'.locals ≤ rm.locals) (hC : cells + rm'.cells ≤ rm.cells ∧ slots + rm'.slots ≤ rm.slots) (hq : pc + 3 = q) (kk : ∀ (v : Int32) (M' : Mem), Post' v M' → S l G b0 y cc nL ret rm lay' Post mc ms cells slots lay q ls (.int v :: rest) M') : S l G b0 y cc nL ret rm lay' Post mc ms cells slots lay pc ls (a1 :: rest) M := by
  subst hq
  intro p e s m args below meth c F hb hz H locs la hw hs hl
  refine W_size fun h9 => ?_
  refine go_int (va_runS (As := [a1]) (rest := rest) ⟨F.1, F.2.1, F.2.2.2.1, F.2.2.2.2.1, F.2.2.2.2.2.1⟩ hM (va_cwS 1 F.2.2.2.2.2.1 hL.1 rfl rfl rfl hL.2 hR) ⟨Ct.blind, fun U hU hW2 => ⟨rfl, by rw [hU]; exact WD.ex hb hz hw hs.1 h9, by rw [hU]; exact hw, va_K.moved hW2.alike F.2.2.2.2.2.2.2.1, NW.warm hW2 F.2.2.2.2.2.2.2.2.1⟩⟩ rfl rfl hl.1 rfl (lv_room hW) hd hC) hs (fun v M' H1 locs1 hp hw1 hs1 => ?_)
  rw [h0, h00, Nat.add_zero, Nat.add_zero]
  exact kk v M' hp p e s m args below meth c F hb hz H1 locs1 la hw1 hs1 hl
theorem S_callS1v {idx : Nat} {a1 : Value} {rest : List Value} (hd : decode cc pc = .ok (.invokestatic idx, 3)) (hL : LkS y.cls idx y' cc' n' none 1) (hM : Ct l G b0 y' cc' n' none rm' lay lay M [a1] Post') (h0 : rm'.cells = 0) (h00 : rm'.slots = 0) (hW : (rest.map fun v => v.category).sum ≤ 8) (hR : rm'.frames + 1 ≤ rm.frames ∧ 8 + (n' + 11) + rm'.locals ≤ rm.locals) (hC : cells + rm'.cells ≤ rm.cells ∧ slots + rm'.slots ≤ rm.slots) (hq : pc + 3 = q) (kk : ∀ (v : Int32) (M' : Mem), Post' v M' → S l G b0 y cc nL ret rm lay' Post mc ms cells slots lay q ls rest M') : S l G b0 y cc nL ret rm lay' Post mc ms cells slots lay pc ls (a1 :: rest) M := by
  subst hq
  intro p e s m args below meth c F hb hz H locs la hw hs hl
  refine W_size fun h9 => ?_
  refine go_void (va_runS (As := [a1]) (rest := rest) ⟨F.1, F.2.1, F.2.2.2.1, F.2.2.2.2.1, F.2.2.2.2.2.1⟩ hM (va_cwS 1 F.2.2.2.2.2.1 hL.1 rfl rfl rfl hL.2 hR) ⟨Ct.blind, fun U hU hW2 => ⟨rfl, by rw [hU]; exact WD.ex hb hz hw hs.1 h9, by rw [hU]; exact hw, va_K.moved hW2.alike F.2.2.2.2.2.2.2.1, NW.warm hW2 F.2.2.2.2.2.2.2.2.1⟩⟩ rfl rfl hl.1 rfl (lv_room hW) hd hC) hs (fun v M' H1 locs1 hp hw1 hs1 => ?_)
  rw [h0, h00, Nat.add_zero, Nat.add_zero]
  exact kk v M' hp p e s m args below meth c F hb hz H1 locs1 la hw1 hs1 hl
theorem S_callS2i {idx : Nat} {ty : FieldType} {a1 a2 : Value} {rest : List Value} (hd : decode cc pc = .ok (.invokestatic idx, 3)) (hL : LkS y.cls idx y' cc' n' (some ty) 2) (hM : Ct l G b0 y' cc' n' (some ty) rm' lay lay M [a1, a2] Post') (h0 : rm'.cells = 0) (h00 : rm'.slots = 0) (hW : (rest.map fun v => v.category).sum ≤ 8) (hR : rm'.frames + 1 ≤ rm.frames ∧ 8 + (n' + 11) + rm'.locals ≤ rm.locals) (hC : cells + rm'.cells ≤ rm.cells ∧ slots + rm'.slots ≤ rm.slots) (hq : pc + 3 = q) (kk : ∀ (v : Int32) (M' : Mem), Post' v M' → S l G b0 y cc nL ret rm lay' Post mc ms cells slots lay q ls (.int v :: rest) M') : S l G b0 y cc nL ret rm lay' Post mc ms cells slots lay pc ls (a2 :: a1 :: rest) M := by
  subst hq
  intro p e s m args below meth c F hb hz H locs la hw hs hl
  refine W_size fun h9 => ?_
  refine go_int (va_runS (As := [a1, a2]) (rest := rest) ⟨F.1, F.2.1, F.2.2.2.1, F.2.2.2.2.1, F.2.2.2.2.2.1⟩ hM (va_cwS 2 F.2.2.2.2.2.1 hL.1 rfl rfl rfl hL.2 hR) ⟨Ct.blind, fun U hU hW2 => ⟨rfl, by rw [hU]; exact WD.ex hb hz hw hs.1 h9, by rw [hU]; exact hw, va_K.moved hW2.alike F.2.2.2.2.2.2.2.1, NW.warm hW2 F.2.2.2.2.2.2.2.2.1⟩⟩ rfl rfl hl.1 rfl (lv_room hW) hd hC) hs (fun v M' H1 locs1 hp hw1 hs1 => ?_)
  rw [h0, h00, Nat.add_zero, Nat.add_zero]
  exact kk v M' hp p e s m args below meth c F hb hz H1 locs1 la hw1 hs1 hl
theorem S_callS2v {idx : Nat} {a1 a2 : Value} {rest : List Value} (hd : decode cc pc = .ok (.invokestatic idx, 3)) (hL : LkS y.cls idx y' cc' n' none 2) (hM : Ct l G b0 y' cc' n' none rm' lay lay M [a1, a2] Post') (h0 : rm'.cells = 0) (h00 : rm'.slots = 0) (hW : (rest.map fun v => v.category).sum ≤ 8) (hR : rm'.frames + 1 ≤ rm.frames ∧ 8 + (n' + 11) + rm'.locals ≤ rm.locals) (hC : cells + rm'.cells ≤ rm.cells ∧ slots + rm'.slots ≤ rm.slots) (hq : pc + 3 = q) (kk : ∀ (v : Int32) (M' : Mem), Post' v M' → S l G b0 y cc nL ret rm lay' Post mc ms cells slots lay q ls rest M') : S l G b0 y cc nL ret rm lay' Post mc ms cells slots lay pc ls (a2 :: a1 :: rest) M := by
  subst hq
  intro p e s m args below meth c F hb hz H locs la hw hs hl
  refine W_size fun h9 => ?_
  refine go_void (va_runS (As := [a1, a2]) (rest := rest) ⟨F.1, F.2.1, F.2.2.2.1, F.2.2.2.2.1, F.2.2.2.2.2.1⟩ hM (va_cwS 2 F.2.2.2.2.2.1 hL.1 rfl rfl rfl hL.2 hR) ⟨Ct.blind, fun U hU hW2 => ⟨rfl, by rw [hU]; exact WD.ex hb hz hw hs.1 h9, by rw [hU]; exact hw, va_K.moved hW2.alike F.2.2.2.2.2.2.2.1, NW.warm hW2 F.2.2.2.2.2.2.2.2.1⟩⟩ rfl rfl hl.1 rfl (lv_room hW) hd hC) hs (fun v M' H1 locs1 hp hw1 hs1 => ?_)
  rw [h0, h00, Nat.add_zero, Nat.add_zero]
  exact kk v M' hp p e s m args below meth c F hb hz H1 locs1 la hw1 hs1 hl
theorem S_callS3i {idx : Nat} {ty : FieldType} {a1 a2 a3 : Value} {rest : List Value} (hd : decode cc pc = .ok (.invokestatic idx, 3)) (hL : LkS y.cls idx y' cc' n' (some ty) 3) (hM : Ct l G b0 y' cc' n' (some ty) rm' lay lay M [a1, a2, a3] Post') (h0 : rm'.cells = 0) (h00 : rm'.slots = 0) (hW : (rest.map fun v => v.category).sum ≤ 8) (hR : rm'.frames + 1 ≤ rm.frames ∧ 8 + (n' + 11) + rm'.locals ≤ rm.locals) (hC : cells + rm'.cells ≤ rm.cells ∧ slots + rm'.slots ≤ rm.slots) (hq : pc + 3 = q) (kk : ∀ (v : Int32) (M' : Mem), Post' v M' → S l G b0 y cc nL ret rm lay' Post mc ms cells slots lay q ls (.int v :: rest) M') : S l G b0 y cc nL ret rm lay' Post mc ms cells slots lay pc ls (a3 :: a2 :: a1 :: rest) M := by
  subst hq
  intro p e s m args below meth c F hb hz H locs la hw hs hl
  refine W_size fun h9 => ?_
  refine go_int (va_runS (As := [a1, a2, a3]) (rest := rest) ⟨F.1, F.2.1, F.2.2.2.1, F.2.2.2.2.1, F.2.2.2.2.2.1⟩ hM (va_cwS 3 F.2.2.2.2.2.1 hL.1 rfl rfl rfl hL.2 hR) ⟨Ct.blind, fun U hU hW2 => ⟨rfl, by rw [hU]; exact WD.ex hb hz hw hs.1 h9, by rw [hU]; exact hw, va_K.moved hW2.alike F.2.2.2.2.2.2.2.1, NW.warm hW2 F.2.2.2.2.2.2.2.2.1⟩⟩ rfl rfl hl.1 rfl (lv_room hW) hd hC) hs (fun v M' H1 locs1 hp hw1 hs1 => ?_)
  rw [h0, h00, Nat.add_zero, Nat.add_zero]
  exact kk v M' hp p e s m args below meth c F hb hz H1 locs1 la hw1 hs1 hl
theorem S_callS3v {idx : Nat} {a1 a2 a3 : Value} {rest : List Value} (hd : decode cc pc = .ok (.invokestatic idx, 3)) (hL : LkS y.cls idx y' cc' n' none 3) (hM : Ct l G b0 y' cc' n' none rm' lay lay M [a1, a2, a3] Post') (h0 : rm'.cells = 0) (h00 : rm'.slots = 0) (hW : (rest.map fun v => v.category).sum ≤ 8) (hR : rm'.frames + 1 ≤ rm.frames ∧ 8 + (n' + 11) + rm'.locals ≤ rm.locals) (hC : cells + rm'.cells ≤ rm.cells ∧ slots + rm'.slots ≤ rm.slots) (hq : pc + 3 = q) (kk : ∀ (v : Int32) (M' : Mem), Post' v M' → S l G b0 y cc nL ret rm lay' Post mc ms cells slots lay q ls rest M') : S l G b0 y cc nL ret rm lay' Post mc ms cells slots lay pc ls (a3 :: a2 :: a1 :: rest) M := by
  subst hq
  intro p e s m args below meth c F hb hz H locs la hw hs hl
  refine W_size fun h9 => ?_
  refine go_void (va_runS (As := [a1, a2, a3]) (rest := rest) ⟨F.1, F.2.1, F.2.2.2.1, F.2.2.2.2.1, F.2.2.2.2.2.1⟩ hM (va_cwS 3 F.2.2.2.2.2.1 hL.1 rfl rfl rfl hL.2 hR) ⟨Ct.blind, fun U hU hW2 => ⟨rfl, by rw [hU]; exact WD.ex hb hz hw hs.1 h9, by rw [hU]; exact hw, va_K.moved hW2.alike F.2.2.2.2.2.2.2.1, NW.warm hW2 F.2.2.2.2.2.2.2.2.1⟩⟩ rfl rfl hl.1 rfl (lv_room hW) hd hC) hs (fun v M' H1 locs1 hp hw1 hs1 => ?_)
  rw [h0, h00, Nat.add_zero, Nat.add_zero]
  exact kk v M' hp p e s m args below meth c F hb hz H1 locs1 la hw1 hs1 hl
theorem S_callS4i {idx : Nat} {ty : FieldType} {a1 a2 a3 a4 : Value} {rest : List Value} (hd : decode cc pc = .ok (.invokestatic idx, 3)) (hL : LkS y.cls idx y' cc' n' (some ty) 4) (hM : Ct l G b0 y' cc' n' (some ty) rm' lay lay M [a1, a2, a3, a4] Post') (h0 : rm'.cells = 0) (h00 : rm'.slots = 0) (hW : (rest.map fun v => v.category).sum ≤ 8) (hR : rm'.frames + 1 ≤ rm.frames ∧ 8 + (n' + 11) + rm'.locals ≤ rm.locals) (hC : cells + rm'.cells ≤ rm.cells ∧ slots + rm'.slots ≤ rm.slots) (hq : pc + 3 = q) (kk : ∀ (v : Int32) (M' : Mem), Post' v M' → S l G b0 y cc nL ret rm lay' Post mc ms cells slots lay q ls (.int v :: rest) M') : S l G b0 y cc nL ret rm lay' Post mc ms cells slots lay pc ls (a4 :: a3 :: a2 :: a1 :: rest) M := by
  subst hq
  intro p e s m args below meth c F hb hz H locs la hw hs hl
  refine W_size fun h9 => ?_
  refine go_int (va_runS (As := [a1, a2, a3, a4]) (rest := rest) ⟨F.1, F.2.1, F.2.2.2.1, F.2.2.2.2.1, F.2.2.2.2.2.1⟩ hM (va_cwS 4 F.2.2.2.2.2.1 hL.1 rfl rfl rfl hL.2 hR) ⟨Ct.blind, fun U hU hW2 => ⟨rfl, by rw [hU]; exact WD.ex hb hz hw hs.1 h9, by rw [hU]; exact hw, va_K.moved hW2.alike F.2.2.2.2.2.2.2.1, NW.warm hW2 F.2.2.2.2.2.2.2.2.1⟩⟩ rfl rfl hl.1 rfl (lv_room hW) hd hC) hs (fun v M' H1 locs1 hp hw1 hs1 => ?_)
  rw [h0, h00, Nat.add_zero, Nat.add_zero]
  exact kk v M' hp p e s m args below meth c F hb hz H1 locs1 la hw1 hs1 hl
theorem S_callS4v {idx : Nat} {a1 a2 a3 a4 : Value} {rest : List Value} (hd : decode cc pc = .ok (.invokestatic idx, 3)) (hL : LkS y.cls idx y' cc' n' none 4) (hM : Ct l G b0 y' cc' n' none rm' lay lay M [a1, a2, a3, a4] Post') (h0 : rm'.cells = 0) (h00 : rm'.slots = 0) (hW : (rest.map fun v => v.category).sum ≤ 8) (hR : rm'.frames + 1 ≤ rm.frames ∧ 8 + (n' + 11) + rm'.locals ≤ rm.locals) (hC : cells + rm'.cells ≤ rm.cells ∧ slots + rm'.slots ≤ rm.slots) (hq : pc + 3 = q) (kk : ∀ (v : Int32) (M' : Mem), Post' v M' → S l G b0 y cc nL ret rm lay' Post mc ms cells slots lay q ls rest M') : S l G b0 y cc nL ret rm lay' Post mc ms cells slots lay pc ls (a4 :: a3 :: a2 :: a1 :: rest) M := by
  subst hq
  intro p e s m args below meth c F hb hz H locs la hw hs hl
  refine W_size fun h9 => ?_
  refine go_void (va_runS (As := [a1, a2, a3, a4]) (rest := rest) ⟨F.1, F.2.1, F.2.2.2.1, F.2.2.2.2.1, F.2.2.2.2.2.1⟩ hM (va_cwS 4 F.2.2.2.2.2.1 hL.1 rfl rfl rfl hL.2 hR) ⟨Ct.blind, fun U hU hW2 => ⟨rfl, by rw [hU]; exact WD.ex hb hz hw hs.1 h9, by rw [hU]; exact hw, va_K.moved hW2.alike F.2.2.2.2.2.2.2.1, NW.warm hW2 F.2.2.2.2.2.2.2.2.1⟩⟩ rfl rfl hl.1 rfl (lv_room hW) hd hC) hs (fun v M' H1 locs1 hp hw1 hs1 => ?_)
  rw [h0, h00, Nat.add_zero, Nat.add_zero]
  exact kk v M' hp p e s m args below meth c F hb hz H1 locs1 la hw1 hs1 hl
theorem S_callSN1i {idx : Nat} {ty : FieldType} {a1 : Value} {rest : List Value} (hd : decode cc pc = .ok (.invokestatic idx, 3)) (hL : LkSN y.cls idx y' cc' n' (some ty) 1) (hM : Ct l G b0 y' cc' n' (some ty) rm' lay lay M [a1] Post') (h0 : rm'.cells = 0) (h00 : rm'.slots = 0) (hW : (rest.map fun v => v.category).sum ≤ 8) (hR : rm'.frames + 1 ≤ rm.frames ∧ 8 + (n' + 11) + rm'.locals ≤ rm.locals) (hC : cells + rm'.cells ≤ rm.cells ∧ slots + rm'.slots ≤ rm.slots) (hq : pc + 3 = q) (kk : ∀ (v : Int32) (M' : Mem), Post' v M' → S l G b0 y cc nL ret rm lay' Post mc ms cells slots lay q ls (.int v :: rest) M') : S l G b0 y cc nL ret rm lay' Post mc ms cells slots lay pc ls (a1 :: rest) M := by
  subst hq
  intro p e s m args below meth c F hb hz H locs la hw hs hl
  refine W_size fun h9 => ?_
  refine go_int (va_runSN (As := [a1]) (rest := rest) ⟨F.1, F.2.1, F.2.2.2.1, F.2.2.2.2.1, F.2.2.2.2.2.1⟩ hM ⟨va_cnB 1 F.2.2.2.2.2.1 hL.1.1 rfl rfl rfl (F.2.2.2.2.2.2.2.2.1 _ hL.1.2.1.choose_spec rfl) (F.2.2.2.2.2.1 _ hL.1.2.2.1) hL.2 hR, F.2.2.2.2.2.1 _ hL.1.2.2.2, trivial⟩ ⟨Ct.blind, fun U hU hW2 => ⟨rfl, by rw [hU]; exact WD.ex hb hz hw hs.1 h9, by rw [hU]; exact hw, va_K.moved hW2.alike F.2.2.2.2.2.2.2.1, NW.warm hW2 F.2.2.2.2.2.2.2.2.1⟩⟩ rfl rfl hl.1 rfl (lv_room hW) hd hC) hs (fun v M' H1 locs1 hp hw1 hs1 => ?_)
  rw [h0, h00, Nat.add_zero, Nat.add_zero]
  exact kk v M' hp p e s m args below meth c F hb hz H1 locs1 la hw1 hs1 hl
theorem S_callSN1v {idx : Nat} {a1 : Value} {rest : List Value} (hd : decode cc pc = .ok (.invokestatic idx, 3)) (hL : LkSN y.cls idx y' cc' n' none 1) (hM : Ct l G b0 y' cc' n' none rm' lay lay M [a1] Post') (h0 : rm'.cells = 0) (h00 : rm'.slots = 0) (hW : (rest.map fun v => v.category).sum ≤ 8) (hR : rm'.frames + 1 ≤ rm.frames ∧ 8 + (n' + 11) + rm'.locals ≤ rm.locals) (hC : cells + rm'.cells ≤ rm.cells ∧ slots + rm'.slots ≤ rm.slots) (hq : pc + 3 = q) (kk : ∀ (v : Int32) (M' : Mem), Post' v M' → S l G b0 y cc nL ret rm lay' Post mc ms cells slots lay q ls rest M') : S l G b0 y cc nL ret rm lay' Post mc ms cells slots lay pc ls (a1 :: rest) M := by
  subst hq
  intro p e s m args below meth c F hb hz H locs la hw hs hl
  refine W_size fun h9 => ?_
  refine go_void (va_runSN (As := [a1]) (rest := rest) ⟨F.1, F.2.1, F.2.2.2.1, F.2.2.2.2.1, F.2.2.2.2.2.1⟩ hM ⟨va_cnB 1 F.2.2.2.2.2.1 hL.1.1 rfl rfl rfl (F.2.2.2.2.2.2.2.2.1 _ hL.1.2.1.choose_spec rfl) (F.2.2.2.2.2.1 _ hL.1.2.2.1) hL.2 hR, F.2.2.2.2.2.1 _ hL.1.2.2.2, trivial⟩ ⟨Ct.blind, fun U hU hW2 => ⟨rfl, by rw [hU]; exact WD.ex hb hz hw hs.1 h9, by rw [hU]; exact hw, va_K.moved hW2.alike F.2.2.2.2.2.2.2.1, NW.warm hW2 F.2.2.2.2.2.2.2.2.1⟩⟩ rfl rfl hl.1 rfl (lv_room hW) hd hC) hs (fun v M' H1 locs1 hp hw1 hs1 => ?_)
  rw [h0, h00, Nat.add_zero, Nat.add_zero]
  exact kk v M' hp p e s m args below meth c F hb hz H1 locs1 la hw1 hs1 hl
theorem S_callSN2i {idx : Nat} {ty : FieldType} {a1 a2 : Value} {rest : List Value} (hd : decode cc pc = .ok (.invokestatic idx, 3)) (hL : LkSN y.cls idx y' cc' n' (some ty) 2) (hM : Ct l G b0 y' cc' n' (some ty) rm' lay lay M [a1, a2] Post') (h0 : rm'.cells = 0) (h00 : rm'.slots = 0) (hW : (rest.map fun v => v.category).sum ≤ 8) (hR : rm'.frames + 1 ≤ rm.frames ∧ 8 + (n' + 11) + rm'.locals ≤ rm.locals) (hC : cells + rm'.cells ≤ rm.cells ∧ slots + rm'.slots ≤ rm.slots) (hq : pc + 3 = q) (kk : ∀ (v : Int32) (M' : Mem), Post' v M' → S l G b0 y cc nL ret rm lay' Post mc ms cells slots lay q ls (.int v :: rest) M') : S l G b0 y cc nL ret rm lay' Post mc ms cells slots lay pc ls (a2 :: a1 :: rest) M := by
  subst hq
  intro p e s m args below meth c F hb hz H locs la hw hs hl
  refine W_size fun h9 => ?_
  refine go_int (va_runSN (As := [a1, a2]) (rest := rest) ⟨F.1, F.2.1, F.2.2.2.1, F.2.2.2.2.1, F.2.2.2.2.2.1⟩ hM ⟨va_cnB 2 F.2.2.2.2.2.1 hL.1.1 rfl rfl rfl (F.2.2.2.2.2.2.2.2.1 _ hL.1.2.1.choose_spec rfl) (F.2.2.2.2.2.1 _ hL.1.2.2.1) hL.2 hR, F.2.2.2.2.2.1 _ hL.1.2.2.2, trivial⟩ ⟨Ct.blind, fun U hU hW2 => ⟨rfl, by rw [hU]; exact WD.ex hb hz hw hs.1 h9, by rw [hU]; exact hw, va_K.moved hW2.alike F.2.2.2.2.2.2.2.1, NW.warm hW2 F.2.2.2.2.2.2.2.2.1⟩⟩ rfl rfl hl.1 rfl (lv_room hW) hd hC) hs (fun v M' H1 locs1 hp hw1 hs1 => ?_)
  rw [h0, h00, Nat.add_zero, Nat.add_zero]
  exact kk v M' hp p e s m args below meth c F hb hz H1 locs1 la hw1 hs1 hl
theorem S_callSN2v {idx : Nat} {a1 a2 : Value} {rest : List Value} (hd : decode cc pc = .ok (.invokestatic idx, 3)) (hL : LkSN y.cls idx y' cc' n' none 2) (hM : Ct l G b0 y' cc' n' none rm' lay lay M [a1, a2] Post') (h0 : rm'.cells = 0) (h00 : rm'.slots = 0) (hW : (rest.map fun v => v.category).sum ≤ 8) (hR : rm'.frames + 1 ≤ rm.frames ∧ 8 + (n' + 11) + rm'.locals ≤ rm.locals) (hC : cells + rm'.cells ≤ rm.cells ∧ slots + rm'.slots ≤ rm.slots) (hq : pc + 3 = q) (kk : ∀ (v : Int32) (M' : Mem), Post' v M' → S l G b0 y cc nL ret rm lay' Post mc ms cells slots lay q ls rest M') : S l G b0 y cc nL ret rm lay' Post mc ms cells slots lay pc ls (a2 :: a1 :: rest) M := by
  subst hq
  intro p e s m args below meth c F hb hz H locs la hw hs hl
  refine W_size fun h9 => ?_
  refine go_void (va_runSN (As := [a1, a2]) (rest := rest) ⟨F.1, F.2.1, F.2.2.2.1, F.2.2.2.2.1, F.2.2.2.2.2.1⟩ hM ⟨va_cnB 2 F.2.2.2.2.2.1 hL.1.1 rfl rfl rfl (F.2.2.2.2.2.2.2.2.1 _ hL.1.2.1.choose_spec rfl) (F.2.2.2.2.2.1 _ hL.1.2.2.1) hL.2 hR, F.2.2.2.2.2.1 _ hL.1.2.2.2, trivial⟩ ⟨Ct.blind, fun U hU hW2 => ⟨rfl, by rw [hU]; exact WD.ex hb hz hw hs.1 h9, by rw [hU]; exact hw, va_K.moved hW2.alike F.2.2.2.2.2.2.2.1, NW.warm hW2 F.2.2.2.2.2.2.2.2.1⟩⟩ rfl rfl hl.1 rfl (lv_room hW) hd hC) hs (fun v M' H1 locs1 hp hw1 hs1 => ?_)
  rw [h0, h00, Nat.add_zero, Nat.add_zero]
  exact kk v M' hp p e s m args below meth c F hb hz H1 locs1 la hw1 hs1 hl
theorem S_callSN3i {idx : Nat} {ty : FieldType} {a1 a2 a3 : Value} {rest : List Value} (hd : decode cc pc = .ok (.invokestatic idx, 3)) (hL : LkSN y.cls idx y' cc' n' (some ty) 3) (hM : Ct l G b0 y' cc' n' (some ty) rm' lay lay M [a1, a2, a3] Post') (h0 : rm'.cells = 0) (h00 : rm'.slots = 0) (hW : (rest.map fun v => v.category).sum ≤ 8) (hR : rm'.frames + 1 ≤ rm.frames ∧ 8 + (n' + 11) + rm'.locals ≤ rm.locals) (hC : cells + rm'.cells ≤ rm.cells ∧ slots + rm'.slots ≤ rm.slots) (hq : pc + 3 = q) (kk : ∀ (v : Int32) (M' : Mem), Post' v M' → S l G b0 y cc nL ret rm lay' Post mc ms cells slots lay q ls (.int v :: rest) M') : S l G b0 y cc nL ret rm lay' Post mc ms cells slots lay pc ls (a3 :: a2 :: a1 :: rest) M := by
  subst hq
  intro p e s m args below meth c F hb hz H locs la hw hs hl
  refine W_size fun h9 => ?_
  refine go_int (va_runSN (As := [a1, a2, a3]) (rest := rest) ⟨F.1, F.2.1, F.2.2.2.1, F.2.2.2.2.1, F.2.2.2.2.2.1⟩ hM ⟨va_cnB 3 F.2.2.2.2.2.1 hL.1.1 rfl rfl rfl (F.2.2.2.2.2.2.2.2.1 _ hL.1.2.1.choose_spec rfl) (F.2.2.2.2.2.1 _ hL.1.2.2.1) hL.2 hR, F.2.2.2.2.2.1 _ hL.1.2.2.2, trivial⟩ ⟨Ct.blind, fun U hU hW2 => ⟨rfl, by rw [hU]; exact WD.ex hb hz hw hs.1 h9, by rw [hU]; exact hw, va_K.moved hW2.alike F.2.2.2.2.2.2.2.1, NW.warm hW2 F.2.2.2.2.2.2.2.2.1⟩⟩ rfl rfl hl.1 rfl (lv_room hW) hd hC) hs (fun v M' H1 locs1 hp hw1 hs1 => ?_)
  rw [h0, h00, Nat.add_zero, Nat.add_zero]
  exact kk v M' hp p e s m args below meth c F hb hz H1 locs1 la hw1 hs1 hl
theorem S_callSN3v {idx : Nat} {a1 a2 a3 : Value} {rest : List Value} (hd : decode cc pc = .ok (.invokestatic idx, 3)) (hL : LkSN y.cls idx y' cc' n' none 3) (hM : Ct l G b0 y' cc' n' none rm' lay lay M [a1, a2, a3] Post') (h0 : rm'.cells = 0) (h00 : rm'.slots = 0) (hW : (rest.map fun v => v.category).sum ≤ 8) (hR : rm'.frames + 1 ≤ rm.frames ∧ 8 + (n' + 11) + rm'.locals ≤ rm.locals) (hC : cells + rm'.cells ≤ rm.cells ∧ slots + rm'.slots ≤ rm.slots) (hq : pc + 3 = q) (kk : ∀ (v : Int32) (M' : Mem), Post' v M' → S l G b0 y cc nL ret rm lay' Post mc ms cells slots lay q ls rest M') : S l G b0 y cc nL ret rm lay' Post mc ms cells slots lay pc ls (a3 :: a2 :: a1 :: rest) M := by
  subst hq
  intro p e s m args below meth c F hb hz H locs la hw hs hl
  refine W_size fun h9 => ?_
  refine go_void (va_runSN (As := [a1, a2, a3]) (rest := rest) ⟨F.1, F.2.1, F.2.2.2.1, F.2.2.2.2.1, F.2.2.2.2.2.1⟩ hM ⟨va_cnB 3 F.2.2.2.2.2.1 hL.1.1 rfl rfl rfl (F.2.2.2.2.2.2.2.2.1 _ hL.1.2.1.choose_spec rfl) (F.2.2.2.2.2.1 _ hL.1.2.2.1) hL.2 hR, F.2.2.2.2.2.1 _ hL.1.2.2.2, trivial⟩ ⟨Ct.blind, fun U hU hW2 => ⟨rfl, by rw [hU]; exact WD.ex hb hz hw hs.1 h9, by rw [hU]; exact hw, va_K.moved hW2.alike F.2.2.2.2.2.2.2.1, NW.warm hW2 F.2.2.2.2.2.2.2.2.1⟩⟩ rfl rfl hl.1 rfl (lv_room hW) hd hC) hs (fun v M' H1 locs1 hp hw1 hs1 => ?_)
  rw [h0, h00, Nat.add_zero, Nat.add_zero]
  exact kk v M' hp p e s m args below meth c F hb hz H1 locs1 la hw1 hs1 hl
theorem S_callSN4i {idx : Nat} {ty : FieldType} {a1 a2 a3 a4 : Value} {rest : List Value} (hd : decode cc pc = .ok (.invokestatic idx, 3)) (hL : LkSN y.cls idx y' cc' n' (some ty) 4) (hM : Ct l G b0 y' cc' n' (some ty) rm' lay lay M [a1, a2, a3, a4] Post') (h0 : rm'.cells = 0) (h00 : rm'.slots = 0) (hW : (rest.map fun v => v.category).sum ≤ 8) (hR : rm'.frames + 1 ≤ rm.frames ∧ 8 + (n' + 11) + rm'.locals ≤ rm.locals) (hC : cells + rm'.cells ≤ rm.cells ∧ slots + rm'.slots ≤ rm.slots) (hq : pc + 3 = q) (kk : ∀ (v : Int32) (M' : Mem), Post' v M' → S l G b0 y cc nL ret rm lay' Post mc ms cells slots lay q ls (.int v :: rest) M') : S l G b0 y cc nL ret rm lay' Post mc ms cells slots lay pc ls (a4 :: a3 :: a2 :: a1 :: rest) M := by
  subst hq
  intro p e s m args below meth c F hb hz H locs la hw hs hl
  refine W_size fun h9 => ?_
  refine go_int (va_runSN (As := [a1, a2, a3, a4]) (rest := rest) ⟨F.1, F.2.1, F.2.2.2.1, F.2.2.2.2.1, F.2.2.2.2.2.1⟩ hM ⟨va_cnB 4 F.2.2.2.2.2.1 hL.1.1 rfl rfl rfl (F.2.2.2.2.2.2.2.2.1 _ hL.1.2.1.choose_spec rfl) (F.2.2.2.2.2.1 _ hL.1.2.2.1) hL.2 hR, F.2.2.2.2.2.1 _ hL.1.2.2.2, trivial⟩ ⟨Ct.blind, fun U hU hW2 => ⟨rfl, by rw [hU]; exact WD.ex hb hz hw hs.1 h9, by rw [hU]; exact hw, va_K.moved hW2.alike F.2.2.2.2.2.2.2.1, NW.warm hW2 F.2.2.2.2.2.2.2.2.1⟩⟩ rfl rfl hl.1 rfl (lv_room hW) hd hC) hs (fun v M' H1 locs1 hp hw1 hs1 => ?_)
  rw [h0, h00, Nat.add_zero, Nat.add_zero]
  exact kk v M' hp p e s m args below meth c F hb hz H1 locs1 la hw1 hs1 hl
theorem S_callSN4v {idx : Nat} {a1 a2 a3 a4 : Value} {rest : List Value} (hd : decode cc pc = .ok (.invokestatic idx, 3)) (hL : LkSN y.cls idx y' cc' n' none 4) (hM : Ct l G b0 y' cc' n' none rm' lay lay M [a1, a2, a3, a4] Post') (h0 : rm'.cells = 0) (h00 : rm'.slots = 0) (hW : (rest.map fun v => v.category).sum ≤ 8) (hR : rm'.frames + 1 ≤ rm.frames ∧ 8 + (n' + 11) + rm'.locals ≤ rm.locals) (hC : cells + rm'.cells ≤ rm.cells ∧ slots + rm'.slots ≤ rm.slots) (hq : pc + 3 = q) (kk : ∀ (v : Int32) (M' : Mem), Post' v M' → S l G b0 y cc nL ret rm lay' Post mc ms cells slots lay q ls rest M') : S l G b0 y cc nL ret rm lay' Post mc ms cells slots lay pc ls (a4 :: a3 :: a2 :: a1 :: rest) M := by
  subst hq
  intro p e s m args below meth c F hb hz H locs la hw hs hl
  refine W_size fun h9 => ?_
  refine go_void (va_runSN (As := [a1, a2, a3, a4]) (rest := rest) ⟨F.1, F.2.1, F.2.2.2.1, F.2.2.2.2.1, F.2.2.2.2.2.1⟩ hM ⟨va_cnB 4 F.2.2.2.2.2.1 hL.1.1 rfl rfl rfl (F.2.2.2.2.2.2.2.2.1 _ hL.1.2.1.choose_spec rfl) (F.2.2.2.2.2.1 _ hL.1.2.2.1) hL.2 hR, F.2.2.2.2.2.1 _ hL.1.2.2.2, trivial⟩ ⟨Ct.blind, fun U hU hW2 => ⟨rfl, by rw [hU]; exact WD.ex hb hz hw hs.1 h9, by rw [hU]; exact hw, va_K.moved hW2.alike F.2.2.2.2.2.2.2.1, NW.warm hW2 F.2.2.2.2.2.2.2.2.1⟩⟩ rfl rfl hl.1 rfl (lv_room hW) hd hC) hs (fun v M' H1 locs1 hp hw1 hs1 => ?_)
  rw [h0, h00, Nat.add_zero, Nat.add_zero]
  exact kk v M' hp p e s m args below meth c F hb hz H1 locs1 la hw1 hs1 hl
end CALLS
