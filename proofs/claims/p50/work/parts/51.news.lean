/-! RULES FOR WHAT CONSTRUCTORS DO: the layout grows, references are set -/
theorem wl_get {G : Gd} {b0 : Nat} {lay : Lay} {M : Mem} {k : Nat} : (wl G b0 lay M)[k]? = (lay[k]?).map (fun e => (b0 + k, cE G b0 (M k) e)) := by
  unfold wl
  rw [List.getElem?_mapIdx]
theorem wl_len {G : Gd} {b0 : Nat} {lay : Lay} {M : Mem} : (wl G b0 lay M).length = lay.length := by
  unfold wl
  rw [List.length_mapIdx]
theorem wl_app {G : Gd} {b0 : Nat} {lay : Lay} {M : Mem} {x : LE} {f : Nat → Int32} : wl G b0 (lay ++ [x]) (upA M lay.length f) = wl G b0 lay M ++ [(b0 + lay.length, cE G b0 f x)] := by
  refine List.ext_getElem? (fun k => ?_)
  rw [wl_get]
  rcases Nat.lt_trichotomy k lay.length with h | h | h
  · rw [List.getElem?_append_left h, List.getElem?_append_left (by rw [wl_len]; exact h), wl_get, upA_n (by omega)]
  · subst h
    rw [List.getElem?_append_right (Nat.le_refl _), Nat.sub_self, List.getElem?_append_right (by rw [wl_len]; exact Nat.le_refl _), wl_len, Nat.sub_self, upA_s]
    rfl
  · rw [List.getElem?_eq_none (by rw [List.length_append]; simp only [List.length_cons, List.length_nil]; omega), List.getElem?_eq_none (by rw [List.length_append, wl_len]; simp only [List.length_cons, List.length_nil]; omega)]
    rfl
theorem wl_set {G : Gd} {b0 : Nat} {lay : Lay} {M : Mem} {k : Nat} {x : LE} : (wl G b0 lay M).set k (b0 + k, cE G b0 (M k) x) = wl G b0 (lay.set k x) M := by
  refine List.ext_getElem? (fun i => ?_)
  rw [wl_get, List.getElem?_set, List.getElem?_set, wl_len, wl_get]
  by_cases h : k = i
  · subst h
    rw [if_pos rfl, if_pos rfl]
    by_cases h2 : k < lay.length
    · rw [if_pos h2, if_pos h2]; rfl
    · rw [if_neg h2, if_neg h2]; rfl
  · rw [if_neg h, if_neg h]
section NEWS
variable {l : Launch} {G : Gd} {b0 : Nat} {y : MethodName} {cc : ByteArray} {nL : Nat} {ret : Option FieldType} {rm : Room} {lay' : Lay} {Post : PT} {mc ms cells slots : Nat} {lay : Lay} {pc q : Nat} {ls : List (Option Value)} {st : List Value} {M : Mem}
theorem S_objInit {k idx : Nat} (hd : decode cc pc = .ok (.invokespecial idx, 3)) (h1 : Cond.methodLink y.cls idx Lib.objectInit ∈ TG) (h2 : Cond.instanceMethod Lib.objectInit ∈ TG) (h3 : Cond.code Lib.objectInit ⟨#[0xb1]⟩ 1 none ∈ TG) (hfr : 1 ≤ rm.frames) (hlo : (st.map fun v => v.category).sum + 12 ≤ rm.locals) (hq : pc + 3 = q) (k1 : S l G b0 y cc nL ret rm lay' Post mc ms cells slots lay q ls st M) : S l G b0 y cc nL ret rm lay' Post mc ms cells slots lay pc ls (.ref (b0 + k) :: st) M := by
  subst hq; intro p e s m args below meth c F hb hz H locs la hw hs hl
  exact W.objInit F.1 F.2.1 F.2.2.2.2.1 (F.2.2.2.2.2.1 _ h1) (F.2.2.2.2.2.1 _ h2) (F.2.2.2.2.2.1 _ h3) rfl (hl.1.trans F.2.2.2.1.symm) rfl hd hfr (by show 2 * 0 + _ + 12 ≤ _; omega) (k1 p e s m args below meth c F hb hz H locs la hw hs hl)
theorem S_new {ci idx N : Nat} {C : String} {T : u_T} {dl : List (Option (Option Nat))} {ty : Nat → FieldType} (hd : decode cc pc = .ok (.new idx, 3)) (hc : vwCl[ci]? = some (C, T, N)) (hin : ∀ w ∈ u_ws C T N, w ∈ TG) (hty : ∀ k, k < N → parseFieldDescriptor (T k).2.2.1 = some (ty k)) (h1 : Cond.classLink y.cls idx C ∈ TG) (h2 : Cond.instantiable C N ∈ TG) (h3 : Cond.initialized C ∈ TG) (hdf : ∀ j, j < N → defaultValue (ty j) = vp_V (dl.mapIdx (fun j x => fv b0 (fun _ => 0) j x)) j) (hC : cells + 1 ≤ rm.cells) (hS : slots + N ≤ rm.slots) (hq : pc + 3 = q) (k1 : S l G b0 y cc nL ret rm lay' Post mc ms (cells + 1) (slots + N) (lay ++ [.inl (ci, dl)]) q ls (.ref (b0 + lay.length) :: st) (upA M lay.length (fun _ => 0))) : S l G b0 y cc nL ret rm lay' Post mc ms cells slots lay pc ls st M := by
  subst hq; intro p e s m args below meth c F hb hz H locs la hw hs hl
  refine W_size fun h9 => ?_
  have hsz := WD.ex hb hz hw hs.1 h9
  have hts := F.2.2.2.2.2.1
  have hK := F.2.2.2.2.2.2.2.1
  have hKn := hK.1 ci _ hc
  refine W.newcK F.1 F.2.1 F.2.2.2.2.1 (hts _ h1) (hts _ h2) (hts _ h3) rfl hd hC hS hKn.2.1 hsz fun H1 kC hkC e1 z1 o1 => ?_
  have hP1 : WD G b0 (lay ++ [.inl (ci, dl)]) (upA M lay.length (fun _ => 0)) H1 := by
    unfold WD
    rw [wl_app]
    refine (hw.kept fun k x hx => o1 x.1 (by rw [← hsz]; exact (hw k x hx).lt)).app (fun k x hx => ?_)
    have hz1 : k < 1 := (List.getElem?_eq_some_iff.mp hx).1
    rw [show k = 0 by omega] at hx
    cases hx
    exact ⟨_, hc, (u_born ty hts hin hKn hkC e1 hty).to hdf⟩
  exact k1 p e s m args below meth c F hb (by rw [List.length_append]; simp only [List.length_cons, List.length_nil]; omega) H1 locs la hP1 ⟨Nat.le_trans hs.1 (by omega), fun x a1 a2 => (o1 x (by have := hs.1; omega)).trans (hs.2.1 x a1 a2), hs.2.2⟩ hl
theorem S_newarr {n : Nat} {x : Int32} (hd : decode cc pc = .ok (.newarray .int, 2)) (h1 : Cond.arrayClass .int ∈ TG) (hx : x = nI n) (hn : n ≤ 100000) (hC : cells + 1 ≤ rm.cells) (hS : slots + n ≤ rm.slots) (hq : pc + 2 = q) (k1 : S l G b0 y cc nL ret rm lay' Post mc ms (cells + 1) (slots + n) (lay ++ [.inr (.inl n)]) q ls (.ref (b0 + lay.length) :: st) (upA M lay.length (fun _ => 0))) : S l G b0 y cc nL ret rm lay' Post mc ms cells slots lay pc ls (.int x :: st) M := by
  subst hq hx; intro p e s m args below meth c F hb hz H locs la hw hs hl
  refine W_size fun h9 => ?_
  have hsz := WD.ex hb hz hw hs.1 h9
  have hts := F.2.2.2.2.2.1
  have hK := F.2.2.2.2.2.2.2.1
  have h0 : ¬ nI n < 0 := fun z => absurd (nI_pos' (show n < 2 ^ 31 by omega)) (Int32.not_le.mpr z)
  refine va_newaK (atype := .int) F.1 F.2.1 (hts _ h1) rfl hd rfl h0 (nI_clamp (show n < 2 ^ 31 by omega)) (show n * 4 ≤ 536870912 by omega) hC hS hsz fun H1 cA e1 z1 o1 hAr hNm => ?_
  have hcA : cA = G.2.1 := by
    have h2 : s.vm.findClass ("[" ++ (FieldType.int).toString) = some G.2.1 := (hK.2 0 _ rfl).2
    exact Option.some.inj (hNm.symm.trans h2)
  subst hcA
  have hP1 : WD G b0 (lay ++ [.inr (.inl n)]) (upA M lay.length (fun _ => 0)) H1 := by
    unfold WD
    rw [wl_app]
    refine (hw.kept fun k x hx => o1 x.1 (by rw [← hsz]; exact (hw k x hx).lt)).app (fun k x hx => ?_)
    have hz1 : k < 1 := (List.getElem?_eq_some_iff.mp hx).1
    rw [show k = 0 by omega] at hx
    cases hx
    exact e1
  exact k1 p e s m args below meth c F hb (by rw [List.length_append]; simp only [List.length_cons, List.length_nil]; omega) H1 locs la hP1 ⟨Nat.le_trans hs.1 (by omega), fun x a1 a2 => (o1 x (by have := hs.1; omega)).trans (hs.2.1 x a1 a2), hs.2.2⟩ hl
theorem S_anew {n idx t : Nat} {C : String} {x : Int32} (hd : decode cc pc = .ok (.anewarray idx, 3)) (ht : t < 2) (hC0 : C = if t = 0 then RX1 else RX7) (h1 : Cond.classLink y.cls idx C ∈ TG) (h2 : Cond.arrayOver (.object C) ∈ tables_1) (hx : x = nI n) (hn : n ≤ 100000) (hC : cells + 1 ≤ rm.cells) (hS : slots + n ≤ rm.slots) (hq : pc + 3 = q) (k1 : S l G b0 y cc nL ret rm lay' Post mc ms (cells + 1) (slots + n) (lay ++ [.inr (.inr (t, List.replicate n none))]) q ls (.ref (b0 + lay.length) :: st) (upA M lay.length (fun _ => 0))) : S l G b0 y cc nL ret rm lay' Post mc ms cells slots lay pc ls (.int x :: st) M := by
  subst hq hx; intro p e s m args below meth c F hb hz H locs la hw hs hl
  refine W_size fun h9 => ?_
  have hsz := WD.ex hb hz hw hs.1 h9
  have hts := F.2.2.2.2.2.1
  have hK := F.2.2.2.2.2.2.2.1
  have h0 : ¬ nI n < 0 := fun z => absurd (nI_pos' (show n < 2 ^ 31 by omega)) (Int32.not_le.mpr z)
  have hcl : (nI n).toNatClampNeg = n := nI_clamp (show n < 2 ^ 31 by omega)
  refine W.anew F.1 F.2.1 F.2.2.2.2.1 (hts _ h1) (va_AO.use (F.2.2.2.2.2.2.2.2.1 _ h2 rfl)) rfl hd rfl h0 (by rw [hcl]; omega) hC (by rw [hcl]; exact hS) fun cA kA comp f1 f2 f3 f4 => ?_
  rw [hcl]
  have hcA : cA = G.2.2 t := by
    have h3 : s.vm.findClass ("[" ++ (FieldType.object C).toString) = some (G.2.2 t) := by
      rcases (show t = 0 ∨ t = 1 by omega) with rfl | rfl
      · rw [if_pos rfl] at hC0; subst hC0
        obtain ⟨-, kA', comp', -, -, -, g⟩ := hK.2 1 _ rfl
        exact g
      · rw [if_neg (by decide)] at hC0; subst hC0
        obtain ⟨-, kA', comp', -, -, -, g⟩ := hK.2 2 _ rfl
        exact g
    exact Option.some.inj (f1.symm.trans h3)
  subst hcA
  generalize hH1 : H.push ({ cls := G.2.2 t, slots := Array.replicate n .null, vm := .none } : Cell) = H1
  have z1 : H1.size = H.size + 1 := by rw [← hH1, Array.size_push]
  have e1 : H1[H.size]? = some (arrV (G.2.2 t) n (fun _ => .null)) := by rw [← hH1, Array.getElem?_push_size, ← arrV_new]
  have o1 : ∀ q : Nat, q < H.size → H1[q]? = H[q]? := fun q hq => by rw [← hH1, Array.getElem?_push, if_neg (Nat.ne_of_lt hq)]
  have hP1 : WD G b0 (lay ++ [.inr (.inr (t, List.replicate n none))]) (upA M lay.length (fun _ => 0)) H1 := by
    unfold WD
    rw [wl_app]
    refine (hw.kept fun k x hx => o1 x.1 (hw k x hx).lt).app (fun k x hx => ?_)
    have hz1 : k < 1 := (List.getElem?_eq_some_iff.mp hx).1
    rw [show k = 0 by omega] at hx
    cases hx
    show H1[b0 + lay.length]? = some (vp_cell (G.2.2 t) ((List.replicate n none).length, .inr (.inr (.inr (.inr (qv b0 (List.replicate n none)))))))
    rw [← hsz, e1, List.length_replicate, vp_cell_q]
    refine congrArg some (congrArg (arrV (G.2.2 t) n) (funext fun j => ?_))
    unfold qv
    rw [List.getD_eq_getElem?_getD, List.getElem?_replicate]
    split <;> rfl
  rw [hsz]
  exact k1 p e s m args below meth c F hb (by rw [List.length_append]; simp only [List.length_cons, List.length_nil]; omega) H1 locs la hP1 ⟨Nat.le_trans hs.1 (by omega), fun x a1 a2 => (o1 x (by have := hs.1; omega)).trans (hs.2.1 x a1 a2), hs.2.2⟩ hl
/-- a final reference, in its class's constructor -/
def FPF (own : String) (idx ci j : Nat) (ty : FieldType) : Prop := ∃ (C : String) (T : u_T) (N : Nat) (ty0 : Nat → FieldType), vwCl[ci]? = some (C, T, N) ∧ j < N ∧ (∀ w ∈ u_ws C T N, w ∈ TG) ∧ Cond.fieldLink own idx (T j).1 (T j).2.1 (T j).2.2.1 ∈ TG ∧ (∀ k, k < N → parseFieldDescriptor (T k).2.2.1 = some (ty0 k)) ∧ (∀ a, a < N → ∀ b, b < N → a ≠ b → (T a).2.1 ≠ (T b).2.1) ∧ (T j).2.2.2 = true ∧ (T j).1 = own ∧ parseFieldDescriptor (T j).2.2.1 = some ty
theorem S_putF {k ci j idx o : Nat} {fs : List (Option (Option Nat))} {x0 : Option Nat} {ty : FieldType} (hd : decode cc pc = .ok (.putfield idx, 3)) (hf : FPF y.cls idx ci j ty) (hk : lay[k]? = some (.inl (ci, fs))) (hj : fs[j]? = some (some x0)) (hy : y.name = "<init>") (hfit : ∀ b, narrow ty (.ref b) = .ref b ∧ fits ty (.ref b) = true) (hq : pc + 3 = q) (k1 : S l G b0 y cc nL ret rm lay' Post mc ms cells slots (lay.set k (.inl (ci, fs.set j (some (some o))))) q ls st M) : S l G b0 y cc nL ret rm lay' Post mc ms cells slots lay pc ls (.ref (b0 + o) :: .ref (b0 + k) :: st) M := by
  subst hq; intro p e s m args below meth c F hb hz H locs la hw hs hl
  obtain ⟨C, T, N, ty0, h1, h2, h3, h4, h5, h6, h7, h8, h9⟩ := hf
  have hts := F.2.2.2.2.2.1
  have hjl := (List.getElem?_eq_some_iff.mp hj).1
  have hl2 : j < (fs.mapIdx (fun j x => fv b0 (M k) j x)).length := by simp; exact hjl
  refine va_putF F.1 F.2.1 hts h3 ty0 h5 h6 F.2.2.2.2.1 F.2.2.2.2.2.2.2.1 hw wl_D hs k (wl_fs hk) h1 j h2 (hts _ h4) (fun _ h9 => h9) h7 (F.2.2.2.2.2.2.2.2.2.trans hy) h8 h9 (hfit (b0 + o)).1 (hfit (b0 + o)).2 hl2 hd (fun H1 locs1 hP1 _ hS1 => ?_)
  have e1 : (fs.mapIdx (fun j x => fv b0 (M k) j x)).set j (.ref (b0 + o)) = (fs.set j (some (some o))).mapIdx (fun j x => fv b0 (M k) j x) := by
    refine List.ext_getElem? (fun i => ?_)
    rw [List.getElem?_set, List.getElem?_mapIdx, List.getElem?_mapIdx, List.getElem?_set]
    by_cases h : j = i
    · subst h; rw [if_pos rfl, if_pos rfl, if_pos hl2, if_pos hjl]; rfl
    · rw [if_neg h, if_neg h]
  rw [e1] at hP1
  have e2 : (wl G b0 lay M).set k (b0 + k, .inr (ci, (fs.set j (some (some o))).mapIdx (fun j x => fv b0 (M k) j x))) = wl G b0 (lay.set k (.inl (ci, fs.set j (some (some o))))) M := wl_set (x := .inl (ci, fs.set j (some (some o))))
  rw [e2] at hP1
  exact k1 p e s m args below meth c F hb (by rw [List.length_set]; exact hz) H1 locs1 la hP1 hS1 hl
/-- an element of an array of references -/
theorem S_aast {k t o ci N i : Nat} {r : List (Option Nat)} {C : String} {T : u_T} {fs : List (Option (Option Nat))} {x : Int32} (hd : decode cc pc = .ok (.aastore, 1)) (hk : lay[k]? = some (.inr (.inr (t, r)))) (ht : t < 2) (ho : lay[o]? = some (.inl (ci, fs))) (hc : vwCl[ci]? = some (C, T, N)) (hC0 : C = if t = 0 then RX1 else RX7) (hx : x = nI i) (hi : i < r.length) (hr : r.length < 2 ^ 31) (hq : pc + 1 = q) (k1 : S l G b0 y cc nL ret rm lay' Post mc ms cells slots (lay.set k (.inr (.inr (t, r.set i (some o))))) q ls st M) : S l G b0 y cc nL ret rm lay' Post mc ms cells slots lay pc ls (.ref (b0 + o) :: .int x :: .ref (b0 + k) :: st) M := by
  subst hq hx; intro p e s m args below meth c F hb hz H locs la hw hs hl
  have hcl : (nI i).toNatClampNeg = i := nI_clamp (by omega)
  have hin : vp_in (nI i) r.length := vp_in_nI hi hr
  have htt : (ctys G)[t + 1]? = some (G.2.2 t, .object C) := by
    rcases (show t = 0 ∨ t = 1 by omega) with rfl | rfl
    · rw [if_pos rfl] at hC0; subst hC0; rfl
    · rw [if_neg (by decide)] at hC0; subst hC0; rfl
  refine va_astq F.1 F.2.1 F.2.2.2.2.2.2.2.1 hw wl_D hs k (t + 1) o ci (wl_aq hk) htt (wl_fs ho) hc hin hd (fun H1 locs1 hP1 _ hS1 => ?_)
  rw [hcl] at hP1
  have e1 : va_up (qv b0 r) i (some (b0 + o)) = qv b0 (r.set i (some o)) := by
    funext j
    unfold va_up qv
    rw [List.getD_eq_getElem?_getD, List.getD_eq_getElem?_getD, List.getElem?_set]
    by_cases h : j = i
    · subst h; rw [if_pos rfl, if_pos rfl, if_pos hi]; rfl
    · rw [if_neg h, if_neg (fun z => h z.symm)]
  rw [e1] at hP1
  have e2 : (wl G b0 lay M).set k (b0 + k, .inl (G.2.2 t, r.length, .inr (.inr (.inr (.inr (qv b0 (r.set i (some o)))))))) = wl G b0 (lay.set k (.inr (.inr (t, r.set i (some o))))) M := by
    have h := wl_set (G := G) (b0 := b0) (lay := lay) (M := M) (k := k) (x := .inr (.inr (t, r.set i (some o))))
    rw [← h]
    show _ = (wl G b0 lay M).set k (b0 + k, .inl (G.2.2 t, (r.set i (some o)).length, .inr (.inr (.inr (.inr (qv b0 (r.set i (some o))))))))
    rw [List.length_set]
  rw [e2] at hP1
  exact k1 p e s m args below meth c F hb (by rw [List.length_set]; exact hz) H1 locs1 la hP1 hS1 hl
variable {y' : MethodName} {cc' : ByteArray} {n' : Nat} {rm' : Room} {lay1 : Lay} {Post' : PT}
theorem S_callI0 {k idx : Nat} {rest : List Value} (hd : decode cc pc = .ok (.invokespecial idx, 3)) (hL : LkI y.cls idx y' cc' n' 0) (hM : Ct l G b0 y' cc' n' none rm' lay lay1 M [.ref (b0 + k)] Post') (hlen : lay1.length = lay.length + rm'.cells) (hW : (rest.map fun v => v.category).sum ≤ 8) (hR : rm'.frames + 1 ≤ rm.frames ∧ 8 + (n' + 11) + rm'.locals ≤ rm.locals) (hC : cells + rm'.cells ≤ rm.cells ∧ slots + rm'.slots ≤ rm.slots) (hq : pc + 3 = q) (kk : ∀ (v : Int32) (M' : Mem), Post' v M' → S l G b0 y cc nL ret rm lay' Post mc ms (cells + rm'.cells) (slots + rm'.slots) lay1 q ls rest M') : S l G b0 y cc nL ret rm lay' Post mc ms cells slots lay pc ls (.ref (b0 + k) :: rest) M := by
  subst hq
  intro p e s m args below meth c F hb hz H locs la hw hs hl
  refine W_size fun h9 => ?_
  have hpre : PreS s H (va_Pc [.ref (b0 + k)] (World G b0 lay M)) [.ref (b0 + k)] := ⟨Ct.blind, fun U hU hW2 => ⟨rfl, by rw [hU]; exact WD.ex hb hz hw hs.1 h9, by rw [hU]; exact hw, va_K.moved hW2.alike F.2.2.2.2.2.2.2.1, NW.warm hW2 F.2.2.2.2.2.2.2.2.1⟩⟩
  have hts := F.2.2.2.2.2.1
  have hfin := fun (v : Int32) (M' : Mem) (H1 : Heap) (locs1 : List Loc) (hp : Post' v M') (hw1 : WD G b0 lay1 M' H1) (hs1 : va_S (fun q => b0 ≤ q) s.heap H1 locs1) => kk v M' hp p e s m args below meth c F hb (by omega) H1 locs1 la hw1 hs1 hl
  obtain ⟨⟨hL1, hL2, hL3, hL4, hL5⟩, hL6⟩ := hL
  rcases hL2 with hL2 | ⟨host, hL2⟩
  · exact go_void (va_runI (As := []) (rest := rest) ⟨F.1, F.2.1, F.2.2.2.1, F.2.2.2.2.1, hts⟩ hM (cwI 0 hts hL1 rfl rfl rfl (hts _ hL3) (hts _ hL2) (hts _ hL4) hL5 hL6 hR) hpre rfl rfl hl.1 rfl (lv_room hW) hd hC) hs hfin
  · exact go_void (va_runIN (As := []) (rest := rest) ⟨F.1, F.2.1, F.2.2.2.1, F.2.2.2.2.1, hts⟩ hM ⟨va_cnB 0 hts hL1 rfl rfl rfl (F.2.2.2.2.2.2.2.2.1 _ hL2 rfl) (hts _ hL3) hL6 hR, hL5, hts _ hL4⟩ hpre rfl rfl hl.1 rfl (lv_room hW) hd hC) hs hfin
theorem S_callI1 {k idx : Nat} {a1 : Value} {rest : List Value} (hd : decode cc pc = .ok (.invokespecial idx, 3)) (hL : LkI y.cls idx y' cc' n' 1) (hM : Ct l G b0 y' cc' n' none rm' lay lay1 M [.ref (b0 + k), a1] Post') (hlen : lay1.length = lay.length + rm'.cells) (hW : (rest.map fun v => v.category).sum ≤ 8) (hR : rm'.frames + 1 ≤ rm.frames ∧ 8 + (n' + 11) + rm'.locals ≤ rm.locals) (hC : cells + rm'.cells ≤ rm.cells ∧ slots + rm'.slots ≤ rm.slots) (hq : pc + 3 = q) (kk : ∀ (v : Int32) (M' : Mem), Post' v M' → S l G b0 y cc nL ret rm lay' Post mc ms (cells + rm'.cells) (slots + rm'.slots) lay1 q ls rest M') : S l G b0 y cc nL ret rm lay' Post mc ms cells slots lay pc ls (a1 :: .ref (b0 + k) :: rest) M := by
  subst hq
  intro p e s m args below meth c F hb hz H locs la hw hs hl
  refine W_size fun h9 => ?_
  have hpre : PreS s H (va_Pc [.ref (b0 + k), a1] (World G b0 lay M)) [.ref (b0 + k), a1] := ⟨Ct.blind, fun U hU hW2 => ⟨rfl, by rw [hU]; exact WD.ex hb hz hw hs.1 h9, by rw [hU]; exact hw, va_K.moved hW2.alike F.2.2.2.2.2.2.2.1, NW.warm hW2 F.2.2.2.2.2.2.2.2.1⟩⟩
  have hts := F.2.2.2.2.2.1
  have hfin := fun (v : Int32) (M' : Mem) (H1 : Heap) (locs1 : List Loc) (hp : Post' v M') (hw1 : WD G b0 lay1 M' H1) (hs1 : va_S (fun q => b0 ≤ q) s.heap H1 locs1) => kk v M' hp p e s m args below meth c F hb (by omega) H1 locs1 la hw1 hs1 hl
  obtain ⟨⟨hL1, hL2, hL3, hL4, hL5⟩, hL6⟩ := hL
  rcases hL2 with hL2 | ⟨host, hL2⟩
  · exact go_void (va_runI (As := [a1]) (rest := rest) ⟨F.1, F.2.1, F.2.2.2.1, F.2.2.2.2.1, hts⟩ hM (cwI 1 hts hL1 rfl rfl rfl (hts _ hL3) (hts _ hL2) (hts _ hL4) hL5 hL6 hR) hpre rfl rfl hl.1 rfl (lv_room hW) hd hC) hs hfin
  · exact go_void (va_runIN (As := [a1]) (rest := rest) ⟨F.1, F.2.1, F.2.2.2.1, F.2.2.2.2.1, hts⟩ hM ⟨va_cnB 1 hts hL1 rfl rfl rfl (F.2.2.2.2.2.2.2.2.1 _ hL2 rfl) (hts _ hL3) hL6 hR, hL5, hts _ hL4⟩ hpre rfl rfl hl.1 rfl (lv_room hW) hd hC) hs hfin
end NEWS
