
/-! words: all good words of the tables at once -/
def TG : List Cond := lw_tbl.filter goodWord
theorem TG_tab {w : Cond} (i : Nat) (h : tables_1[i]? = some w) (g : goodWord w = true) : w ∈ TG := List.mem_filter.mpr ⟨List.mem_append_right _ (List.mem_of_getElem? h), g⟩
theorem TG_sel {q : MethodName × Nat} (i : Nat) (h : lw_privs[i]? = some q) : Cond.selects q.1.cls q.1 q.1 ∈ TG := List.mem_filter.mpr ⟨List.mem_append_left _ (List.mem_map.mpr ⟨q, List.mem_of_getElem? h, rfl⟩), rfl⟩
theorem TG_good {w : Cond} (h : w ∈ TG) : (w.onTables && w.keeps) = true ∨ ∃ ty, w = .arrayClass ty := good_of_word (List.mem_filter.mp h).2
theorem TG_all {ws : List Cond} (ps : List Nat) (hp : ws = ps.filterMap (fun i => tables_1[i]?)) (hg : ws.all goodWord = true) : ∀ w ∈ ws, w ∈ TG := by
  intro w hw
  have h1 := List.all_eq_true.mp hg w hw
  rw [hp] at hw
  obtain ⟨i, -, hi⟩ := List.mem_filterMap.mp hw
  exact TG_tab i hi h1
def isN : Cond → Bool
  | .fieldLinkNest .. => true
  | .methodLinkNest .. => true
  | .arrayOver (.object _) => true
  | _ => false
theorem AO_same {C : String} {u U : State} (h : u.vm = U.vm) (hn : va_AO C u) : va_AO C U := by
  unfold va_AO Cond.before Cond.holds at *
  simp only [Cond.value] at *
  rw [← h]
  exact hn
def NW (U : State) : Prop := ∀ w ∈ tables_1, isN w = true → va_Nw w U
theorem NW.same {u U : State} (h : u.vm = U.vm) (hn : NW u) : NW U := by
  intro w hw hi
  have h2 := hn w hw hi
  cases w with
  | arrayOver t => cases t <;> first | (simp [isN] at hi; done) | exact AO_same h h2
  | _ => first | (simp [isN] at hi; done) | exact va_Nw.same rfl h h2
theorem NW.warm {s U : State} (hW : s.WarmedH U.vm) (hn : NW s) : NW U := by
  intro w hw hi
  have h := hn w hw hi
  cases w with
  | arrayOver t => cases t <;> first | (simp [isN] at hi; done) | exact va_AO.moved hW.alike h
  | _ => first | (simp [isN] at hi; done) | exact va_Nw.warmF hW h | exact va_Nw.warmM hW h
theorem NW.tab {U : State} (hn : NW U) {w : Cond} (i : Nat) (h : tables_1[i]? = some w) (hi : isN w = true) : va_Nw w U := hn w (List.mem_of_getElem? h) hi
/-! the memory: by cell (its place from b0 on) and slot -/
abbrev Mem : Type := Nat → Nat → Int32
def upA (M : Mem) (k : Nat) (f : Nat → Int32) : Mem := fun a => if a = k then f else M a
def up (M : Mem) (k j : Nat) (v : Int32) : Mem := upA M k (upd (M k) j v)
theorem upA_s {M : Mem} {k : Nat} {f : Nat → Int32} : upA M k f k = f := if_pos rfl
theorem upA_n {M : Mem} {k a : Nat} {f : Nat → Int32} (h : a ≠ k) : upA M k f a = M a := if_neg h
theorem upd_s {f : Nat → Int32} {k : Nat} {x : Int32} : upd f k x k = x := if_pos rfl
theorem upd_n {f : Nat → Int32} {k j : Nat} {x : Int32} (h : j ≠ k) : upd f k x j = f j := if_neg h
theorem up_s {M : Mem} {k j : Nat} {v : Int32} : up M k j v k j = v := by unfold up; rw [upA_s, upd_s]
theorem up_a {M : Mem} {k j : Nat} {v : Int32} : up M k j v k = upd (M k) j v := by unfold up; rw [upA_s]
theorem up_n {M : Mem} {k j a : Nat} {v : Int32} (h : a ≠ k) : up M k j v a = M a := by unfold up; rw [upA_n h]
/-- what a cell is: an object (its class, its fields: an int, or null, or a place), an int array of a length, an array of places -/
abbrev LE : Type := (Nat × List (Option (Option Nat))) ⊕ (Nat ⊕ (Nat × List (Option Nat)))
abbrev Lay : Type := List LE
abbrev Gd : Type := va_G × ClassId × (Nat → ClassId)
def fv (b0 : Nat) (f : Nat → Int32) (j : Nat) (x : Option (Option Nat)) : Value := match x with
  | none => .int (f j)
  | some none => .null
  | some (some o) => .ref (b0 + o)
def qv (b0 : Nat) (l : List (Option Nat)) : Nat → Option Nat := fun j => (l.getD j none).map (fun o => b0 + o)
def cE (G : Gd) (b0 : Nat) (f : Nat → Int32) (e : LE) : va_E := match e with
  | .inl (ci, fs) => .inr (ci, fs.mapIdx (fun j x => fv b0 f j x))
  | .inr (.inl n) => .inl (G.2.1, n, .inl f)
  | .inr (.inr (t, r)) => .inl (G.2.2 t, r.length, .inr (.inr (.inr (.inr (qv b0 r)))))
def wl (G : Gd) (b0 : Nat) (lay : Lay) (M : Mem) : va_W := lay.mapIdx (fun k e => (b0 + k, cE G b0 (M k) e))
theorem wl_at {G : Gd} {b0 : Nat} {lay : Lay} {M : Mem} {k : Nat} {e : LE} (h : lay[k]? = some e) : (wl G b0 lay M)[k]? = some (b0 + k, cE G b0 (M k) e) := by
  simp [wl, List.getElem?_mapIdx, h]
theorem wl_D {G : Gd} {b0 : Nat} {lay : Lay} {M : Mem} : va_D (fun q => b0 ≤ q) (wl G b0 lay M) := by
  have key : ∀ (i : Nat) (p : Nat × va_E), (wl G b0 lay M)[i]? = some p → p.1 = b0 + i := by
    intro i p h
    simp only [wl, List.getElem?_mapIdx] at h
    cases hl : lay[i]? with
    | none => rw [hl] at h; cases h
    | some e => rw [hl] at h; cases h; rfl
  refine ⟨fun i j p q hp hq hpq => ?_, fun k q hq => ?_⟩
  · have h1 := key i p hp
    have h2 := key j q hq
    omega
  · have h1 := key k q hq
    show b0 ≤ q.1
    omega
theorem wl_setA {G : Gd} {b0 : Nat} {lay : Lay} {M : Mem} {k n : Nat} {f : Nat → Int32} (h : lay[k]? = some (.inr (.inl n))) : (wl G b0 lay M).set k (b0 + k, .inl (G.2.1, n, .inl f)) = wl G b0 lay (upA M k f) := by
  apply List.ext_getElem?
  intro i
  have hk : k < (wl G b0 lay M).length := by simp [wl]; exact (List.getElem?_eq_some_iff.mp h).1
  by_cases hi : i = k
  · subst hi
    rw [List.getElem?_set_self hk, wl_at h, upA_s]
    rfl
  · rw [List.getElem?_set_ne (Ne.symm hi)]
    simp only [wl, List.getElem?_mapIdx, upA_n hi]
theorem fv_set {b0 : Nat} {f : Nat → Int32} {fs : List (Option (Option Nat))} {j : Nat} {v : Int32} (hj : fs[j]? = some none) : (fs.mapIdx (fun j x => fv b0 f j x)).set j (.int v) = fs.mapIdx (fun i x => fv b0 (upd f j v) i x) := by
  apply List.ext_getElem?
  intro i
  have hl : j < (fs.mapIdx (fun j x => fv b0 f j x)).length := by simp; exact (List.getElem?_eq_some_iff.mp hj).1
  by_cases hi : i = j
  · subst hi
    rw [List.getElem?_set_self hl]
    simp [List.getElem?_mapIdx, hj, fv, upd]
  · rw [List.getElem?_set_ne (Ne.symm hi)]
    simp only [List.getElem?_mapIdx]
    congr 1
    funext x
    match x with
    | none => simp [fv, upd, hi]
    | some none => rfl
    | some (some o) => rfl
theorem wl_setI {G : Gd} {b0 : Nat} {lay : Lay} {M : Mem} {k ci j : Nat} {fs : List (Option (Option Nat))} {v : Int32} (h : lay[k]? = some (.inl (ci, fs))) (hj : fs[j]? = some none) : (wl G b0 lay M).set k (b0 + k, .inr (ci, (fs.mapIdx (fun j x => fv b0 (M k) j x)).set j (.int v))) = wl G b0 lay (up M k j v) := by
  apply List.ext_getElem?
  intro i
  have hk : k < (wl G b0 lay M).length := by simp [wl]; exact (List.getElem?_eq_some_iff.mp h).1
  by_cases hi : i = k
  · subst hi
    rw [List.getElem?_set_self hk, wl_at h, up_a, fv_set hj]
    rfl
  · rw [List.getElem?_set_ne (Ne.symm hi)]
    simp only [wl, List.getElem?_mapIdx, up_n hi]
def ctys (G : Gd) : List (ClassId × FieldType) := [(G.2.1, .int), (G.2.2 0, .object RX1), (G.2.2 1, .object RX7)]
def okK (G : Gd) (U : State) : Prop := va_K G.1 vwCl (ctys G) U
/-- what a method leaves: an int, or nothing -/
abbrev PT : Type := Int32 → Mem → Prop
def rv (ret : Option FieldType) (v : Int32) : Option Value := match ret with
  | none => none
  | some _ => some (.int v)
def WD (G : Gd) (b0 : Nat) (lay : Lay) (M : Mem) (H : Heap) : Prop := va_P G.1 vwCl (wl G b0 lay M) H
def World (G : Gd) (b0 : Nat) (lay : Lay) (M : Mem) (U : State) : Prop := U.heap.size = b0 + lay.length ∧ WD G b0 lay M U.heap ∧ okK G U ∧ NW U
theorem WD.le {G : Gd} {b0 : Nat} {lay : Lay} {M : Mem} {H : Heap} (h : WD G b0 lay M H) (hb : b0 ≤ H.size) : b0 + lay.length ≤ H.size := by
  rcases Nat.eq_zero_or_pos lay.length with h0 | h0
  · omega
  · have hk : lay.length - 1 < lay.length := by omega
    have h1 := (h _ _ (wl_at (List.getElem?_eq_getElem hk))).lt
    have h2 : b0 + (lay.length - 1) < H.size := h1
    omega
theorem W_size {p : Program} {l : Launch} {e : Env} {R : Room} {s : State} {m : MethodId} {args : Array Value} {below : List Frame} {meth : Method} {c : Code} {H : Heap} {locs : List Loc} {cells slots : Nat} {Q : State → Prop} {g : JFrame} (k : H.size ≤ s.heap.size + cells → W p l e R s m args below meth c H locs cells slots Q g) : W p l e R s m args below meth c H locs cells slots Q g := fun T hT X => k (by
  have h := X.same.2.2.1
  rw [← hT]
  exact h) T hT X
def QC (G : Gd) (b0 : Nat) (ret : Option FieldType) (lay' : Lay) (Post : PT) : Array Value → State → Outcome → State → Prop := fun _ st oc t => (∃ (v : Int32) (M' : Mem), oc = .returned (rv ret v) ∧ Post v M' ∧ World G b0 lay' M' t) ∧ va_F (fun q => b0 ≤ q) st t
/-- a method's contract -/
def Ct (l : Launch) (G : Gd) (b0 : Nat) (y : MethodName) (cc : ByteArray) (nL : Nat) (ret : Option FieldType) (rm : Room) (lay lay' : Lay) (M : Mem) (vs : List Value) (Post : PT) : Prop := Met l y (.code y cc nL ret :: TG) rm (va_Pc vs (World G b0 lay M)) (QC G b0 ret lay' Post) rm.cells rm.slots (fun q => b0 ≤ q)
def Fx (G : Gd) (y : MethodName) (cc : ByteArray) (nL : Nat) (ret : Option FieldType) (p : Program) (s : State) (m : MethodId) (args : Array Value) (meth : Method) (c : Code) : Prop :=
  p.tables.exec = Jvm.exec ∧ c.code = cc ∧ meth.sig.returnType = ret ∧ c.maxLocals = nL ∧ s.vm.findClass y.cls = some m.cls ∧ (∀ w ∈ TG, w.before args s = true) ∧ meth.locks = false ∧ okK G s ∧ NW s ∧ meth.name = y.name
def LH (la : Array Slot) (nL : Nat) (ls : List (Option Value)) : Prop := la.size = nL ∧ lv_wf la ∧ ls.length ≤ nL ∧ ∀ (i : Nat) (v : Value), ls[i]? = some (some v) → v.category = 1 ∧ la[i]? = some (.val v)
def S (l : Launch) (G : Gd) (b0 : Nat) (y : MethodName) (cc : ByteArray) (nL : Nat) (ret : Option FieldType) (rm : Room) (lay' : Lay) (Post : PT) (mc ms cells slots : Nat) (lay : Lay) (pc : Nat) (ls : List (Option Value)) (st : List Value) (M : Mem) : Prop :=
  ∀ (p : Program) (e : Env) (s : State) (m : MethodId) (args : Array Value) (below : List Frame) (meth : Method) (c : Code), Fx G y cc nL ret p s m args meth c → b0 ≤ s.heap.size → s.heap.size + cells = b0 + lay.length →
  ∀ (H : Heap) (locs : List Loc) (la : Array Slot), WD G b0 lay M H → va_S (fun q => b0 ≤ q) s.heap H locs → LH la nL ls →
  W p l e rm s m args below meth c H locs cells slots (MQ below (QC G b0 ret lay' Post) args s mc ms (fun q => b0 ≤ q)) (F0 m pc la st)
theorem LH.at {la : Array Slot} {nL i : Nat} {ls : List (Option Value)} {v : Value} (h : LH la nL ls) (hi : ls[i]? = some (some v)) : la[i]? = some (.val v) := (h.2.2.2 i v hi).2
theorem LH.lv {la : Array Slot} {nL : Nat} {ls : List (Option Value)} (h : LH la nL ls) : lv_has la nL ((List.range nL).filterMap (fun i => (ls.getD i none).map (fun v => (i, v)))) := by
  refine ⟨h.1, h.2.1, fun q hq => ?_⟩
  obtain ⟨i, -, hi⟩ := List.mem_filterMap.mp hq
  cases hv : ls.getD i none with
  | none => rw [hv] at hi; cases hi
  | some v =>
    rw [hv] at hi
    cases hi
    refine (h.2.2.2 i v ?_).2
    rw [List.getD_eq_getElem?_getD] at hv
    cases hz : ls[i]? with
    | none => rw [hz] at hv; cases hv
    | some z => rw [hz] at hv; simp at hv; rw [hv]
theorem LH.put {la la' : Array Slot} {nL i : Nat} {ls : List (Option Value)} {v : Value} (h : LH la nL ls) (hi : i < ls.length) (hc : v.category = 1) (h2 : lv_has la' nL ((i, v) :: ((List.range nL).filterMap (fun i => (ls.getD i none).map (fun v => (i, v)))).filter (fun q => !(q.1 == i) && !(q.1 + 1 == i && q.2.category == 2)))) : LH la' nL (ls.set i (some v)) := by
  refine ⟨h2.1, h2.2.1, by rw [List.length_set]; exact h.2.2.1, fun j x hj => ?_⟩
  by_cases hji : j = i
  · subst hji
    rw [List.getElem?_set_self hi] at hj
    cases hj
    exact ⟨hc, h2.2.2 (j, v) List.mem_cons_self⟩
  · rw [List.getElem?_set_ne (Ne.symm hji)] at hj
    have h1 := h.2.2.2 j x hj
    refine ⟨h1.1, h2.2.2 (j, x) (List.mem_cons_of_mem _ (List.mem_filter.mpr ⟨List.mem_filterMap.mpr ⟨j, List.mem_range.mpr ?_, ?_⟩, ?_⟩))⟩
    · have := (List.getElem?_eq_some_iff.mp hj).1
      have := h.2.2.1
      omega
    · rw [List.getD_eq_getElem?_getD, hj]; rfl
    · simp [hji, h1.1]
theorem LH.lt {la : Array Slot} {nL i : Nat} {ls : List (Option Value)} (h : LH la nL ls) (hi : i < ls.length) : i < nL := Nat.lt_of_lt_of_le hi h.2.2.1
section ENG
variable {l : Launch} {G : Gd} {b0 : Nat} {y : MethodName} {cc : ByteArray} {nL : Nat} {ret : Option FieldType} {rm : Room} {lay' : Lay} {Post : PT} {mc ms cells slots : Nat} {lay : Lay} {pc q : Nat} {ls : List (Option Value)} {st : List Value} {M : Mem}

theorem S_iadd {x z : Int32} (hd : decode cc pc = .ok (.iadd, 1)) (hq : pc + 1 = q) (k : S l G b0 y cc nL ret rm lay' Post mc ms cells slots lay q ls (.int (x + z) :: st) M) : S l G b0 y cc nL ret rm lay' Post mc ms cells slots lay pc ls (.int z :: .int x :: st) M := by
  subst hq; intro p e s m args below meth c F hb hz H locs la hw hs hl; exact lv_iadd F.1 F.2.1 hd (k p e s m args below meth c F hb hz H locs la hw hs hl)
theorem S_isub {x z : Int32} (hd : decode cc pc = .ok (.isub, 1)) (hq : pc + 1 = q) (k : S l G b0 y cc nL ret rm lay' Post mc ms cells slots lay q ls (.int (x - z) :: st) M) : S l G b0 y cc nL ret rm lay' Post mc ms cells slots lay pc ls (.int z :: .int x :: st) M := by
  subst hq; intro p e s m args below meth c F hb hz H locs la hw hs hl; exact lv_isub F.1 F.2.1 hd (k p e s m args below meth c F hb hz H locs la hw hs hl)
theorem S_imul {x z : Int32} (hd : decode cc pc = .ok (.imul, 1)) (hq : pc + 1 = q) (k : S l G b0 y cc nL ret rm lay' Post mc ms cells slots lay q ls (.int (x * z) :: st) M) : S l G b0 y cc nL ret rm lay' Post mc ms cells slots lay pc ls (.int z :: .int x :: st) M := by
  subst hq; intro p e s m args below meth c F hb hz H locs la hw hs hl; exact lv_imul F.1 F.2.1 hd (k p e s m args below meth c F hb hz H locs la hw hs hl)
theorem S_iand {x z : Int32} (hd : decode cc pc = .ok (.iand, 1)) (hq : pc + 1 = q) (k : S l G b0 y cc nL ret rm lay' Post mc ms cells slots lay q ls (.int (x &&& z) :: st) M) : S l G b0 y cc nL ret rm lay' Post mc ms cells slots lay pc ls (.int z :: .int x :: st) M := by
  subst hq; intro p e s m args below meth c F hb hz H locs la hw hs hl; exact lv_iand F.1 F.2.1 hd (k p e s m args below meth c F hb hz H locs la hw hs hl)
theorem S_ior {x z : Int32} (hd : decode cc pc = .ok (.ior, 1)) (hq : pc + 1 = q) (k : S l G b0 y cc nL ret rm lay' Post mc ms cells slots lay q ls (.int (x ||| z) :: st) M) : S l G b0 y cc nL ret rm lay' Post mc ms cells slots lay pc ls (.int z :: .int x :: st) M := by
  subst hq; intro p e s m args below meth c F hb hz H locs la hw hs hl; exact lv_ior F.1 F.2.1 hd (k p e s m args below meth c F hb hz H locs la hw hs hl)
theorem S_ixor {x z : Int32} (hd : decode cc pc = .ok (.ixor, 1)) (hq : pc + 1 = q) (k : S l G b0 y cc nL ret rm lay' Post mc ms cells slots lay q ls (.int (x ^^^ z) :: st) M) : S l G b0 y cc nL ret rm lay' Post mc ms cells slots lay pc ls (.int z :: .int x :: st) M := by
  subst hq; intro p e s m args below meth c F hb hz H locs la hw hs hl; exact lv_ixor F.1 F.2.1 hd (k p e s m args below meth c F hb hz H locs la hw hs hl)
theorem S_ishl {x z : Int32} (hd : decode cc pc = .ok (.ishl, 1)) (hq : pc + 1 = q) (k : S l G b0 y cc nL ret rm lay' Post mc ms cells slots lay q ls (.int (x <<< (z &&& 31)) :: st) M) : S l G b0 y cc nL ret rm lay' Post mc ms cells slots lay pc ls (.int z :: .int x :: st) M := by
  subst hq; intro p e s m args below meth c F hb hz H locs la hw hs hl; exact lv_ishl F.1 F.2.1 hd (k p e s m args below meth c F hb hz H locs la hw hs hl)
theorem S_ishr {x z : Int32} (hd : decode cc pc = .ok (.ishr, 1)) (hq : pc + 1 = q) (k : S l G b0 y cc nL ret rm lay' Post mc ms cells slots lay q ls (.int (x >>> (z &&& 31)) :: st) M) : S l G b0 y cc nL ret rm lay' Post mc ms cells slots lay pc ls (.int z :: .int x :: st) M := by
  subst hq; intro p e s m args below meth c F hb hz H locs la hw hs hl; exact lv_ishr F.1 F.2.1 hd (k p e s m args below meth c F hb hz H locs la hw hs hl)
theorem S_idiv {x z : Int32} (hd : decode cc pc = .ok (.idiv, 1)) (hne : ¬ z = 0) (hq : pc + 1 = q) (k : S l G b0 y cc nL ret rm lay' Post mc ms cells slots lay q ls (.int (x / z) :: st) M) : S l G b0 y cc nL ret rm lay' Post mc ms cells slots lay pc ls (.int z :: .int x :: st) M := by
  subst hq; intro p e s m args below meth c F hb hz H locs la hw hs hl; exact lv_idiv F.1 F.2.1 hd hne (k p e s m args below meth c F hb hz H locs la hw hs hl)
theorem S_irem {x z : Int32} (hd : decode cc pc = .ok (.irem, 1)) (hne : ¬ z = 0) (hq : pc + 1 = q) (k : S l G b0 y cc nL ret rm lay' Post mc ms cells slots lay q ls (.int (x - x / z * z) :: st) M) : S l G b0 y cc nL ret rm lay' Post mc ms cells slots lay pc ls (.int z :: .int x :: st) M := by
  subst hq; intro p e s m args below meth c F hb hz H locs la hw hs hl; exact lv_irem F.1 F.2.1 hd hne (k p e s m args below meth c F hb hz H locs la hw hs hl)
theorem S_ineg {x : Int32} (hd : decode cc pc = .ok (.ineg, 1)) (hq : pc + 1 = q) (k : S l G b0 y cc nL ret rm lay' Post mc ms cells slots lay q ls (.int (-x) :: st) M) : S l G b0 y cc nL ret rm lay' Post mc ms cells slots lay pc ls (.int x :: st) M := by
  subst hq; intro p e s m args below meth c F hb hz H locs la hw hs hl; exact lv_ineg F.1 F.2.1 hd (k p e s m args below meth c F hb hz H locs la hw hs hl)
theorem S_i2b {x : Int32} (hd : decode cc pc = .ok (.i2b, 1)) (hq : pc + 1 = q) (k : S l G b0 y cc nL ret rm lay' Post mc ms cells slots lay q ls (.int x.toInt8.toInt32 :: st) M) : S l G b0 y cc nL ret rm lay' Post mc ms cells slots lay pc ls (.int x :: st) M := by
  subst hq; intro p e s m args below meth c F hb hz H locs la hw hs hl; exact lv_i2b F.1 F.2.1 hd rfl (k p e s m args below meth c F hb hz H locs la hw hs hl)
theorem S_iushr {x z : Int32} (hd : decode cc pc = .ok (.iushr, 1)) (hq : pc + 1 = q) (k : S l G b0 y cc nL ret rm lay' Post mc ms cells slots lay q ls (.int ((x.toUInt32 >>> (z.toUInt32 &&& Int32.toUInt32 31)).toInt32) :: st) M) : S l G b0 y cc nL ret rm lay' Post mc ms cells slots lay pc ls (.int z :: .int x :: st) M := by
  subst hq; intro p e s m args below meth c F hb hz H locs la hw hs hl; exact lv_iushr F.1 F.2.1 hd rfl (k p e s m args below meth c F hb hz H locs la hw hs hl)
theorem S_iconst {n : Int} (v : Int32) (hd : decode cc pc = .ok (.iconst n, 1)) (hv : Int32.ofInt n = v) (hq : pc + 1 = q) (k : S l G b0 y cc nL ret rm lay' Post mc ms cells slots lay q ls (.int v :: st) M) : S l G b0 y cc nL ret rm lay' Post mc ms cells slots lay pc ls st M := by
  subst hq; intro p e s m args below meth c F hb hz H locs la hw hs hl; exact lv_iconst F.1 F.2.1 hd hv (k p e s m args below meth c F hb hz H locs la hw hs hl)
theorem S_bipush {n : Int} (v : Int32) (hd : decode cc pc = .ok (.bipush n, 2)) (hv : (Int8.ofInt n).toInt32 = v) (hq : pc + 2 = q) (k : S l G b0 y cc nL ret rm lay' Post mc ms cells slots lay q ls (.int v :: st) M) : S l G b0 y cc nL ret rm lay' Post mc ms cells slots lay pc ls st M := by
  subst hq; intro p e s m args below meth c F hb hz H locs la hw hs hl; exact lv_bipush F.1 F.2.1 hd hv (k p e s m args below meth c F hb hz H locs la hw hs hl)
theorem S_sipush {n : Int} (v : Int32) (hd : decode cc pc = .ok (.sipush n, 3)) (hv : (Int16.ofInt n).toInt32 = v) (hq : pc + 3 = q) (k : S l G b0 y cc nL ret rm lay' Post mc ms cells slots lay q ls (.int v :: st) M) : S l G b0 y cc nL ret rm lay' Post mc ms cells slots lay pc ls st M := by
  subst hq; intro p e s m args below meth c F hb hz H locs la hw hs hl; exact lv_sipush F.1 F.2.1 hd hv (k p e s m args below meth c F hb hz H locs la hw hs hl)
theorem S_ldcw {idx : Nat} (v : Int32) (hd : decode cc pc = .ok (.ldc_w idx, 3)) (hc : Cond.constant y.cls idx v ∈ TG) (hq : pc + 3 = q) (k : S l G b0 y cc nL ret rm lay' Post mc ms cells slots lay q ls (.int v :: st) M) : S l G b0 y cc nL ret rm lay' Post mc ms cells slots lay pc ls st M := by
  subst hq; intro p e s m args below meth c F hb hz H locs la hw hs hl; exact lv_ldcw F.1 F.2.1 F.2.2.2.2.1 (F.2.2.2.2.2.1 _ hc) hd (k p e s m args below meth c F hb hz H locs la hw hs hl)
theorem S_ldc {idx : Nat} (v : Int32) (hd : decode cc pc = .ok (.ldc idx, 2)) (hc : Cond.constant y.cls idx v ∈ TG) (hq : pc + 2 = q) (k : S l G b0 y cc nL ret rm lay' Post mc ms cells slots lay q ls (.int v :: st) M) : S l G b0 y cc nL ret rm lay' Post mc ms cells slots lay pc ls st M := by
  subst hq; intro p e s m args below meth c F hb hz H locs la hw hs hl; exact lv_ldc F.1 F.2.1 F.2.2.2.2.1 (F.2.2.2.2.2.1 _ hc) hd (k p e s m args below meth c F hb hz H locs la hw hs hl)
theorem S_dup {v : Value} (hd : decode cc pc = .ok (.dup, 1)) (hv : v.category = 1) (hq : pc + 1 = q) (k : S l G b0 y cc nL ret rm lay' Post mc ms cells slots lay q ls (v :: v :: st) M) : S l G b0 y cc nL ret rm lay' Post mc ms cells slots lay pc ls (v :: st) M := by
  subst hq; intro p e s m args below meth c F hb hz H locs la hw hs hl; exact lv_dup F.1 F.2.1 hd hv (k p e s m args below meth c F hb hz H locs la hw hs hl)
theorem S_pop {v : Value} (hd : decode cc pc = .ok (.pop, 1)) (hv : v.category = 1) (hq : pc + 1 = q) (k : S l G b0 y cc nL ret rm lay' Post mc ms cells slots lay q ls st M) : S l G b0 y cc nL ret rm lay' Post mc ms cells slots lay pc ls (v :: st) M := by
  subst hq; intro p e s m args below meth c F hb hz H locs la hw hs hl; exact lv_pop F.1 F.2.1 hd hv (k p e s m args below meth c F hb hz H locs la hw hs hl)
theorem S_dup2 {v u : Value} (hd : decode cc pc = .ok (.dup2, 1)) (hv : v.category = 1) (hu : u.category = 1) (hq : pc + 1 = q) (k : S l G b0 y cc nL ret rm lay' Post mc ms cells slots lay q ls (v :: u :: v :: u :: st) M) : S l G b0 y cc nL ret rm lay' Post mc ms cells slots lay pc ls (v :: u :: st) M := by
  subst hq; intro p e s m args below meth c F hb hz H locs la hw hs hl; exact lv_dup2_11 F.1 F.2.1 hd hv hu (k p e s m args below meth c F hb hz H locs la hw hs hl)
theorem S_goto {off : Int} {t : Nat} (hd : decode cc pc = .ok (.goto off, 3)) (ht : (pc : Int) + off = (t : Int)) (k : S l G b0 y cc nL ret rm lay' Post mc ms cells slots lay t ls st M) : S l G b0 y cc nL ret rm lay' Post mc ms cells slots lay pc ls st M := by
  intro p e s m args below meth c F hb hz H locs la hw hs hl; exact lv_goto F.1 F.2.1 hd ht (k p e s m args below meth c F hb hz H locs la hw hs hl)
theorem S_icmp_eq {x z : Int32} {off : Int} {t : Nat} (hd : decode cc pc = .ok (.if_icmp .eq off, 3)) (ht : (pc : Int) + off = (t : Int)) (hq : pc + 3 = q) (kt : x = z → S l G b0 y cc nL ret rm lay' Post mc ms cells slots lay t ls st M) (kf : ¬ (x = z) → S l G b0 y cc nL ret rm lay' Post mc ms cells slots lay q ls st M) : S l G b0 y cc nL ret rm lay' Post mc ms cells slots lay pc ls (.int z :: .int x :: st) M := by
  subst hq; intro p e s m args below meth c F hb hz H locs la hw hs hl; exact lv_icmp_eq F.1 F.2.1 hd ht (fun h => kt h p e s m args below meth c F hb hz H locs la hw hs hl) (fun h => kf h p e s m args below meth c F hb hz H locs la hw hs hl)
theorem S_if_eq {x : Int32} {off : Int} {t : Nat} (hd : decode cc pc = .ok (.ifCond .eq off, 3)) (ht : (pc : Int) + off = (t : Int)) (hq : pc + 3 = q) (kt : x = 0 → S l G b0 y cc nL ret rm lay' Post mc ms cells slots lay t ls st M) (kf : ¬ (x = 0) → S l G b0 y cc nL ret rm lay' Post mc ms cells slots lay q ls st M) : S l G b0 y cc nL ret rm lay' Post mc ms cells slots lay pc ls (.int x :: st) M := by
  subst hq; intro p e s m args below meth c F hb hz H locs la hw hs hl; exact lv_if_eq F.1 F.2.1 hd ht (fun h => kt h p e s m args below meth c F hb hz H locs la hw hs hl) (fun h => kf h p e s m args below meth c F hb hz H locs la hw hs hl)
theorem S_icmp_ne {x z : Int32} {off : Int} {t : Nat} (hd : decode cc pc = .ok (.if_icmp .ne off, 3)) (ht : (pc : Int) + off = (t : Int)) (hq : pc + 3 = q) (kt : ¬ x = z → S l G b0 y cc nL ret rm lay' Post mc ms cells slots lay t ls st M) (kf : x = z → S l G b0 y cc nL ret rm lay' Post mc ms cells slots lay q ls st M) : S l G b0 y cc nL ret rm lay' Post mc ms cells slots lay pc ls (.int z :: .int x :: st) M := by
  subst hq; intro p e s m args below meth c F hb hz H locs la hw hs hl; exact lv_icmp_ne F.1 F.2.1 hd ht (fun h => kt h p e s m args below meth c F hb hz H locs la hw hs hl) (fun h => kf h p e s m args below meth c F hb hz H locs la hw hs hl)
theorem S_if_ne {x : Int32} {off : Int} {t : Nat} (hd : decode cc pc = .ok (.ifCond .ne off, 3)) (ht : (pc : Int) + off = (t : Int)) (hq : pc + 3 = q) (kt : ¬ x = 0 → S l G b0 y cc nL ret rm lay' Post mc ms cells slots lay t ls st M) (kf : x = 0 → S l G b0 y cc nL ret rm lay' Post mc ms cells slots lay q ls st M) : S l G b0 y cc nL ret rm lay' Post mc ms cells slots lay pc ls (.int x :: st) M := by
  subst hq; intro p e s m args below meth c F hb hz H locs la hw hs hl; exact lv_if_ne F.1 F.2.1 hd ht (fun h => kt h p e s m args below meth c F hb hz H locs la hw hs hl) (fun h => kf h p e s m args below meth c F hb hz H locs la hw hs hl)
theorem S_icmp_lt {x z : Int32} {off : Int} {t : Nat} (hd : decode cc pc = .ok (.if_icmp .lt off, 3)) (ht : (pc : Int) + off = (t : Int)) (hq : pc + 3 = q) (kt : x < z → S l G b0 y cc nL ret rm lay' Post mc ms cells slots lay t ls st M) (kf : ¬ (x < z) → S l G b0 y cc nL ret rm lay' Post mc ms cells slots lay q ls st M) : S l G b0 y cc nL ret rm lay' Post mc ms cells slots lay pc ls (.int z :: .int x :: st) M := by
  subst hq; intro p e s m args below meth c F hb hz H locs la hw hs hl; exact lv_icmp_lt F.1 F.2.1 hd ht (fun h => kt h p e s m args below meth c F hb hz H locs la hw hs hl) (fun h => kf h p e s m args below meth c F hb hz H locs la hw hs hl)
theorem S_if_lt {x : Int32} {off : Int} {t : Nat} (hd : decode cc pc = .ok (.ifCond .lt off, 3)) (ht : (pc : Int) + off = (t : Int)) (hq : pc + 3 = q) (kt : x < 0 → S l G b0 y cc nL ret rm lay' Post mc ms cells slots lay t ls st M) (kf : ¬ (x < 0) → S l G b0 y cc nL ret rm lay' Post mc ms cells slots lay q ls st M) : S l G b0 y cc nL ret rm lay' Post mc ms cells slots lay pc ls (.int x :: st) M := by
  subst hq; intro p e s m args below meth c F hb hz H locs la hw hs hl; exact lv_if_lt F.1 F.2.1 hd ht (fun h => kt h p e s m args below meth c F hb hz H locs la hw hs hl) (fun h => kf h p e s m args below meth c F hb hz H locs la hw hs hl)
theorem S_icmp_ge {x z : Int32} {off : Int} {t : Nat} (hd : decode cc pc = .ok (.if_icmp .ge off, 3)) (ht : (pc : Int) + off = (t : Int)) (hq : pc + 3 = q) (kt : z ≤ x → S l G b0 y cc nL ret rm lay' Post mc ms cells slots lay t ls st M) (kf : ¬ (z ≤ x) → S l G b0 y cc nL ret rm lay' Post mc ms cells slots lay q ls st M) : S l G b0 y cc nL ret rm lay' Post mc ms cells slots lay pc ls (.int z :: .int x :: st) M := by
  subst hq; intro p e s m args below meth c F hb hz H locs la hw hs hl; exact lv_icmp_ge F.1 F.2.1 hd ht (fun h => kt h p e s m args below meth c F hb hz H locs la hw hs hl) (fun h => kf h p e s m args below meth c F hb hz H locs la hw hs hl)
theorem S_if_ge {x : Int32} {off : Int} {t : Nat} (hd : decode cc pc = .ok (.ifCond .ge off, 3)) (ht : (pc : Int) + off = (t : Int)) (hq : pc + 3 = q) (kt : 0 ≤ x → S l G b0 y cc nL ret rm lay' Post mc ms cells slots lay t ls st M) (kf : ¬ (0 ≤ x) → S l G b0 y cc nL ret rm lay' Post mc ms cells slots lay q ls st M) : S l G b0 y cc nL ret rm lay' Post mc ms cells slots lay pc ls (.int x :: st) M := by
  subst hq; intro p e s m args below meth c F hb hz H locs la hw hs hl; exact lv_if_ge F.1 F.2.1 hd ht (fun h => kt h p e s m args below meth c F hb hz H locs la hw hs hl) (fun h => kf h p e s m args below meth c F hb hz H locs la hw hs hl)
theorem S_icmp_gt {x z : Int32} {off : Int} {t : Nat} (hd : decode cc pc = .ok (.if_icmp .gt off, 3)) (ht : (pc : Int) + off = (t : Int)) (hq : pc + 3 = q) (kt : z < x → S l G b0 y cc nL ret rm lay' Post mc ms cells slots lay t ls st M) (kf : ¬ (z < x) → S l G b0 y cc nL ret rm lay' Post mc ms cells slots lay q ls st M) : S l G b0 y cc nL ret rm lay' Post mc ms cells slots lay pc ls (.int z :: .int x :: st) M := by
  subst hq; intro p e s m args below meth c F hb hz H locs la hw hs hl; exact lv_icmp_gt F.1 F.2.1 hd ht (fun h => kt h p e s m args below meth c F hb hz H locs la hw hs hl) (fun h => kf h p e s m args below meth c F hb hz H locs la hw hs hl)
theorem S_if_gt {x : Int32} {off : Int} {t : Nat} (hd : decode cc pc = .ok (.ifCond .gt off, 3)) (ht : (pc : Int) + off = (t : Int)) (hq : pc + 3 = q) (kt : 0 < x → S l G b0 y cc nL ret rm lay' Post mc ms cells slots lay t ls st M) (kf : ¬ (0 < x) → S l G b0 y cc nL ret rm lay' Post mc ms cells slots lay q ls st M) : S l G b0 y cc nL ret rm lay' Post mc ms cells slots lay pc ls (.int x :: st) M := by
  subst hq; intro p e s m args below meth c F hb hz H locs la hw hs hl; exact lv_if_gt F.1 F.2.1 hd ht (fun h => kt h p e s m args below meth c F hb hz H locs la hw hs hl) (fun h => kf h p e s m args below meth c F hb hz H locs la hw hs hl)
theorem S_icmp_le {x z : Int32} {off : Int} {t : Nat} (hd : decode cc pc = .ok (.if_icmp .le off, 3)) (ht : (pc : Int) + off = (t : Int)) (hq : pc + 3 = q) (kt : x ≤ z → S l G b0 y cc nL ret rm lay' Post mc ms cells slots lay t ls st M) (kf : ¬ (x ≤ z) → S l G b0 y cc nL ret rm lay' Post mc ms cells slots lay q ls st M) : S l G b0 y cc nL ret rm lay' Post mc ms cells slots lay pc ls (.int z :: .int x :: st) M := by
  subst hq; intro p e s m args below meth c F hb hz H locs la hw hs hl; exact lv_icmp_le F.1 F.2.1 hd ht (fun h => kt h p e s m args below meth c F hb hz H locs la hw hs hl) (fun h => kf h p e s m args below meth c F hb hz H locs la hw hs hl)
theorem S_if_le {x : Int32} {off : Int} {t : Nat} (hd : decode cc pc = .ok (.ifCond .le off, 3)) (ht : (pc : Int) + off = (t : Int)) (hq : pc + 3 = q) (kt : x ≤ 0 → S l G b0 y cc nL ret rm lay' Post mc ms cells slots lay t ls st M) (kf : ¬ (x ≤ 0) → S l G b0 y cc nL ret rm lay' Post mc ms cells slots lay q ls st M) : S l G b0 y cc nL ret rm lay' Post mc ms cells slots lay pc ls (.int x :: st) M := by
  subst hq; intro p e s m args below meth c F hb hz H locs la hw hs hl; exact lv_if_le F.1 F.2.1 hd ht (fun h => kt h p e s m args below meth c F hb hz H locs la hw hs hl) (fun h => kf h p e s m args below meth c F hb hz H locs la hw hs hl)
theorem S_iload_n {j : Fin 4} {i : Nat} {x : Int32} (hd : decode cc pc = .ok (.iload_n j, 1)) (hi : (j : Nat) = i) (hv : ls[i]? = some (some (.int x))) (hq : pc + 1 = q) (k : S l G b0 y cc nL ret rm lay' Post mc ms cells slots lay q ls (.int x :: st) M) : S l G b0 y cc nL ret rm lay' Post mc ms cells slots lay pc ls st M := by
  subst hq; intro p e s m args below meth c F hb hz H locs la hw hs hl; exact lv_iload_n F.1 F.2.1 hd hi (hl.at hv) (k p e s m args below meth c F hb hz H locs la hw hs hl)
theorem S_iload {i : Nat} {x : Int32} (hd : decode cc pc = .ok (.iload i, 2)) (hv : ls[i]? = some (some (.int x))) (hq : pc + 2 = q) (k : S l G b0 y cc nL ret rm lay' Post mc ms cells slots lay q ls (.int x :: st) M) : S l G b0 y cc nL ret rm lay' Post mc ms cells slots lay pc ls st M := by
  subst hq; intro p e s m args below meth c F hb hz H locs la hw hs hl; exact lv_iload F.1 F.2.1 hd (hl.at hv) (k p e s m args below meth c F hb hz H locs la hw hs hl)
theorem S_aload_n {j : Fin 4} {i : Nat} {x : Nat} (hd : decode cc pc = .ok (.aload_n j, 1)) (hi : (j : Nat) = i) (hv : ls[i]? = some (some (.ref x))) (hq : pc + 1 = q) (k : S l G b0 y cc nL ret rm lay' Post mc ms cells slots lay q ls (.ref x :: st) M) : S l G b0 y cc nL ret rm lay' Post mc ms cells slots lay pc ls st M := by
  subst hq; intro p e s m args below meth c F hb hz H locs la hw hs hl; exact lv_aload_n F.1 F.2.1 hd hi (hl.at hv) (k p e s m args below meth c F hb hz H locs la hw hs hl)
theorem S_aload {i : Nat} {x : Nat} (hd : decode cc pc = .ok (.aload i, 2)) (hv : ls[i]? = some (some (.ref x))) (hq : pc + 2 = q) (k : S l G b0 y cc nL ret rm lay' Post mc ms cells slots lay q ls (.ref x :: st) M) : S l G b0 y cc nL ret rm lay' Post mc ms cells slots lay pc ls st M := by
  subst hq; intro p e s m args below meth c F hb hz H locs la hw hs hl; exact lv_aload F.1 F.2.1 hd (hl.at hv) (k p e s m args below meth c F hb hz H locs la hw hs hl)
theorem S_istore_n {j : Fin 4} {i : Nat} {x : Int32} (hd : decode cc pc = .ok (.istore_n j, 1)) (hi : (j : Nat) = i) (hv : i < ls.length) (hq : pc + 1 = q) (k : S l G b0 y cc nL ret rm lay' Post mc ms cells slots lay q (ls.set i (some (.int x))) st M) : S l G b0 y cc nL ret rm lay' Post mc ms cells slots lay pc ls (.int x :: st) M := by
  subst hq; intro p e s m args below meth c F hb hz H locs la hw hs hl
  exact lv_istore_n F.1 F.2.1 hd hi hl.lv (hl.lt hv) rfl (fun la' h' => k p e s m args below meth c F hb hz H locs la' hw hs (hl.put hv rfl h'))
theorem S_istore {i : Nat} {x : Int32} (hd : decode cc pc = .ok (.istore i, 2)) (hv : i < ls.length) (hq : pc + 2 = q) (k : S l G b0 y cc nL ret rm lay' Post mc ms cells slots lay q (ls.set i (some (.int x))) st M) : S l G b0 y cc nL ret rm lay' Post mc ms cells slots lay pc ls (.int x :: st) M := by
  subst hq; intro p e s m args below meth c F hb hz H locs la hw hs hl
  exact lv_istore F.1 F.2.1 hd hl.lv (hl.lt hv) rfl (fun la' h' => k p e s m args below meth c F hb hz H locs la' hw hs (hl.put hv rfl h'))
theorem S_astore_n {j : Fin 4} {i : Nat} {x : Nat} (hd : decode cc pc = .ok (.astore_n j, 1)) (hi : (j : Nat) = i) (hv : i < ls.length) (hq : pc + 1 = q) (k : S l G b0 y cc nL ret rm lay' Post mc ms cells slots lay q (ls.set i (some (.ref x))) st M) : S l G b0 y cc nL ret rm lay' Post mc ms cells slots lay pc ls (.ref x :: st) M := by
  subst hq; intro p e s m args below meth c F hb hz H locs la hw hs hl
  exact lv_astore_n F.1 F.2.1 hd hi hl.lv (hl.lt hv) rfl (fun la' h' => k p e s m args below meth c F hb hz H locs la' hw hs (hl.put hv rfl h'))
theorem S_astore {i : Nat} {x : Nat} (hd : decode cc pc = .ok (.astore i, 2)) (hv : i < ls.length) (hq : pc + 2 = q) (k : S l G b0 y cc nL ret rm lay' Post mc ms cells slots lay q (ls.set i (some (.ref x))) st M) : S l G b0 y cc nL ret rm lay' Post mc ms cells slots lay pc ls (.ref x :: st) M := by
  subst hq; intro p e s m args below meth c F hb hz H locs la hw hs hl
  exact lv_astore F.1 F.2.1 hd hl.lv (hl.lt hv) rfl (fun la' h' => k p e s m args below meth c F hb hz H locs la' hw hs (hl.put hv rfl h'))
theorem LH.pick {la : Array Slot} {nL i : Nat} {ls : List (Option Value)} {v : Value} (h : LH la nL ls) (hi : ls[i]? = some (some v)) : ∃ k : Nat, ((List.range nL).filterMap (fun i => (ls.getD i none).map (fun v => (i, v))))[k]? = some (i, v) := by
  apply List.getElem?_of_mem
  refine List.mem_filterMap.mpr ⟨i, List.mem_range.mpr (h.lt (List.getElem?_eq_some_iff.mp hi).1), ?_⟩
  rw [List.getD_eq_getElem?_getD, hi]; rfl
theorem S_iinc {i : Nat} {n : Int} {x : Int32} (v : Int32) (hd : decode cc pc = .ok (.iinc i n, 3)) (hx : ls[i]? = some (some (.int x))) (hv : x + Int32.ofInt n = v) (hq : pc + 3 = q) (k : S l G b0 y cc nL ret rm lay' Post mc ms cells slots lay q (ls.set i (some (.int v))) st M) : S l G b0 y cc nL ret rm lay' Post mc ms cells slots lay pc ls st M := by
  subst hq; intro p e s m args below meth c F hb hz H locs la hw hs hl
  obtain ⟨j, hj⟩ := hl.pick hx
  have hi := (List.getElem?_eq_some_iff.mp hx).1
  exact lv_iinc F.1 F.2.1 hd hl.lv hj hv (hl.lt hi) rfl (fun la' h' => k p e s m args below meth c F hb hz H locs la' hw hs (hl.put hi rfl h'))
theorem S_iload_0 {x : Int32} {t : List (Option Value)} (hd : decode cc pc = .ok (.iload_n 0, 1)) (hq : pc + 1 = q) (k : S l G b0 y cc nL ret rm lay' Post mc ms cells slots lay q (some (.int x) :: t) (.int x :: st) M) : S l G b0 y cc nL ret rm lay' Post mc ms cells slots lay pc (some (.int x) :: t) st M := S_iload_n hd rfl rfl hq k
theorem S_aload_0 {x : Nat} {t : List (Option Value)} (hd : decode cc pc = .ok (.aload_n 0, 1)) (hq : pc + 1 = q) (k : S l G b0 y cc nL ret rm lay' Post mc ms cells slots lay q (some (.ref x) :: t) (.ref x :: st) M) : S l G b0 y cc nL ret rm lay' Post mc ms cells slots lay pc (some (.ref x) :: t) st M := S_aload_n hd rfl rfl hq k
theorem S_istore_0 {x : Int32} {a : Option Value} {t : List (Option Value)} (hd : decode cc pc = .ok (.istore_n 0, 1)) (hq : pc + 1 = q) (k : S l G b0 y cc nL ret rm lay' Post mc ms cells slots lay q (some (.int x) :: t) st M) : S l G b0 y cc nL ret rm lay' Post mc ms cells slots lay pc (a :: t) (.int x :: st) M := S_istore_n hd rfl (by simp only [List.length_cons]; omega) hq k
theorem S_astore_0 {x : Nat} {a : Option Value} {t : List (Option Value)} (hd : decode cc pc = .ok (.astore_n 0, 1)) (hq : pc + 1 = q) (k : S l G b0 y cc nL ret rm lay' Post mc ms cells slots lay q (some (.ref x) :: t) st M) : S l G b0 y cc nL ret rm lay' Post mc ms cells slots lay pc (a :: t) (.ref x :: st) M := S_astore_n hd rfl (by simp only [List.length_cons]; omega) hq k
theorem S_iinc_0 {n : Int} {x : Int32} {t : List (Option Value)} (v : Int32) (hd : decode cc pc = .ok (.iinc 0 n, 3)) (hv : x + Int32.ofInt n = v) (hq : pc + 3 = q) (k : S l G b0 y cc nL ret rm lay' Post mc ms cells slots lay q (some (.int v) :: t) st M) : S l G b0 y cc nL ret rm lay' Post mc ms cells slots lay pc (some (.int x) :: t) st M := S_iinc v hd rfl hv hq k
theorem S_iload_1 {x : Int32} {a0 : Option Value} {t : List (Option Value)} (hd : decode cc pc = .ok (.iload_n 1, 1)) (hq : pc + 1 = q) (k : S l G b0 y cc nL ret rm lay' Post mc ms cells slots lay q (a0 :: some (.int x) :: t) (.int x :: st) M) : S l G b0 y cc nL ret rm lay' Post mc ms cells slots lay pc (a0 :: some (.int x) :: t) st M := S_iload_n hd rfl rfl hq k
theorem S_aload_1 {x : Nat} {a0 : Option Value} {t : List (Option Value)} (hd : decode cc pc = .ok (.aload_n 1, 1)) (hq : pc + 1 = q) (k : S l G b0 y cc nL ret rm lay' Post mc ms cells slots lay q (a0 :: some (.ref x) :: t) (.ref x :: st) M) : S l G b0 y cc nL ret rm lay' Post mc ms cells slots lay pc (a0 :: some (.ref x) :: t) st M := S_aload_n hd rfl rfl hq k
theorem S_istore_1 {x : Int32} {a0 : Option Value} {a : Option Value} {t : List (Option Value)} (hd : decode cc pc = .ok (.istore_n 1, 1)) (hq : pc + 1 = q) (k : S l G b0 y cc nL ret rm lay' Post mc ms cells slots lay q (a0 :: some (.int x) :: t) st M) : S l G b0 y cc nL ret rm lay' Post mc ms cells slots lay pc (a0 :: a :: t) (.int x :: st) M := S_istore_n hd rfl (by simp only [List.length_cons]; omega) hq k
theorem S_astore_1 {x : Nat} {a0 : Option Value} {a : Option Value} {t : List (Option Value)} (hd : decode cc pc = .ok (.astore_n 1, 1)) (hq : pc + 1 = q) (k : S l G b0 y cc nL ret rm lay' Post mc ms cells slots lay q (a0 :: some (.ref x) :: t) st M) : S l G b0 y cc nL ret rm lay' Post mc ms cells slots lay pc (a0 :: a :: t) (.ref x :: st) M := S_astore_n hd rfl (by simp only [List.length_cons]; omega) hq k
theorem S_iinc_1 {n : Int} {x : Int32} {a0 : Option Value} {t : List (Option Value)} (v : Int32) (hd : decode cc pc = .ok (.iinc 1 n, 3)) (hv : x + Int32.ofInt n = v) (hq : pc + 3 = q) (k : S l G b0 y cc nL ret rm lay' Post mc ms cells slots lay q (a0 :: some (.int v) :: t) st M) : S l G b0 y cc nL ret rm lay' Post mc ms cells slots lay pc (a0 :: some (.int x) :: t) st M := S_iinc v hd rfl hv hq k
theorem S_iload_2 {x : Int32} {a0 a1 : Option Value} {t : List (Option Value)} (hd : decode cc pc = .ok (.iload_n 2, 1)) (hq : pc + 1 = q) (k : S l G b0 y cc nL ret rm lay' Post mc ms cells slots lay q (a0 :: a1 :: some (.int x) :: t) (.int x :: st) M) : S l G b0 y cc nL ret rm lay' Post mc ms cells slots lay pc (a0 :: a1 :: some (.int x) :: t) st M := S_iload_n hd rfl rfl hq k
theorem S_aload_2 {x : Nat} {a0 a1 : Option Value} {t : List (Option Value)} (hd : decode cc pc = .ok (.aload_n 2, 1)) (hq : pc + 1 = q) (k : S l G b0 y cc nL ret rm lay' Post mc ms cells slots lay q (a0 :: a1 :: some (.ref x) :: t) (.ref x :: st) M) : S l G b0 y cc nL ret rm lay' Post mc ms cells slots lay pc (a0 :: a1 :: some (.ref x) :: t) st M := S_aload_n hd rfl rfl hq k
theorem S_istore_2 {x : Int32} {a0 a1 : Option Value} {a : Option Value} {t : List (Option Value)} (hd : decode cc pc = .ok (.istore_n 2, 1)) (hq : pc + 1 = q) (k : S l G b0 y cc nL ret rm lay' Post mc ms cells slots lay q (a0 :: a1 :: some (.int x) :: t) st M) : S l G b0 y cc nL ret rm lay' Post mc ms cells slots lay pc (a0 :: a1 :: a :: t) (.int x :: st) M := S_istore_n hd rfl (by simp only [List.length_cons]; omega) hq k
theorem S_astore_2 {x : Nat} {a0 a1 : Option Value} {a : Option Value} {t : List (Option Value)} (hd : decode cc pc = .ok (.astore_n 2, 1)) (hq : pc + 1 = q) (k : S l G b0 y cc nL ret rm lay' Post mc ms cells slots lay q (a0 :: a1 :: some (.ref x) :: t) st M) : S l G b0 y cc nL ret rm lay' Post mc ms cells slots lay pc (a0 :: a1 :: a :: t) (.ref x :: st) M := S_astore_n hd rfl (by simp only [List.length_cons]; omega) hq k
theorem S_iinc_2 {n : Int} {x : Int32} {a0 a1 : Option Value} {t : List (Option Value)} (v : Int32) (hd : decode cc pc = .ok (.iinc 2 n, 3)) (hv : x + Int32.ofInt n = v) (hq : pc + 3 = q) (k : S l G b0 y cc nL ret rm lay' Post mc ms cells slots lay q (a0 :: a1 :: some (.int v) :: t) st M) : S l G b0 y cc nL ret rm lay' Post mc ms cells slots lay pc (a0 :: a1 :: some (.int x) :: t) st M := S_iinc v hd rfl hv hq k
theorem S_iload_3 {x : Int32} {a0 a1 a2 : Option Value} {t : List (Option Value)} (hd : decode cc pc = .ok (.iload_n 3, 1)) (hq : pc + 1 = q) (k : S l G b0 y cc nL ret rm lay' Post mc ms cells slots lay q (a0 :: a1 :: a2 :: some (.int x) :: t) (.int x :: st) M) : S l G b0 y cc nL ret rm lay' Post mc ms cells slots lay pc (a0 :: a1 :: a2 :: some (.int x) :: t) st M := S_iload_n hd rfl rfl hq k
theorem S_aload_3 {x : Nat} {a0 a1 a2 : Option Value} {t : List (Option Value)} (hd : decode cc pc = .ok (.aload_n 3, 1)) (hq : pc + 1 = q) (k : S l G b0 y cc nL ret rm lay' Post mc ms cells slots lay q (a0 :: a1 :: a2 :: some (.ref x) :: t) (.ref x :: st) M) : S l G b0 y cc nL ret rm lay' Post mc ms cells slots lay pc (a0 :: a1 :: a2 :: some (.ref x) :: t) st M := S_aload_n hd rfl rfl hq k
theorem S_istore_3 {x : Int32} {a0 a1 a2 : Option Value} {a : Option Value} {t : List (Option Value)} (hd : decode cc pc = .ok (.istore_n 3, 1)) (hq : pc + 1 = q) (k : S l G b0 y cc nL ret rm lay' Post mc ms cells slots lay q (a0 :: a1 :: a2 :: some (.int x) :: t) st M) : S l G b0 y cc nL ret rm lay' Post mc ms cells slots lay pc (a0 :: a1 :: a2 :: a :: t) (.int x :: st) M := S_istore_n hd rfl (by simp only [List.length_cons]; omega) hq k
theorem S_astore_3 {x : Nat} {a0 a1 a2 : Option Value} {a : Option Value} {t : List (Option Value)} (hd : decode cc pc = .ok (.astore_n 3, 1)) (hq : pc + 1 = q) (k : S l G b0 y cc nL ret rm lay' Post mc ms cells slots lay q (a0 :: a1 :: a2 :: some (.ref x) :: t) st M) : S l G b0 y cc nL ret rm lay' Post mc ms cells slots lay pc (a0 :: a1 :: a2 :: a :: t) (.ref x :: st) M := S_astore_n hd rfl (by simp only [List.length_cons]; omega) hq k
theorem S_iinc_3 {n : Int} {x : Int32} {a0 a1 a2 : Option Value} {t : List (Option Value)} (v : Int32) (hd : decode cc pc = .ok (.iinc 3 n, 3)) (hv : x + Int32.ofInt n = v) (hq : pc + 3 = q) (k : S l G b0 y cc nL ret rm lay' Post mc ms cells slots lay q (a0 :: a1 :: a2 :: some (.int v) :: t) st M) : S l G b0 y cc nL ret rm lay' Post mc ms cells slots lay pc (a0 :: a1 :: a2 :: some (.int x) :: t) st M := S_iinc v hd rfl hv hq k
theorem S_iload_4 {x : Int32} {a0 a1 a2 a3 : Option Value} {t : List (Option Value)} (hd : decode cc pc = .ok (.iload 4, 2)) (hq : pc + 2 = q) (k : S l G b0 y cc nL ret rm lay' Post mc ms cells slots lay q (a0 :: a1 :: a2 :: a3 :: some (.int x) :: t) (.int x :: st) M) : S l G b0 y cc nL ret rm lay' Post mc ms cells slots lay pc (a0 :: a1 :: a2 :: a3 :: some (.int x) :: t) st M := S_iload hd rfl hq k
theorem S_aload_4 {x : Nat} {a0 a1 a2 a3 : Option Value} {t : List (Option Value)} (hd : decode cc pc = .ok (.aload 4, 2)) (hq : pc + 2 = q) (k : S l G b0 y cc nL ret rm lay' Post mc ms cells slots lay q (a0 :: a1 :: a2 :: a3 :: some (.ref x) :: t) (.ref x :: st) M) : S l G b0 y cc nL ret rm lay' Post mc ms cells slots lay pc (a0 :: a1 :: a2 :: a3 :: some (.ref x) :: t) st M := S_aload hd rfl hq k
theorem S_istore_4 {x : Int32} {a0 a1 a2 a3 : Option Value} {a : Option Value} {t : List (Option Value)} (hd : decode cc pc = .ok (.istore 4, 2)) (hq : pc + 2 = q) (k : S l G b0 y cc nL ret rm lay' Post mc ms cells slots lay q (a0 :: a1 :: a2 :: a3 :: some (.int x) :: t) st M) : S l G b0 y cc nL ret rm lay' Post mc ms cells slots lay pc (a0 :: a1 :: a2 :: a3 :: a :: t) (.int x :: st) M := S_istore hd (by simp only [List.length_cons]; omega) hq k
theorem S_astore_4 {x : Nat} {a0 a1 a2 a3 : Option Value} {a : Option Value} {t : List (Option Value)} (hd : decode cc pc = .ok (.astore 4, 2)) (hq : pc + 2 = q) (k : S l G b0 y cc nL ret rm lay' Post mc ms cells slots lay q (a0 :: a1 :: a2 :: a3 :: some (.ref x) :: t) st M) : S l G b0 y cc nL ret rm lay' Post mc ms cells slots lay pc (a0 :: a1 :: a2 :: a3 :: a :: t) (.ref x :: st) M := S_astore hd (by simp only [List.length_cons]; omega) hq k
theorem S_iinc_4 {n : Int} {x : Int32} {a0 a1 a2 a3 : Option Value} {t : List (Option Value)} (v : Int32) (hd : decode cc pc = .ok (.iinc 4 n, 3)) (hv : x + Int32.ofInt n = v) (hq : pc + 3 = q) (k : S l G b0 y cc nL ret rm lay' Post mc ms cells slots lay q (a0 :: a1 :: a2 :: a3 :: some (.int v) :: t) st M) : S l G b0 y cc nL ret rm lay' Post mc ms cells slots lay pc (a0 :: a1 :: a2 :: a3 :: some (.int x) :: t) st M := S_iinc v hd rfl hv hq k
theorem S_iload_5 {x : Int32} {a0 a1 a2 a3 a4 : Option Value} {t : List (Option Value)} (hd : decode cc pc = .ok (.iload 5, 2)) (hq : pc + 2 = q) (k : S l G b0 y cc nL ret rm lay' Post mc ms cells slots lay q (a0 :: a1 :: a2 :: a3 :: a4 :: some (.int x) :: t) (.int x :: st) M) : S l G b0 y cc nL ret rm lay' Post mc ms cells slots lay pc (a0 :: a1 :: a2 :: a3 :: a4 :: some (.int x) :: t) st M := S_iload hd rfl hq k
theorem S_aload_5 {x : Nat} {a0 a1 a2 a3 a4 : Option Value} {t : List (Option Value)} (hd : decode cc pc = .ok (.aload 5, 2)) (hq : pc + 2 = q) (k : S l G b0 y cc nL ret rm lay' Post mc ms cells slots lay q (a0 :: a1 :: a2 :: a3 :: a4 :: some (.ref x) :: t) (.ref x :: st) M) : S l G b0 y cc nL ret rm lay' Post mc ms cells slots lay pc (a0 :: a1 :: a2 :: a3 :: a4 :: some (.ref x) :: t) st M := S_aload hd rfl hq k
theorem S_istore_5 {x : Int32} {a0 a1 a2 a3 a4 : Option Value} {a : Option Value} {t : List (Option Value)} (hd : decode cc pc = .ok (.istore 5, 2)) (hq : pc + 2 = q) (k : S l G b0 y cc nL ret rm lay' Post mc ms cells slots lay q (a0 :: a1 :: a2 :: a3 :: a4 :: some (.int x) :: t) st M) : S l G b0 y cc nL ret rm lay' Post mc ms cells slots lay pc (a0 :: a1 :: a2 :: a3 :: a4 :: a :: t) (.int x :: st) M := S_istore hd (by simp only [List.length_cons]; omega) hq k
theorem S_astore_5 {x : Nat} {a0 a1 a2 a3 a4 : Option Value} {a : Option Value} {t : List (Option Value)} (hd : decode cc pc = .ok (.astore 5, 2)) (hq : pc + 2 = q) (k : S l G b0 y cc nL ret rm lay' Post mc ms cells slots lay q (a0 :: a1 :: a2 :: a3 :: a4 :: some (.ref x) :: t) st M) : S l G b0 y cc nL ret rm lay' Post mc ms cells slots lay pc (a0 :: a1 :: a2 :: a3 :: a4 :: a :: t) (.ref x :: st) M := S_astore hd (by simp only [List.length_cons]; omega) hq k
theorem S_iinc_5 {n : Int} {x : Int32} {a0 a1 a2 a3 a4 : Option Value} {t : List (Option Value)} (v : Int32) (hd : decode cc pc = .ok (.iinc 5 n, 3)) (hv : x + Int32.ofInt n = v) (hq : pc + 3 = q) (k : S l G b0 y cc nL ret rm lay' Post mc ms cells slots lay q (a0 :: a1 :: a2 :: a3 :: a4 :: some (.int v) :: t) st M) : S l G b0 y cc nL ret rm lay' Post mc ms cells slots lay pc (a0 :: a1 :: a2 :: a3 :: a4 :: some (.int x) :: t) st M := S_iinc v hd rfl hv hq k
theorem S_iload_6 {x : Int32} {a0 a1 a2 a3 a4 a5 : Option Value} {t : List (Option Value)} (hd : decode cc pc = .ok (.iload 6, 2)) (hq : pc + 2 = q) (k : S l G b0 y cc nL ret rm lay' Post mc ms cells slots lay q (a0 :: a1 :: a2 :: a3 :: a4 :: a5 :: some (.int x) :: t) (.int x :: st) M) : S l G b0 y cc nL ret rm lay' Post mc ms cells slots lay pc (a0 :: a1 :: a2 :: a3 :: a4 :: a5 :: some (.int x) :: t) st M := S_iload hd rfl hq k
theorem S_aload_6 {x : Nat} {a0 a1 a2 a3 a4 a5 : Option Value} {t : List (Option Value)} (hd : decode cc pc = .ok (.aload 6, 2)) (hq : pc + 2 = q) (k : S l G b0 y cc nL ret rm lay' Post mc ms cells slots lay q (a0 :: a1 :: a2 :: a3 :: a4 :: a5 :: some (.ref x) :: t) (.ref x :: st) M) : S l G b0 y cc nL ret rm lay' Post mc ms cells slots lay pc (a0 :: a1 :: a2 :: a3 :: a4 :: a5 :: some (.ref x) :: t) st M := S_aload hd rfl hq k
theorem S_istore_6 {x : Int32} {a0 a1 a2 a3 a4 a5 : Option Value} {a : Option Value} {t : List (Option Value)} (hd : decode cc pc = .ok (.istore 6, 2)) (hq : pc + 2 = q) (k : S l G b0 y cc nL ret rm lay' Post mc ms cells slots lay q (a0 :: a1 :: a2 :: a3 :: a4 :: a5 :: some (.int x) :: t) st M) : S l G b0 y cc nL ret rm lay' Post mc ms cells slots lay pc (a0 :: a1 :: a2 :: a3 :: a4 :: a5 :: a :: t) (.int x :: st) M := S_istore hd (by simp only [List.length_cons]; omega) hq k
theorem S_astore_6 {x : Nat} {a0 a1 a2 a3 a4 a5 : Option Value} {a : Option Value} {t : List (Option Value)} (hd : decode cc pc = .ok (.astore 6, 2)) (hq : pc + 2 = q) (k : S l G b0 y cc nL ret rm lay' Post mc ms cells slots lay q (a0 :: a1 :: a2 :: a3 :: a4 :: a5 :: some (.ref x) :: t) st M) : S l G b0 y cc nL ret rm lay' Post mc ms cells slots lay pc (a0 :: a1 :: a2 :: a3 :: a4 :: a5 :: a :: t) (.ref x :: st) M := S_astore hd (by simp only [List.length_cons]; omega) hq k
theorem S_iinc_6 {n : Int} {x : Int32} {a0 a1 a2 a3 a4 a5 : Option Value} {t : List (Option Value)} (v : Int32) (hd : decode cc pc = .ok (.iinc 6 n, 3)) (hv : x + Int32.ofInt n = v) (hq : pc + 3 = q) (k : S l G b0 y cc nL ret rm lay' Post mc ms cells slots lay q (a0 :: a1 :: a2 :: a3 :: a4 :: a5 :: some (.int v) :: t) st M) : S l G b0 y cc nL ret rm lay' Post mc ms cells slots lay pc (a0 :: a1 :: a2 :: a3 :: a4 :: a5 :: some (.int x) :: t) st M := S_iinc v hd rfl hv hq k
theorem S_iload_7 {x : Int32} {a0 a1 a2 a3 a4 a5 a6 : Option Value} {t : List (Option Value)} (hd : decode cc pc = .ok (.iload 7, 2)) (hq : pc + 2 = q) (k : S l G b0 y cc nL ret rm lay' Post mc ms cells slots lay q (a0 :: a1 :: a2 :: a3 :: a4 :: a5 :: a6 :: some (.int x) :: t) (.int x :: st) M) : S l G b0 y cc nL ret rm lay' Post mc ms cells slots lay pc (a0 :: a1 :: a2 :: a3 :: a4 :: a5 :: a6 :: some (.int x) :: t) st M := S_iload hd rfl hq k
theorem S_aload_7 {x : Nat} {a0 a1 a2 a3 a4 a5 a6 : Option Value} {t : List (Option Value)} (hd : decode cc pc = .ok (.aload 7, 2)) (hq : pc + 2 = q) (k : S l G b0 y cc nL ret rm lay' Post mc ms cells slots lay q (a0 :: a1 :: a2 :: a3 :: a4 :: a5 :: a6 :: some (.ref x) :: t) (.ref x :: st) M) : S l G b0 y cc nL ret rm lay' Post mc ms cells slots lay pc (a0 :: a1 :: a2 :: a3 :: a4 :: a5 :: a6 :: some (.ref x) :: t) st M := S_aload hd rfl hq k
theorem S_istore_7 {x : Int32} {a0 a1 a2 a3 a4 a5 a6 : Option Value} {a : Option Value} {t : List (Option Value)} (hd : decode cc pc = .ok (.istore 7, 2)) (hq : pc + 2 = q) (k : S l G b0 y cc nL ret rm lay' Post mc ms cells slots lay q (a0 :: a1 :: a2 :: a3 :: a4 :: a5 :: a6 :: some (.int x) :: t) st M) : S l G b0 y cc nL ret rm lay' Post mc ms cells slots lay pc (a0 :: a1 :: a2 :: a3 :: a4 :: a5 :: a6 :: a :: t) (.int x :: st) M := S_istore hd (by simp only [List.length_cons]; omega) hq k
theorem S_astore_7 {x : Nat} {a0 a1 a2 a3 a4 a5 a6 : Option Value} {a : Option Value} {t : List (Option Value)} (hd : decode cc pc = .ok (.astore 7, 2)) (hq : pc + 2 = q) (k : S l G b0 y cc nL ret rm lay' Post mc ms cells slots lay q (a0 :: a1 :: a2 :: a3 :: a4 :: a5 :: a6 :: some (.ref x) :: t) st M) : S l G b0 y cc nL ret rm lay' Post mc ms cells slots lay pc (a0 :: a1 :: a2 :: a3 :: a4 :: a5 :: a6 :: a :: t) (.ref x :: st) M := S_astore hd (by simp only [List.length_cons]; omega) hq k
theorem S_iinc_7 {n : Int} {x : Int32} {a0 a1 a2 a3 a4 a5 a6 : Option Value} {t : List (Option Value)} (v : Int32) (hd : decode cc pc = .ok (.iinc 7 n, 3)) (hv : x + Int32.ofInt n = v) (hq : pc + 3 = q) (k : S l G b0 y cc nL ret rm lay' Post mc ms cells slots lay q (a0 :: a1 :: a2 :: a3 :: a4 :: a5 :: a6 :: some (.int v) :: t) st M) : S l G b0 y cc nL ret rm lay' Post mc ms cells slots lay pc (a0 :: a1 :: a2 :: a3 :: a4 :: a5 :: a6 :: some (.int x) :: t) st M := S_iinc v hd rfl hv hq k
theorem S_iload_8 {x : Int32} {a0 a1 a2 a3 a4 a5 a6 a7 : Option Value} {t : List (Option Value)} (hd : decode cc pc = .ok (.iload 8, 2)) (hq : pc + 2 = q) (k : S l G b0 y cc nL ret rm lay' Post mc ms cells slots lay q (a0 :: a1 :: a2 :: a3 :: a4 :: a5 :: a6 :: a7 :: some (.int x) :: t) (.int x :: st) M) : S l G b0 y cc nL ret rm lay' Post mc ms cells slots lay pc (a0 :: a1 :: a2 :: a3 :: a4 :: a5 :: a6 :: a7 :: some (.int x) :: t) st M := S_iload hd rfl hq k
theorem S_aload_8 {x : Nat} {a0 a1 a2 a3 a4 a5 a6 a7 : Option Value} {t : List (Option Value)} (hd : decode cc pc = .ok (.aload 8, 2)) (hq : pc + 2 = q) (k : S l G b0 y cc nL ret rm lay' Post mc ms cells slots lay q (a0 :: a1 :: a2 :: a3 :: a4 :: a5 :: a6 :: a7 :: some (.ref x) :: t) (.ref x :: st) M) : S l G b0 y cc nL ret rm lay' Post mc ms cells slots lay pc (a0 :: a1 :: a2 :: a3 :: a4 :: a5 :: a6 :: a7 :: some (.ref x) :: t) st M := S_aload hd rfl hq k
theorem S_istore_8 {x : Int32} {a0 a1 a2 a3 a4 a5 a6 a7 : Option Value} {a : Option Value} {t : List (Option Value)} (hd : decode cc pc = .ok (.istore 8, 2)) (hq : pc + 2 = q) (k : S l G b0 y cc nL ret rm lay' Post mc ms cells slots lay q (a0 :: a1 :: a2 :: a3 :: a4 :: a5 :: a6 :: a7 :: some (.int x) :: t) st M) : S l G b0 y cc nL ret rm lay' Post mc ms cells slots lay pc (a0 :: a1 :: a2 :: a3 :: a4 :: a5 :: a6 :: a7 :: a :: t) (.int x :: st) M := S_istore hd (by simp only [List.length_cons]; omega) hq k
theorem S_astore_8 {x : Nat} {a0 a1 a2 a3 a4 a5 a6 a7 : Option Value} {a : Option Value} {t : List (Option Value)} (hd : decode cc pc = .ok (.astore 8, 2)) (hq : pc + 2 = q) (k : S l G b0 y cc nL ret rm lay' Post mc ms cells slots lay q (a0 :: a1 :: a2 :: a3 :: a4 :: a5 :: a6 :: a7 :: some (.ref x) :: t) st M) : S l G b0 y cc nL ret rm lay' Post mc ms cells slots lay pc (a0 :: a1 :: a2 :: a3 :: a4 :: a5 :: a6 :: a7 :: a :: t) (.ref x :: st) M := S_astore hd (by simp only [List.length_cons]; omega) hq k
theorem S_iinc_8 {n : Int} {x : Int32} {a0 a1 a2 a3 a4 a5 a6 a7 : Option Value} {t : List (Option Value)} (v : Int32) (hd : decode cc pc = .ok (.iinc 8 n, 3)) (hv : x + Int32.ofInt n = v) (hq : pc + 3 = q) (k : S l G b0 y cc nL ret rm lay' Post mc ms cells slots lay q (a0 :: a1 :: a2 :: a3 :: a4 :: a5 :: a6 :: a7 :: some (.int v) :: t) st M) : S l G b0 y cc nL ret rm lay' Post mc ms cells slots lay pc (a0 :: a1 :: a2 :: a3 :: a4 :: a5 :: a6 :: a7 :: some (.int x) :: t) st M := S_iinc v hd rfl hv hq k
theorem S_iload_9 {x : Int32} {a0 a1 a2 a3 a4 a5 a6 a7 a8 : Option Value} {t : List (Option Value)} (hd : decode cc pc = .ok (.iload 9, 2)) (hq : pc + 2 = q) (k : S l G b0 y cc nL ret rm lay' Post mc ms cells slots lay q (a0 :: a1 :: a2 :: a3 :: a4 :: a5 :: a6 :: a7 :: a8 :: some (.int x) :: t) (.int x :: st) M) : S l G b0 y cc nL ret rm lay' Post mc ms cells slots lay pc (a0 :: a1 :: a2 :: a3 :: a4 :: a5 :: a6 :: a7 :: a8 :: some (.int x) :: t) st M := S_iload hd rfl hq k
theorem S_aload_9 {x : Nat} {a0 a1 a2 a3 a4 a5 a6 a7 a8 : Option Value} {t : List (Option Value)} (hd : decode cc pc = .ok (.aload 9, 2)) (hq : pc + 2 = q) (k : S l G b0 y cc nL ret rm lay' Post mc ms cells slots lay q (a0 :: a1 :: a2 :: a3 :: a4 :: a5 :: a6 :: a7 :: a8 :: some (.ref x) :: t) (.ref x :: st) M) : S l G b0 y cc nL ret rm lay' Post mc ms cells slots lay pc (a0 :: a1 :: a2 :: a3 :: a4 :: a5 :: a6 :: a7 :: a8 :: some (.ref x) :: t) st M := S_aload hd rfl hq k
theorem S_istore_9 {x : Int32} {a0 a1 a2 a3 a4 a5 a6 a7 a8 : Option Value} {a : Option Value} {t : List (Option Value)} (hd : decode cc pc = .ok (.istore 9, 2)) (hq : pc + 2 = q) (k : S l G b0 y cc nL ret rm lay' Post mc ms cells slots lay q (a0 :: a1 :: a2 :: a3 :: a4 :: a5 :: a6 :: a7 :: a8 :: some (.int x) :: t) st M) : S l G b0 y cc nL ret rm lay' Post mc ms cells slots lay pc (a0 :: a1 :: a2 :: a3 :: a4 :: a5 :: a6 :: a7 :: a8 :: a :: t) (.int x :: st) M := S_istore hd (by simp only [List.length_cons]; omega) hq k
theorem S_astore_9 {x : Nat} {a0 a1 a2 a3 a4 a5 a6 a7 a8 : Option Value} {a : Option Value} {t : List (Option Value)} (hd : decode cc pc = .ok (.astore 9, 2)) (hq : pc + 2 = q) (k : S l G b0 y cc nL ret rm lay' Post mc ms cells slots lay q (a0 :: a1 :: a2 :: a3 :: a4 :: a5 :: a6 :: a7 :: a8 :: some (.ref x) :: t) st M) : S l G b0 y cc nL ret rm lay' Post mc ms cells slots lay pc (a0 :: a1 :: a2 :: a3 :: a4 :: a5 :: a6 :: a7 :: a8 :: a :: t) (.ref x :: st) M := S_astore hd (by simp only [List.length_cons]; omega) hq k
theorem S_iinc_9 {n : Int} {x : Int32} {a0 a1 a2 a3 a4 a5 a6 a7 a8 : Option Value} {t : List (Option Value)} (v : Int32) (hd : decode cc pc = .ok (.iinc 9 n, 3)) (hv : x + Int32.ofInt n = v) (hq : pc + 3 = q) (k : S l G b0 y cc nL ret rm lay' Post mc ms cells slots lay q (a0 :: a1 :: a2 :: a3 :: a4 :: a5 :: a6 :: a7 :: a8 :: some (.int v) :: t) st M) : S l G b0 y cc nL ret rm lay' Post mc ms cells slots lay pc (a0 :: a1 :: a2 :: a3 :: a4 :: a5 :: a6 :: a7 :: a8 :: some (.int x) :: t) st M := S_iinc v hd rfl hv hq k
theorem S_iload_10 {x : Int32} {a0 a1 a2 a3 a4 a5 a6 a7 a8 a9 : Option Value} {t : List (Option Value)} (hd : decode cc pc = .ok (.iload 10, 2)) (hq : pc + 2 = q) (k : S l G b0 y cc nL ret rm lay' Post mc ms cells slots lay q (a0 :: a1 :: a2 :: a3 :: a4 :: a5 :: a6 :: a7 :: a8 :: a9 :: some (.int x) :: t) (.int x :: st) M) : S l G b0 y cc nL ret rm lay' Post mc ms cells slots lay pc (a0 :: a1 :: a2 :: a3 :: a4 :: a5 :: a6 :: a7 :: a8 :: a9 :: some (.int x) :: t) st M := S_iload hd rfl hq k
theorem S_aload_10 {x : Nat} {a0 a1 a2 a3 a4 a5 a6 a7 a8 a9 : Option Value} {t : List (Option Value)} (hd : decode cc pc = .ok (.aload 10, 2)) (hq : pc + 2 = q) (k : S l G b0 y cc nL ret rm lay' Post mc ms cells slots lay q (a0 :: a1 :: a2 :: a3 :: a4 :: a5 :: a6 :: a7 :: a8 :: a9 :: some (.ref x) :: t) (.ref x :: st) M) : S l G b0 y cc nL ret rm lay' Post mc ms cells slots lay pc (a0 :: a1 :: a2 :: a3 :: a4 :: a5 :: a6 :: a7 :: a8 :: a9 :: some (.ref x) :: t) st M := S_aload hd rfl hq k
theorem S_istore_10 {x : Int32} {a0 a1 a2 a3 a4 a5 a6 a7 a8 a9 : Option Value} {a : Option Value} {t : List (Option Value)} (hd : decode cc pc = .ok (.istore 10, 2)) (hq : pc + 2 = q) (k : S l G b0 y cc nL ret rm lay' Post mc ms cells slots lay q (a0 :: a1 :: a2 :: a3 :: a4 :: a5 :: a6 :: a7 :: a8 :: a9 :: some (.int x) :: t) st M) : S l G b0 y cc nL ret rm lay' Post mc ms cells slots lay pc (a0 :: a1 :: a2 :: a3 :: a4 :: a5 :: a6 :: a7 :: a8 :: a9 :: a :: t) (.int x :: st) M := S_istore hd (by simp only [List.length_cons]; omega) hq k
theorem S_astore_10 {x : Nat} {a0 a1 a2 a3 a4 a5 a6 a7 a8 a9 : Option Value} {a : Option Value} {t : List (Option Value)} (hd : decode cc pc = .ok (.astore 10, 2)) (hq : pc + 2 = q) (k : S l G b0 y cc nL ret rm lay' Post mc ms cells slots lay q (a0 :: a1 :: a2 :: a3 :: a4 :: a5 :: a6 :: a7 :: a8 :: a9 :: some (.ref x) :: t) st M) : S l G b0 y cc nL ret rm lay' Post mc ms cells slots lay pc (a0 :: a1 :: a2 :: a3 :: a4 :: a5 :: a6 :: a7 :: a8 :: a9 :: a :: t) (.ref x :: st) M := S_astore hd (by simp only [List.length_cons]; omega) hq k
theorem S_iinc_10 {n : Int} {x : Int32} {a0 a1 a2 a3 a4 a5 a6 a7 a8 a9 : Option Value} {t : List (Option Value)} (v : Int32) (hd : decode cc pc = .ok (.iinc 10 n, 3)) (hv : x + Int32.ofInt n = v) (hq : pc + 3 = q) (k : S l G b0 y cc nL ret rm lay' Post mc ms cells slots lay q (a0 :: a1 :: a2 :: a3 :: a4 :: a5 :: a6 :: a7 :: a8 :: a9 :: some (.int v) :: t) st M) : S l G b0 y cc nL ret rm lay' Post mc ms cells slots lay pc (a0 :: a1 :: a2 :: a3 :: a4 :: a5 :: a6 :: a7 :: a8 :: a9 :: some (.int x) :: t) st M := S_iinc v hd rfl hv hq k
theorem S_iload_11 {x : Int32} {a0 a1 a2 a3 a4 a5 a6 a7 a8 a9 a10 : Option Value} {t : List (Option Value)} (hd : decode cc pc = .ok (.iload 11, 2)) (hq : pc + 2 = q) (k : S l G b0 y cc nL ret rm lay' Post mc ms cells slots lay q (a0 :: a1 :: a2 :: a3 :: a4 :: a5 :: a6 :: a7 :: a8 :: a9 :: a10 :: some (.int x) :: t) (.int x :: st) M) : S l G b0 y cc nL ret rm lay' Post mc ms cells slots lay pc (a0 :: a1 :: a2 :: a3 :: a4 :: a5 :: a6 :: a7 :: a8 :: a9 :: a10 :: some (.int x) :: t) st M := S_iload hd rfl hq k
theorem S_aload_11 {x : Nat} {a0 a1 a2 a3 a4 a5 a6 a7 a8 a9 a10 : Option Value} {t : List (Option Value)} (hd : decode cc pc = .ok (.aload 11, 2)) (hq : pc + 2 = q) (k : S l G b0 y cc nL ret rm lay' Post mc ms cells slots lay q (a0 :: a1 :: a2 :: a3 :: a4 :: a5 :: a6 :: a7 :: a8 :: a9 :: a10 :: some (.ref x) :: t) (.ref x :: st) M) : S l G b0 y cc nL ret rm lay' Post mc ms cells slots lay pc (a0 :: a1 :: a2 :: a3 :: a4 :: a5 :: a6 :: a7 :: a8 :: a9 :: a10 :: some (.ref x) :: t) st M := S_aload hd rfl hq k
theorem S_istore_11 {x : Int32} {a0 a1 a2 a3 a4 a5 a6 a7 a8 a9 a10 : Option Value} {a : Option Value} {t : List (Option Value)} (hd : decode cc pc = .ok (.istore 11, 2)) (hq : pc + 2 = q) (k : S l G b0 y cc nL ret rm lay' Post mc ms cells slots lay q (a0 :: a1 :: a2 :: a3 :: a4 :: a5 :: a6 :: a7 :: a8 :: a9 :: a10 :: some (.int x) :: t) st M) : S l G b0 y cc nL ret rm lay' Post mc ms cells slots lay pc (a0 :: a1 :: a2 :: a3 :: a4 :: a5 :: a6 :: a7 :: a8 :: a9 :: a10 :: a :: t) (.int x :: st) M := S_istore hd (by simp only [List.length_cons]; omega) hq k
theorem S_astore_11 {x : Nat} {a0 a1 a2 a3 a4 a5 a6 a7 a8 a9 a10 : Option Value} {a : Option Value} {t : List (Option Value)} (hd : decode cc pc = .ok (.astore 11, 2)) (hq : pc + 2 = q) (k : S l G b0 y cc nL ret rm lay' Post mc ms cells slots lay q (a0 :: a1 :: a2 :: a3 :: a4 :: a5 :: a6 :: a7 :: a8 :: a9 :: a10 :: some (.ref x) :: t) st M) : S l G b0 y cc nL ret rm lay' Post mc ms cells slots lay pc (a0 :: a1 :: a2 :: a3 :: a4 :: a5 :: a6 :: a7 :: a8 :: a9 :: a10 :: a :: t) (.ref x :: st) M := S_astore hd (by simp only [List.length_cons]; omega) hq k
theorem S_iinc_11 {n : Int} {x : Int32} {a0 a1 a2 a3 a4 a5 a6 a7 a8 a9 a10 : Option Value} {t : List (Option Value)} (v : Int32) (hd : decode cc pc = .ok (.iinc 11 n, 3)) (hv : x + Int32.ofInt n = v) (hq : pc + 3 = q) (k : S l G b0 y cc nL ret rm lay' Post mc ms cells slots lay q (a0 :: a1 :: a2 :: a3 :: a4 :: a5 :: a6 :: a7 :: a8 :: a9 :: a10 :: some (.int v) :: t) st M) : S l G b0 y cc nL ret rm lay' Post mc ms cells slots lay pc (a0 :: a1 :: a2 :: a3 :: a4 :: a5 :: a6 :: a7 :: a8 :: a9 :: a10 :: some (.int x) :: t) st M := S_iinc v hd rfl hv hq k
theorem S_iload_12 {x : Int32} {a0 a1 a2 a3 a4 a5 a6 a7 a8 a9 a10 a11 : Option Value} {t : List (Option Value)} (hd : decode cc pc = .ok (.iload 12, 2)) (hq : pc + 2 = q) (k : S l G b0 y cc nL ret rm lay' Post mc ms cells slots lay q (a0 :: a1 :: a2 :: a3 :: a4 :: a5 :: a6 :: a7 :: a8 :: a9 :: a10 :: a11 :: some (.int x) :: t) (.int x :: st) M) : S l G b0 y cc nL ret rm lay' Post mc ms cells slots lay pc (a0 :: a1 :: a2 :: a3 :: a4 :: a5 :: a6 :: a7 :: a8 :: a9 :: a10 :: a11 :: some (.int x) :: t) st M := S_iload hd rfl hq k
theorem S_aload_12 {x : Nat} {a0 a1 a2 a3 a4 a5 a6 a7 a8 a9 a10 a11 : Option Value} {t : List (Option Value)} (hd : decode cc pc = .ok (.aload 12, 2)) (hq : pc + 2 = q) (k : S l G b0 y cc nL ret rm lay' Post mc ms cells slots lay q (a0 :: a1 :: a2 :: a3 :: a4 :: a5 :: a6 :: a7 :: a8 :: a9 :: a10 :: a11 :: some (.ref x) :: t) (.ref x :: st) M) : S l G b0 y cc nL ret rm lay' Post mc ms cells slots lay pc (a0 :: a1 :: a2 :: a3 :: a4 :: a5 :: a6 :: a7 :: a8 :: a9 :: a10 :: a11 :: some (.ref x) :: t) st M := S_aload hd rfl hq k
theorem S_istore_12 {x : Int32} {a0 a1 a2 a3 a4 a5 a6 a7 a8 a9 a10 a11 : Option Value} {a : Option Value} {t : List (Option Value)} (hd : decode cc pc = .ok (.istore 12, 2)) (hq : pc + 2 = q) (k : S l G b0 y cc nL ret rm lay' Post mc ms cells slots lay q (a0 :: a1 :: a2 :: a3 :: a4 :: a5 :: a6 :: a7 :: a8 :: a9 :: a10 :: a11 :: some (.int x) :: t) st M) : S l G b0 y cc nL ret rm lay' Post mc ms cells slots lay pc (a0 :: a1 :: a2 :: a3 :: a4 :: a5 :: a6 :: a7 :: a8 :: a9 :: a10 :: a11 :: a :: t) (.int x :: st) M := S_istore hd (by simp only [List.length_cons]; omega) hq k
theorem S_astore_12 {x : Nat} {a0 a1 a2 a3 a4 a5 a6 a7 a8 a9 a10 a11 : Option Value} {a : Option Value} {t : List (Option Value)} (hd : decode cc pc = .ok (.astore 12, 2)) (hq : pc + 2 = q) (k : S l G b0 y cc nL ret rm lay' Post mc ms cells slots lay q (a0 :: a1 :: a2 :: a3 :: a4 :: a5 :: a6 :: a7 :: a8 :: a9 :: a10 :: a11 :: some (.ref x) :: t) st M) : S l G b0 y cc nL ret rm lay' Post mc ms cells slots lay pc (a0 :: a1 :: a2 :: a3 :: a4 :: a5 :: a6 :: a7 :: a8 :: a9 :: a10 :: a11 :: a :: t) (.ref x :: st) M := S_astore hd (by simp only [List.length_cons]; omega) hq k
theorem S_iinc_12 {n : Int} {x : Int32} {a0 a1 a2 a3 a4 a5 a6 a7 a8 a9 a10 a11 : Option Value} {t : List (Option Value)} (v : Int32) (hd : decode cc pc = .ok (.iinc 12 n, 3)) (hv : x + Int32.ofInt n = v) (hq : pc + 3 = q) (k : S l G b0 y cc nL ret rm lay' Post mc ms cells slots lay q (a0 :: a1 :: a2 :: a3 :: a4 :: a5 :: a6 :: a7 :: a8 :: a9 :: a10 :: a11 :: some (.int v) :: t) st M) : S l G b0 y cc nL ret rm lay' Post mc ms cells slots lay pc (a0 :: a1 :: a2 :: a3 :: a4 :: a5 :: a6 :: a7 :: a8 :: a9 :: a10 :: a11 :: some (.int x) :: t) st M := S_iinc v hd rfl hv hq k

/-- a field's link: own code, nest mates too -/
def FL (own : String) (idx ci j : Nat) : Prop := ∃ (C : String) (T : u_T) (N : Nat), vwCl[ci]? = some (C, T, N) ∧ j < N ∧ (∀ w ∈ u_ws C T N, w ∈ TG) ∧ (Cond.fieldLink own idx (T j).1 (T j).2.1 (T j).2.2.1 ∈ TG ∨ ∃ host, Cond.fieldLinkNest own idx (T j).1 (T j).2.1 (T j).2.2.1 host ∈ tables_1)
def FP (own : String) (idx ci j : Nat) (ty : FieldType) : Prop := ∃ (C : String) (T : u_T) (N : Nat) (ty0 : Nat → FieldType), vwCl[ci]? = some (C, T, N) ∧ j < N ∧ (∀ w ∈ u_ws C T N, w ∈ TG) ∧ (Cond.fieldLink own idx (T j).1 (T j).2.1 (T j).2.2.1 ∈ TG ∨ ∃ host, Cond.fieldLinkNest own idx (T j).1 (T j).2.1 (T j).2.2.1 host ∈ tables_1) ∧ (∀ k, k < N → parseFieldDescriptor (T k).2.2.1 = some (ty0 k)) ∧ (∀ a, a < N → ∀ b, b < N → a ≠ b → (T a).2.1 ≠ (T b).2.1) ∧ (T j).2.2.2 = false ∧ parseFieldDescriptor (T j).2.2.1 = some ty
theorem wl_fs {G : Gd} {b0 : Nat} {lay : Lay} {M : Mem} {k ci : Nat} {fs : List (Option (Option Nat))} (h : lay[k]? = some (.inl (ci, fs))) : (wl G b0 lay M)[k]? = some (b0 + k, .inr (ci, fs.mapIdx (fun j x => fv b0 (M k) j x))) := wl_at h
theorem wl_ar {G : Gd} {b0 : Nat} {lay : Lay} {M : Mem} {k n : Nat} (h : lay[k]? = some (.inr (.inl n))) : (wl G b0 lay M)[k]? = some (b0 + k, .inl (G.2.1, n, .inl (M k))) := wl_at h
theorem wl_aq {G : Gd} {b0 : Nat} {lay : Lay} {M : Mem} {k t : Nat} {r : List (Option Nat)} (h : lay[k]? = some (.inr (.inr (t, r)))) : (wl G b0 lay M)[k]? = some (b0 + k, .inl (G.2.2 t, r.length, .inr (.inr (.inr (.inr (qv b0 r)))))) := wl_at h

theorem S_getI {k ci j idx : Nat} {fs : List (Option (Option Nat))} (hd : decode cc pc = .ok (.getfield idx, 3)) (hf : FL y.cls idx ci j) (hk : lay[k]? = some (.inl (ci, fs))) (hj : fs[j]? = some (none)) (hq : pc + 3 = q) (k1 : S l G b0 y cc nL ret rm lay' Post mc ms cells slots lay q ls (.int (M k j) :: st) M) : S l G b0 y cc nL ret rm lay' Post mc ms cells slots lay pc ls (.ref (b0 + k) :: st) M := by
  subst hq; intro p e s m args below meth c F hb hz H locs la hw hs hl
  obtain ⟨C, T, N, h1, h2, h3, h4⟩ := hf
  have hv : (fs.mapIdx (fun j x => fv b0 (M k) j x))[j]? = some (.int (M k j)) := by simp [List.getElem?_mapIdx, hj, fv]
  rcases h4 with h4 | ⟨host, h4⟩
  · exact va_get F.1 F.2.1 F.2.2.2.2.2.1 h3 F.2.2.2.2.1 F.2.2.2.2.2.2.2.1 hw k (wl_fs hk) h1 j h2 (F.2.2.2.2.2.1 _ h4) (fun _ h9 => h9) hv hd (k1 p e s m args below meth c F hb hz H locs la hw hs hl)
  · exact va_getN F.1 F.2.1 F.2.2.2.2.2.1 h3 F.2.2.2.2.1 F.2.2.2.2.2.2.2.1 hw k (wl_fs hk) h1 j h2 (va_Nw.use rfl (F.2.2.2.2.2.2.2.2.1 _ h4 rfl)) (fun _ h9 => h9) hv hd (k1 p e s m args below meth c F hb hz H locs la hw hs hl)
theorem S_getR {k ci j idx : Nat} {fs : List (Option (Option Nat))} {o : Nat} (hd : decode cc pc = .ok (.getfield idx, 3)) (hf : FL y.cls idx ci j) (hk : lay[k]? = some (.inl (ci, fs))) (hj : fs[j]? = some (some (some o))) (hq : pc + 3 = q) (k1 : S l G b0 y cc nL ret rm lay' Post mc ms cells slots lay q ls (.ref (b0 + o) :: st) M) : S l G b0 y cc nL ret rm lay' Post mc ms cells slots lay pc ls (.ref (b0 + k) :: st) M := by
  subst hq; intro p e s m args below meth c F hb hz H locs la hw hs hl
  obtain ⟨C, T, N, h1, h2, h3, h4⟩ := hf
  have hv : (fs.mapIdx (fun j x => fv b0 (M k) j x))[j]? = some (.ref (b0 + o)) := by simp [List.getElem?_mapIdx, hj, fv]
  rcases h4 with h4 | ⟨host, h4⟩
  · exact va_get F.1 F.2.1 F.2.2.2.2.2.1 h3 F.2.2.2.2.1 F.2.2.2.2.2.2.2.1 hw k (wl_fs hk) h1 j h2 (F.2.2.2.2.2.1 _ h4) (fun _ h9 => h9) hv hd (k1 p e s m args below meth c F hb hz H locs la hw hs hl)
  · exact va_getN F.1 F.2.1 F.2.2.2.2.2.1 h3 F.2.2.2.2.1 F.2.2.2.2.2.2.2.1 hw k (wl_fs hk) h1 j h2 (va_Nw.use rfl (F.2.2.2.2.2.2.2.2.1 _ h4 rfl)) (fun _ h9 => h9) hv hd (k1 p e s m args below meth c F hb hz H locs la hw hs hl)
theorem S_putI {k ci j idx : Nat} {fs : List (Option (Option Nat))} {v : Int32} {ty : FieldType} (hd : decode cc pc = .ok (.putfield idx, 3)) (hf : FP y.cls idx ci j ty) (hk : lay[k]? = some (.inl (ci, fs))) (hj : fs[j]? = some none) (hn : narrow ty (.int v) = .int v) (hfit : fits ty (.int v) = true) (hq : pc + 3 = q) (k1 : S l G b0 y cc nL ret rm lay' Post mc ms cells slots lay q ls st (up M k j v)) : S l G b0 y cc nL ret rm lay' Post mc ms cells slots lay pc ls (.int v :: .ref (b0 + k) :: st) M := by
  subst hq; intro p e s m args below meth c F hb hz H locs la hw hs hl
  obtain ⟨C, T, N, ty0, h1, h2, h3, h4, h5, h6, h7, h8⟩ := hf
  have hl2 : j < (fs.mapIdx (fun j x => fv b0 (M k) j x)).length := by simp; exact (List.getElem?_eq_some_iff.mp hj).1
  rcases h4 with h4 | ⟨host, h4⟩
  · refine va_put F.1 F.2.1 F.2.2.2.2.2.1 h3 ty0 h5 h6 F.2.2.2.2.1 F.2.2.2.2.2.2.2.1 hw wl_D hs k (wl_fs hk) h1 j h2 (F.2.2.2.2.2.1 _ h4) (fun _ h9 => h9) h7 h8 hn hfit hl2 hd (fun H1 locs1 hP1 _ hS1 => ?_)
    rw [wl_setI hk hj] at hP1
    exact k1 p e s m args below meth c F hb hz H1 locs1 la hP1 hS1 hl
  · refine va_putN F.1 F.2.1 F.2.2.2.2.2.1 h3 ty0 h5 h6 F.2.2.2.2.1 F.2.2.2.2.2.2.2.1 hw wl_D hs k (wl_fs hk) h1 j h2 (va_Nw.use rfl (F.2.2.2.2.2.2.2.2.1 _ h4 rfl)) (fun _ h9 => h9) h7 h8 hn hfit hl2 hd (fun H1 locs1 hP1 _ hS1 => ?_)
    rw [wl_setI hk hj] at hP1
    exact k1 p e s m args below meth c F hb hz H1 locs1 la hP1 hS1 hl
theorem S_iald {k n : Nat} {i : Int32} (hd : decode cc pc = .ok (.iaload, 1)) (hk : lay[k]? = some (.inr (.inl n))) (hin : vp_in i n) (hq : pc + 1 = q) (k1 : S l G b0 y cc nL ret rm lay' Post mc ms cells slots lay q ls (.int (M k i.toNatClampNeg) :: st) M) : S l G b0 y cc nL ret rm lay' Post mc ms cells slots lay pc ls (.int i :: .ref (b0 + k) :: st) M := by
  subst hq; intro p e s m args below meth c F hb hz H locs la hw hs hl
  exact va_iald F.1 F.2.1 F.2.2.2.2.2.2.2.1 hw k 0 (wl_ar hk) rfl hin hd (k1 p e s m args below meth c F hb hz H locs la hw hs hl)
theorem S_iast {k n : Nat} {i x : Int32} (hd : decode cc pc = .ok (.iastore, 1)) (hk : lay[k]? = some (.inr (.inl n))) (hin : vp_in i n) (hq : pc + 1 = q) (k1 : S l G b0 y cc nL ret rm lay' Post mc ms cells slots lay q ls st (up M k i.toNatClampNeg x)) : S l G b0 y cc nL ret rm lay' Post mc ms cells slots lay pc ls (.int x :: .int i :: .ref (b0 + k) :: st) M := by
  subst hq; intro p e s m args below meth c F hb hz H locs la hw hs hl
  refine va_iast F.1 F.2.1 F.2.2.2.2.2.2.2.1 hw wl_D hs k 0 (wl_ar hk) rfl hin hd (fun H1 locs1 hP1 _ hS1 => ?_)
  rw [wl_setA hk] at hP1
  exact k1 p e s m args below meth c F hb hz H1 locs1 la hP1 hS1 hl
theorem S_alen {k n : Nat} (hd : decode cc pc = .ok (.arraylength, 1)) (hk : lay[k]? = some (.inr (.inl n))) (hq : pc + 1 = q) (k1 : S l G b0 y cc nL ret rm lay' Post mc ms cells slots lay q ls (.int (nI n) :: st) M) : S l G b0 y cc nL ret rm lay' Post mc ms cells slots lay pc ls (.ref (b0 + k) :: st) M := by
  subst hq; intro p e s m args below meth c F hb hz H locs la hw hs hl
  exact va_alen F.1 F.2.1 F.2.2.2.2.2.2.2.1 hw k 0 (wl_ar hk) (ty := .int) rfl rfl hd (k1 p e s m args below meth c F hb hz H locs la hw hs hl)
theorem S_aald {k t o : Nat} {r : List (Option Nat)} {i : Int32} (hd : decode cc pc = .ok (.aaload, 1)) (hk : lay[k]? = some (.inr (.inr (t, r)))) (ht : t < 2) (hin : vp_in i r.length) (ho : r[i.toNatClampNeg]? = some (some o)) (hq : pc + 1 = q) (k1 : S l G b0 y cc nL ret rm lay' Post mc ms cells slots lay q ls (.ref (b0 + o) :: st) M) : S l G b0 y cc nL ret rm lay' Post mc ms cells slots lay pc ls (.int i :: .ref (b0 + k) :: st) M := by
  subst hq; intro p e s m args below meth c F hb hz H locs la hw hs hl
  have e1 : va_rf (qv b0 r i.toNatClampNeg) = .ref (b0 + o) := by
    unfold qv
    rw [List.getD_eq_getElem?_getD, ho]
    rfl
  have k2 := k1 p e s m args below meth c F hb hz H locs la hw hs hl
  rw [← e1] at k2
  match t, ht with
  | 0, _ => exact va_aldq F.1 F.2.1 F.2.2.2.2.2.2.2.1 hw k 1 (wl_aq hk) (C := RX1) rfl hin hd k2
  | 1, _ => exact va_aldq F.1 F.2.1 F.2.2.2.2.2.2.2.1 hw k 2 (wl_aq hk) (C := RX7) rfl hin hd k2
/-- the words of System.arraycopy, for the class that calls it -/
def LC (own : String) (idx : Nat) : Prop := Cond.methodLink own idx arraycopyName ∈ TG ∧ Cond.native arraycopyName ∈ TG ∧ Cond.static arraycopyName ∈ TG ∧ Cond.initialized "java/lang/System" ∈ TG
theorem S_copy {k k0 n n0 idx : Nat} {sp dp z : Int32} (hd : decode cc pc = .ok (.invokestatic idx, 3)) (hL : LC y.cls idx) (hk0 : lay[k0]? = some (.inr (.inl n0))) (hk : lay[k]? = some (.inr (.inl n))) (h1 : ¬ sp < 0) (h2 : ¬ dp < 0) (h3 : ¬ z < 0) (h4 : sp.toNatClampNeg + z.toNatClampNeg ≤ n0) (h5 : dp.toNatClampNeg + z.toNatClampNeg ≤ n) (hfr : 1 ≤ rm.frames) (hlo : (st.map fun v => v.category).sum + (nativeFrameWords "java/lang/System" "arraycopy" 5 + 11) ≤ rm.locals) (hq : pc + 3 = q) (k1 : S l G b0 y cc nL ret rm lay' Post mc ms cells slots lay q ls st (upA M k (va_cpy (M k0) (M k) sp.toNatClampNeg dp.toNatClampNeg z.toNatClampNeg))) : S l G b0 y cc nL ret rm lay' Post mc ms cells slots lay pc ls (.int z :: .int dp :: .ref (b0 + k) :: .int sp :: .ref (b0 + k0) :: st) M := by
  subst hq; intro p e s m args below meth c F hb hz H locs la hw hs hl
  refine va_copyi F.1 F.2.1 (F.2.2.2.1.trans hl.1.symm) F.2.2.2.2.1 (F.2.2.2.2.2.1 _ hL.1) (F.2.2.2.2.2.1 _ hL.2.1) (F.2.2.2.2.2.1 _ hL.2.2.1) (F.2.2.2.2.2.1 _ hL.2.2.2) F.2.2.2.2.2.2.2.1 hw wl_D hs k0 k 0 0 (wl_ar hk0) (wl_ar hk) (ty := .int) rfl rfl rfl h1 h2 h3 h4 h5 (fun _ _ => rfl) hfr hlo hd (fun H1 locs1 hP1 _ hS1 => ?_)
  rw [wl_setA hk] at hP1
  exact k1 p e s m args below meth c F hb hz H1 locs1 la hP1 hS1 hl
theorem WD.ex {s0 : Nat} (hb : b0 ≤ s0) (hz : s0 + cells = b0 + lay.length) {H : Heap} (hw : WD G b0 lay M H) (h1 : s0 ≤ H.size) (h2 : H.size ≤ s0 + cells) : H.size = b0 + lay.length := by
  have := hw.le (Nat.le_trans hb h1)
  omega
theorem S_iret {v : Int32} {ty : FieldType} (hret : ret = some ty) (hd : decode cc pc = .ok (.ireturn, 1)) (hn : narrow ty (.int v) = .int v) (hlay : lay = lay') (hp : Post v M) : S l G b0 y cc nL ret rm lay' Post mc ms mc ms lay pc ls [.int v] M := by
  subst hlay; intro p e s m args below meth c F hb hz H locs la hw hs hl
  refine W_size fun h9 => ?_
  refine W.zret (v := v) (ty := ty) F.1 F.2.1 (F.2.2.1.trans hret) hn (fun t ht hW => ⟨⟨v, M, by rw [hret]; rfl, hp, ?_, by rw [ht]; exact hw, va_K.moved hW.alike F.2.2.2.2.2.2.2.1, NW.warm hW F.2.2.2.2.2.2.2.2.1⟩, hs.F ht⟩) hs.2.2 hd F.2.2.2.2.2.2.1
  rw [ht]
  exact WD.ex hb hz hw hs.1 h9
theorem S_ret {v : Int32} (hret : ret = none) (hd : decode cc pc = .ok (.return_, 1)) (hlay : lay = lay') (hp : Post v M) : S l G b0 y cc nL ret rm lay' Post mc ms mc ms lay pc ls [] M := by
  subst hlay; intro p e s m args below meth c F hb hz H locs la hw hs hl
  refine W_size fun h9 => ?_
  refine W.vret F.1 F.2.1 (F.2.2.1.trans hret) (fun t ht hW => ⟨⟨v, M, by rw [hret]; rfl, hp, ?_, by rw [ht]; exact hw, va_K.moved hW.alike F.2.2.2.2.2.2.2.1, NW.warm hW F.2.2.2.2.2.2.2.2.1⟩, hs.F ht⟩) hs.2.2 hd F.2.2.2.2.2.2.1
  rw [ht]
  exact WD.ex hb hz hw hs.1 h9
end ENG
