/-! ===== the judgement of this proof: a method's walk over ONE fixed list of cells ===== -/
def Rm (h : Nat) : Room := { frames := h + 8, cells := 1, slots := 6, locals := 40 * h + 200 }
/-- where the classes and slots lie, the array classes, the places that may be written, what is constant -/
abbrev Gm : Type := va_G × List (ClassId × FieldType) × (Nat → Prop) × (State → Heap → Prop)
/-- the places that may be written are places of the list -/
def hAw (A : Nat → Prop) (ws : va_W) : Prop := ∀ q : Nat, A q → ∃ (k : Nat) (e : va_E), ws[k]? = some (q, e)
theorem hAw.set {A : Nat → Prop} {ws : va_W} {p a : Nat} {e0 e : va_E} (h : hAw A ws) (hp : ws[p]? = some (a, e0)) : hAw A (ws.set p (a, e)) := by
  intro q hq
  obtain ⟨k, e1, hk⟩ := h q hq
  have hl := (List.getElem?_eq_some_iff.mp hp).1
  by_cases hkp : k = p
  · subst hkp
    rw [hp] at hk
    cases hk
    exact ⟨k, e, List.getElem?_set_self hl⟩
  · exact ⟨k, e1, by rw [List.getElem?_set_ne (Ne.symm hkp)]; exact hk⟩
def KI (G : Gm) (ws : va_W) (U : State) (H : Heap) : Prop := va_K G.1 classes G.2.1 U ∧ va_P G.1 classes ws H ∧ va_D G.2.2.1 ws ∧ hAw G.2.2.1 ws
theorem va_at.novm {D : va_G} {cl : List vw_C} {q : Nat × va_E} {H : Heap} (h : va_at D cl q H) : ∃ cell : Cell, H[q.1]? = some cell ∧ cell.vm = .none := by
  obtain ⟨a, e⟩ := q
  cases e with
  | inl x =>
    refine ⟨_, h, ?_⟩
    obtain ⟨c, n, y⟩ := x
    rcases y with f | f | f | f | f <;> rfl
  | inr o =>
    obtain ⟨r, h1, cell, h2, h3, h4, -⟩ := h
    exact ⟨cell, h2, h4⟩
theorem KI.nost {G : Gm} {ws : va_W} {U : State} {H : Heap} (h : KI G ws U H) : ∀ (q : Nat) (cell : Cell), G.2.2.1 q → H[q]? = some cell → cell.vm.isStatics = false := by
  intro q cell hq hc
  obtain ⟨k, e, hk⟩ := h.2.2.2 q hq
  obtain ⟨c2, h1, h2⟩ := (h.2.1 k _ hk).novm
  have h1' : H[q]? = some c2 := h1
  rw [hc] at h1'
  cases h1'
  rw [h2]; rfl
def Kok (G : Gm) : Prop := (∀ (U : State) (H H1 : Heap), (∀ a : Nat, a < H.size → ¬ G.2.2.1 a → H1[a]? = H[a]?) → G.2.2.2 U H → G.2.2.2 U H1) ∧ ∀ (u U : State) (H : Heap), u.vm.Alike U.vm → G.2.2.2 u H → G.2.2.2 U H
theorem KI.moved {G : Gm} {ws : va_W} {u U : State} {H : Heap} (hvm : u.vm.Alike U.vm) (h : KI G ws u H) : KI G ws U H := ⟨va_K.moved hvm h.1, h.2⟩
/-- how a method ends: it returns a value, or it throws an object of a class -/
abbrev Oc : Type := Option Value ⊕ String
def XQ (G : Gm) (o : Oc) (ws' : va_W) : Array Value → State → Outcome → State → Prop := fun _ s0 oc t =>
  KI G ws' t t.heap ∧ va_F G.2.2.1 s0 t ∧ s0.WarmedH t.vm ∧ ∃ L : List Loc, (∀ z ∈ L, G.2.2.1 z.base) ∧
    match o with
    | .inl v => oc = .returned v ∧ s0.sameButNew ({ t with vm := s0.vm } : State) L 0 0
    | .inr E => ∃ (q : Addr) (ce : Cell), oc = .threw q ∧ t.heap[q]? = some ce ∧ ce.vm = .none ∧ s0.vm.findClass E = some ce.cls ∧ s0.sameButNew ({ t with vm := s0.vm } : State) L 1 6
def XP (G : Gm) (ws : va_W) (U : State) : Prop := Kok G ∧ KI G ws U U.heap ∧ G.2.2.2 U U.heap
/-- THE CONTRACT: from the cells ws, with the arguments av, the method ends by o with the cells ws' -/
def XC (l : Launch) (G : Gm) (h : Nat) (y : MethodName) (cc : ByteArray) (nL : Nat) (ret : Option FieldType) (av : List Value) (ws : va_W) (o : Oc) (ws' : va_W) : Prop :=
  MetFree l y (headSpec (Cond.code y cc nL ret :: gt) (Rm h)) (va_Pc av (XP G ws)) (fun _ _ _ _ _ => True) (XQ G o ws')
/-- what stands fast within a body -/
def Cx (p : Program) (s : State) (m : MethodId) (args : Array Value) (meth : Method) (c : Code) (G : Gm) (cc : ByteArray) (nL : Nat) (ret : Option FieldType) (own : String) : Prop :=
  p.tables.exec = Jvm.exec ∧ c.code = cc ∧ c.maxLocals = nL ∧ s.vm.findClass own = some m.cls ∧ (∀ w ∈ gt, w.before args s = true) ∧ meth.sig.returnType = ret ∧ meth.locks = false ∧ c.exceptionTable.isEmpty = true ∧ Kok G ∧ G.2.2.2 s s.heap ∧ ∀ (q : Nat) (cell : Cell), G.2.2.1 q → s.heap[q]? = some cell → cell.vm.isStatics = false
/-- the end of a body -/
def XE (below : List Frame) (G : Gm) (o : Oc) (ws' : va_W) (a : Array Value) (s : State) : State → Prop := fun t => ∃ oc, t.status = .running ∧ Ended t below oc ∧ XQ G o ws' a s oc t
/-- the walk stands at pc, with the locals lv, the stack sk, the cells ws -/
def V (p : Program) (l : Launch) (e : Env) (R : Room) (s : State) (m : MethodId) (args : Array Value) (below : List Frame) (meth : Method) (c : Code) (G : Gm) (nL : Nat) (cells slots : Nat) (Q : State → Prop) (ws : va_W) (pc : Nat) (lv : List (Nat × Value)) (sk : List Value) : Prop :=
  ∀ (H : Heap) (locs : List Loc) (ls : Array Slot), KI G ws s H → va_S G.2.2.1 s.heap H locs → lv_has ls nL lv → W p l e R s m args below meth c H locs cells slots Q (F0 m pc ls sk)
theorem XC.ofV {l : Launch} {G : Gm} {h : Nat} {y : MethodName} {cc : ByteArray} {nL : Nat} {ret : Option FieldType} {av : List Value} {ws : va_W} {o : Oc} {ws' : va_W} (hy : plainName y.cls = true) (hlen : Nat.ble (lg_sl av).length nL = true)
    (body : ∀ (p : Program) (e : Env) (s : State) (m : MethodId) (below : List Frame) (meth : Method) (c : Code), Cx p s m av.toArray meth c G cc nL ret y.cls → meth.name = y.name → V p l e (Rm h) s m av.toArray below meth c G nL 0 0 (XE below G o ws' av.toArray s) ws 0 (lv_args 0 av) []) :
    XC l G h y cc nL ret av ws o ws' := by
  refine MetFree.of_bodyS (code := cc) (maxLocals := nL) (ret := ret) hy ?_ ?_
  · intro args s m h hn
    obtain ⟨meth, c, h1, h2, h3, h4, h5, h6, -, -⟩ := Cond.code_spec hn (atoms_spec (ws := Cond.code y cc nL ret :: gt) h _ List.mem_cons_self)
    exact ⟨meth, c, h1, h2, h3, h4, h5, h6⟩
  · intro p e s m args below meth c s₁ B hml hP _
    obtain ⟨rfl, hk, hKI, hK⟩ := hP
    have hts0 := atoms_spec (ws := Cond.code y cc nL ret :: gt) B.pre
    have hh0 : s₁.heap = s.heap := by rw [B.state]; rfl
    have hE := B.noHandlers (hts0 _ List.mem_cons_self)
    have hl := lv_entry av (n := nL) (Nat.le_of_ble_eq_true hlen)
    have V0 := body p e s m below meth c ⟨B.exec, B.bytes, hml, findClass_of_methodNamed B.named, fun w hw => hts0 w (List.mem_cons_of_mem _ hw), B.returns, B.notSynchronized, hE, hk, hK, hKI.nost⟩ (name_of_methodNamed B.named B.method).1 s.heap [] _ hKI va_S.rf hl
    rw [← lg_entry_eq] at V0
    obtain ⟨t, a1, oc, b1, b2, b3⟩ := V0 s₁ hh0 (Stand.of_body B)
    exact ⟨t, oc, a1, b1, b2, b3⟩
/-! locals -/
def lk (lv : List (Nat × Value)) (i : Nat) : Option Value := match lv with
  | [] => none
  | q :: t => if q.1 = i then some q.2 else lk t i
theorem lk_mem {lv : List (Nat × Value)} {i : Nat} {v : Value} (h : lk lv i = some v) : (i, v) ∈ lv := by
  induction lv with
  | nil => simp [lk] at h
  | cons q t ih =>
    unfold lk at h
    split at h
    · rename_i e
      cases h; subst e
      exact List.mem_cons_self
    · exact List.mem_cons_of_mem _ (ih h)
def lins (i : Nat) (v : Value) : List (Nat × Value) → List (Nat × Value)
  | [] => [(i, v)]
  | q :: t => if i < q.1 then (i, v) :: q :: t else q :: lins i v t
theorem lins_mem {i : Nat} {v : Value} {l : List (Nat × Value)} {q : Nat × Value} (h : q ∈ lins i v l) : q = (i, v) ∨ q ∈ l := by
  induction l with
  | nil => simp [lins] at h; exact Or.inl h
  | cons a t ih =>
    unfold lins at h
    split at h
    · rcases List.mem_cons.mp h with h | h
      · exact Or.inl h
      · exact Or.inr h
    · rcases List.mem_cons.mp h with h | h
      · exact Or.inr (by rw [h]; exact List.mem_cons_self)
      · rcases ih h with h | h
        · exact Or.inl h
        · exact Or.inr (List.mem_cons_of_mem _ h)
/-- a value of one word stored at i; of two words -/
def pt (i : Nat) (v : Value) (lv : List (Nat × Value)) : List (Nat × Value) := lins i v (lv.filter (fun q => !(q.1 == i) && !(q.1 + 1 == i && q.2.category == 2)))
def pt2 (i : Nat) (v : Value) (lv : List (Nat × Value)) : List (Nat × Value) := lins i v (lv.filter (fun q => !(q.1 == i) && (!(q.1 == i + 1) && !(q.1 + 1 == i && q.2.category == 2))))
theorem lv_pt {ls : Array Slot} {nL i : Nat} {v : Value} {l : List (Nat × Value)} (h : lv_has ls nL ((i, v) :: l)) : lv_has ls nL (lins i v l) := ⟨h.1, h.2.1, fun q hq => h.2.2 q (by
  rcases lins_mem hq with h | h
  · rw [h]; exact List.mem_cons_self
  · exact List.mem_cons_of_mem _ h)⟩
theorem lv_lk {ls : Array Slot} {nL i : Nat} {v : Value} {lv : List (Nat × Value)} (h : lv_has ls nL lv) (hk : lk lv i = some v) : ls[i]? = some (.val v) := h.2.2 _ (lk_mem hk)
section VR
variable {p : Program} {l : Launch} {e : Env} {R : Room} {s : State} {m : MethodId} {args : Array Value} {below : List Frame} {meth : Method} {c : Code} {G : Gm} {nL cells slots : Nat} {Q : State → Prop} {ws ws' : va_W} {pc : Nat} {lv lv' : List (Nat × Value)} {sk rest : List Value}
variable {cc : ByteArray} {ret : Option FieldType} {own : String}
theorem V.eqw (h : ws = ws') (k : V p l e R s m args below meth c G nL cells slots Q ws' pc lv sk) : V p l e R s m args below meth c G nL cells slots Q ws pc lv sk := h ▸ k
theorem V.eqs {sk' : List Value} (h : sk = sk') (k : V p l e R s m args below meth c G nL cells slots Q ws pc lv sk') : V p l e R s m args below meth c G nL cells slots Q ws pc lv sk := h ▸ k
theorem V.eql (h : ∀ q ∈ lv', q ∈ lv) (k : V p l e R s m args below meth c G nL cells slots Q ws pc lv' sk) : V p l e R s m args below meth c G nL cells slots Q ws pc lv sk := fun H locs ls a b hl => k H locs ls a b ⟨hl.1, hl.2.1, fun q hq => hl.2.2 q (h q hq)⟩
theorem V.pick (ks : List Nat) (h : lv_pick lv ks = lv') (k : V p l e R s m args below meth c G nL cells slots Q ws pc lv' sk) : V p l e R s m args below meth c G nL cells slots Q ws pc lv sk := fun H locs ls a b hl => k H locs ls a b (lv_sub hl ks h)
theorem V.lvs (h : lv = lv') (k : V p l e R s m args below meth c G nL cells slots Q ws pc lv' sk) : V p l e R s m args below meth c G nL cells slots Q ws pc lv sk := h ▸ k
/-! ends -/
theorem V.vret (C : Cx p s m args meth c G cc nL none own) (hd : decode cc pc = .ok (.return_, 1)) {o : Oc} (ho : o = .inl none) (hw : ws = ws') : V p l e R s m args below meth c G nL 0 0 (XE below G o ws' args s) ws pc lv [] := by
  subst ho; subst hw
  obtain ⟨hx, hb, hml, hown, hts, hr, hlk, hE, hk, hK, hns⟩ := C
  intro H locs ls hI hS hl T hT X
  obtain ⟨t, a, oc, b1, b2, ⟨q1, q2, q3⟩, L, q4, q5⟩ := W.vret (free := G.2.2.1) (Qc := fun _ s0 oc t => oc = .returned none ∧ KI G ws t t.heap ∧ va_F G.2.2.1 s0 t) hx hb hr (fun t ht hW => ⟨rfl, by rw [ht]; exact hI.moved hW.alike, hS.F ht⟩) hS.2.2 hd hlk T hT X
  exact ⟨t, a, oc, b1, b2, q2, q3, q4.2.1, L, q5, q1, q4.2.2⟩
theorem V.iret (C : Cx p s m args meth c G cc nL (some .int) own) (hd : decode cc pc = .ok (.ireturn, 1)) {v : Int32} {o : Oc} (ho : o = .inl (some (.int v))) (hw : ws = ws') : V p l e R s m args below meth c G nL 0 0 (XE below G o ws' args s) ws pc lv [.int v] := by
  subst ho; subst hw
  obtain ⟨hx, hb, hml, hown, hts, hr, hlk, hE, hk, hK, hns⟩ := C
  intro H locs ls hI hS hl T hT X
  obtain ⟨t, a, oc, b1, b2, ⟨q1, q2, q3⟩, L, q4, q5⟩ := W.iret (free := G.2.2.1) (Qc := fun _ s0 oc t => oc = .returned (some (.int v)) ∧ KI G ws t t.heap ∧ va_F G.2.2.1 s0 t) hx hb hr (fun t ht hW => ⟨rfl, by rw [ht]; exact hI.moved hW.alike, hS.F ht⟩) hS.2.2 hd hlk T hT X
  exact ⟨t, a, oc, b1, b2, q2, q3, q4.2.1, L, q5, q1, q4.2.2⟩
theorem V.zret (C : Cx p s m args meth c G cc nL (some .boolean) own) (hd : decode cc pc = .ok (.ireturn, 1)) {v : Int32} (hv : v = 0 ∨ v = 1) {o : Oc} (ho : o = .inl (some (.int v))) (hw : ws = ws') : V p l e R s m args below meth c G nL 0 0 (XE below G o ws' args s) ws pc lv [.int v] := by
  subst ho; subst hw
  obtain ⟨hx, hb, hml, hown, hts, hr, hlk, hE, hk, hK, hns⟩ := C
  intro H locs ls hI hS hl T hT X
  have hn : narrow .boolean (.int v) = .int v := by rcases hv with rfl | rfl <;> decide +kernel
  obtain ⟨t, a, oc, b1, b2, ⟨q1, q2, q3⟩, L, q4, q5⟩ := W.zret (free := G.2.2.1) (Qc := fun _ s0 oc t => oc = .returned (some (.int v)) ∧ KI G ws t t.heap ∧ va_F G.2.2.1 s0 t) hx hb hr hn (fun t ht hW => ⟨rfl, by rw [ht]; exact hI.moved hW.alike, hS.F ht⟩) hS.2.2 hd hlk T hT X
  exact ⟨t, a, oc, b1, b2, q2, q3, q4.2.1, L, q5, q1, q4.2.2⟩
theorem V.lret (C : Cx p s m args meth c G cc nL (some .long) own) (hd : decode cc pc = .ok (.lreturn, 1)) {v : Int64} {o : Oc} (ho : o = .inl (some (.long v))) (hw : ws = ws') : V p l e R s m args below meth c G nL 0 0 (XE below G o ws' args s) ws pc lv [.long v] := by
  subst ho; subst hw
  obtain ⟨hx, hb, hml, hown, hts, hr, hlk, hE, hk, hK, hns⟩ := C
  intro H locs ls hI hS hl T hT X
  obtain ⟨t, a, oc, b1, b2, ⟨q1, q2, q3⟩, L, q4, q5⟩ := W.lret (free := G.2.2.1) (Qc := fun _ s0 oc t => oc = .returned (some (.long v)) ∧ KI G ws t t.heap ∧ va_F G.2.2.1 s0 t) hx hb hr (fun t ht hW => ⟨rfl, by rw [ht]; exact hI.moved hW.alike, hS.F ht⟩) hS.2.2 hd hlk T hT X
  exact ⟨t, a, oc, b1, b2, q2, q3, q4.2.1, L, q5, q1, q4.2.2⟩
theorem V.aret {nm : String} (C : Cx p s m args meth c G cc nL (some (.object nm)) own) (hd : decode cc pc = .ok (.areturn, 1)) {v : Nat} {o : Oc} (ho : o = .inl (some (.ref v))) (hw : ws = ws') : V p l e R s m args below meth c G nL 0 0 (XE below G o ws' args s) ws pc lv [.ref v] := by
  subst ho; subst hw
  obtain ⟨hx, hb, hml, hown, hts, hr, hlk, hE, hk, hK, hns⟩ := C
  intro H locs ls hI hS hl T hT X
  obtain ⟨t, a, oc, b1, b2, ⟨q1, q2, q3⟩, L, q4, q5⟩ := W.aret (free := G.2.2.1) (v := .ref v) (Qc := fun _ s0 oc t => oc = .returned (some (.ref v)) ∧ KI G ws t t.heap ∧ va_F G.2.2.1 s0 t) hx hb hr (Or.inl ⟨_, rfl⟩) (Or.inr ⟨_, rfl⟩) (fun t ht hW => ⟨rfl, by rw [ht]; exact hI.moved hW.alike, hS.F ht⟩) hS.2.2 hd hlk T hT X
  exact ⟨t, a, oc, b1, b2, q2, q3, q4.2.1, L, q5, q1, q4.2.2⟩
end VR
