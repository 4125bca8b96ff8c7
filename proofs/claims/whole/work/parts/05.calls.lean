/-! ===== calls by contract, over V; what is thrown ===== -/
/-- a method of ours that is called on an object; a static one -/
def Yw (y : MethodName) (cc : ByteArray) (nL : Nat) (ret : Option FieldType) (n : Nat) : Prop :=
  Cond.instanceMethod y ∈ gt ∧ Cond.selects y.cls y y ∈ gt ∧ Cond.code y cc nL ret ∈ gt ∧ Cond.initialized y.cls ∈ gt ∧ (y.cls ≠ "java/lang/invoke/MethodHandle" ∧ y.cls ≠ "java/lang/invoke/VarHandle") ∧ (parseMethodDescriptor y.desc).map (fun d => d.parameters.length) = some n ∧ nL ≤ 21
def Ys (y : MethodName) (cc : ByteArray) (nL : Nat) (ret : Option FieldType) (n : Nat) : Prop :=
  Cond.static y ∈ gt ∧ Cond.code y cc nL ret ∈ gt ∧ Cond.initialized y.cls ∈ gt ∧ (y.cls ≠ "java/lang/invoke/MethodHandle" ∧ y.cls ≠ "java/lang/invoke/VarHandle") ∧ (parseMethodDescriptor y.desc).map (fun d => d.parameters.length) = some n ∧ nL ≤ 21
/-- the room that a callee of height h wants -/
def Rok (R : Room) (h cells slots : Nat) : Prop := h + 9 ≤ R.frames ∧ 40 * h + 240 ≤ R.locals ∧ cells + 1 ≤ R.cells ∧ slots + 6 ≤ R.slots
theorem Rok.lt {h h' : Nat} (q : h' < h) : Rok (Rm h) h' 0 0 := ⟨by show h' + 9 ≤ h + 8; omega, by show 40 * h' + 240 ≤ 40 * h + 200; omega, by show 0 + 1 ≤ 1; omega, by show 0 + 6 ≤ 6; omega⟩
def XPre (R : Room) (G : Gm) (av : List Value) (ws : va_W) : Pt → Array Value → Prop := fun A a => A.cells + 1 ≤ R.cells ∧ A.slots + 6 ≤ R.slots ∧ va_Pc av (XP G ws) a A.U
def XPost (G : Gm) (v : Option Value) (ws1 : va_W) : Pt → Array Value → Option Value → Pt → Prop := fun A _ v' B =>
  v' = v ∧ B.cells = A.cells ∧ B.slots = A.slots ∧ KI G ws1 B.U B.U.heap ∧ A.U.heap.size ≤ B.U.heap.size ∧ (∀ q : Nat, q < A.U.heap.size → ¬ G.2.2.1 q → B.U.heap[q]? = A.U.heap[q]?) ∧ ∃ L : List Loc, B.locs = A.locs ++ L ∧ ∀ z ∈ L, G.2.2.1 z.base
theorem XP.blind {G : Gm} {ws : va_W} {U : State} (g : JFrame) (mk : MethodId) (a : Array Value) (h : XP G ws U) : XP G ws (U.calling g mk a) := by
  obtain ⟨h1, h2, h3⟩ := h
  exact ⟨h1, KI.moved (u := U) (U := U.calling g mk a) (Vm.Alike.refl U.vm) h2, h1.2 U (U.calling g mk a) U.heap (Vm.Alike.refl U.vm) h3⟩
theorem KI.same {G : Gm} {ws : va_W} {u U : State} {H : Heap} (hvm : u.vm = U.vm) (h : KI G ws u H) : KI G ws U H := KI.moved (by rw [hvm]; exact Vm.Alike.refl _) h
section XB
variable {l : Launch} {R : Room} {p : Program} {e : Env} {below : List Frame} {s : State} {sargs : Array Value} {y : MethodName} {G : Gm} {h : Nat} {cc : ByteArray} {nL : Nat} {ret : Option FieldType} {av : List Value} {ws ws1 : va_W}
theorem XC.words {args : Array Value} (hts : ∀ w ∈ gt, w.before args s = true) (hc : Cond.code y cc nL ret ∈ gt) : ∀ w ∈ Cond.code y cc nL ret :: gt, ∀ (a' : Array Value) (U : State), s.WarmedH U.vm → w.before a' U = true := by
  intro w hw a' U hW
  have hw' : w ∈ gt := by
    rcases List.mem_cons.mp hw with h | h
    · rw [h]; exact hc
    · exact h
  exact word_at hW (gt_good w hw') (hts w hw')
theorem XC.back {args : Array Value} {v : Option Value} {len : Nat} (hM : XC l G h y cc nL ret av ws (.inl v) ws1) (hts : ∀ w ∈ gt, w.before args s = true) (hc : Cond.code y cc nL ret ∈ gt) (hi : Cond.initialized y.cls ∈ gt) (hnL : nL ≤ 21) (hf : h + 9 ≤ R.frames) (hlo : 40 * h + 240 ≤ R.locals) :
    Back l R p e below s sargs y len 8 (XPre R G av ws) (XPost G v ws1) := by
  have hws := XC.words (s := s) hts hc
  refine Back.of_free (S := headSpec (Cond.code y cc nL ret :: gt) (Rm h)) (P := va_Pc av (XP G ws)) (K := fun _ _ _ _ _ => True) (Q := XQ G (.inl v) ws1) (bytes := cc) (maxL := nL) (ret := ret)
    (E := fun a st o t L k n => k = 0 ∧ n = 0 ∧ ∀ q ∈ L, G.2.2.1 q.base) hM (show h + 8 + 1 ≤ R.frames by omega) (show 8 + (nL + 11) + (40 * h + 200) ≤ R.locals by omega) ?_ ?_ (fun _ _ _ _ _ _ _ _ _ => trivial) ?_ ?_
  · intro m meth c A a X hp
    exact ⟨atoms_intro fun w hw => hws w hw _ _ X.warmed, hws _ List.mem_cons_self _ _ X.warmed, word_at X.warmed (gt_good _ hi) (hts _ hi), hp.1, hp.2.1⟩
  · intro m meth c A a g mk X hp
    obtain ⟨-, -, rfl, hx⟩ := hp
    exact ⟨rfl, hx.blind g mk _⟩
  · intro a st o t hq
    obtain ⟨h1, h2, h3, L, h4, h5, h6⟩ := hq
    exact ⟨L, 0, 0, ⟨⟨v, h5⟩, h3, h6⟩, rfl, rfl, h4⟩
  · intro m meth c A a g mk v' t L k n X hp hq hF ⟨e1, e2, hL⟩
    subst e1; subst e2
    obtain ⟨h1, h2, h3, L', h4, h5, h6⟩ := hq
    cases h5
    exact ⟨rfl, rfl, rfl, KI.same (by rfl) h1, h2.1, h2.2, L, rfl, hL⟩
/-- a callee that throws -/
theorem XC.backT {args : Array Value} {E : String} {len : Nat} (hM : XC l G h y cc nL ret av ws (.inr E) ws1) (hts : ∀ w ∈ gt, w.before args s = true) (hc : Cond.code y cc nL ret ∈ gt) (hi : Cond.initialized y.cls ∈ gt) (hnL : nL ≤ 21) (hf : h + 9 ≤ R.frames) (hlo : 40 * h + 240 ≤ R.locals)
    {m : MethodId} {meth : Method} {c : Code} {U : State} {Ls : List Loc} {c0 s0 : Nat} {g : JFrame} {ig : Instr} {mk : MethodId} (X : Stand p l e R s m sargs below meth c U Ls c0 s0) (hg : g.method = m) (hsize : g.locals.size = c.maxLocals) (hdg : decode c.code g.pc = .ok (ig, len))
    (hW : 2 * g.monitorRoom + (g.stack.map fun v => v.category).sum ≤ 8) (hn : U.methodNamed? y = some mk) (hc1 : c0 + 1 ≤ R.cells) (hs1 : s0 + 6 ≤ R.slots) (hp : XP G ws U) :
    ∃ (q : Addr) (ce : Cell) (U' : State) (L : List Loc), Stand p l e R s m sargs below meth c U' (Ls ++ L) (c0 + 1) (s0 + 6) ∧ (∀ z ∈ L, G.2.2.1 z.base) ∧ KI G ws1 U' U'.heap ∧ U.heap.size ≤ U'.heap.size ∧ (∀ q : Nat, q < U.heap.size → ¬ G.2.2.1 q → U'.heap[q]? = U.heap[q]?) ∧
      U'.heap[q]? = some ce ∧ ce.vm = .none ∧ s.vm.findClass E = some ce.cls ∧ Steps p.tables e below (doInvoke e (U.setTop g) [] mk av.toArray).1 ((U'.setTop g).pushFrame (.throwing q)) := by
  have hws := XC.words (s := s) hts hc
  have h1 : (headSpec (Cond.code y cc nL ret :: gt) (Rm h)).pre.before av.toArray U = true := atoms_intro fun w hw => hws w hw _ _ X.warmed
  have h2 : (Cond.code y cc nL ret).before av.toArray U = true := hws _ List.mem_cons_self _ _ X.warmed
  obtain ⟨methY, cY, hmY, hcY, -, hlY, -, -, -, -⟩ := Cond.code_spec hn h2
  obtain ⟨kY, hkY, -⟩ := className_of_methodNamed hn
  have hinitY : kY.init = .initialized := Cond.initialized_spec (findClass_of_methodNamed hn) hkY (word_at (a' := av.toArray) X.warmed (gt_good _ hi) (hts _ hi))
  have hat : At U g.method c below := by rw [hg]; exact X.here
  have hlo2 : 40 * h + 240 ≤ R.locals := hlo
  have happ : (headSpec (Cond.code y cc nL ret :: gt) (Rm h)).appliesLoose y e.platform (U.calling g mk av.toArray) = true :=
    Spec.appliesLoose_calling (g := g) hat hdg hn hkY hinitY
      (X.room_calling (g := g) (R' := (headSpec (Cond.code y cc nL ret :: gt) (Rm h)).room) hsize hmY hcY (show h + 8 + 1 ≤ R.frames by omega) (by rw [hlY]; show _ + (40 * h + 200) ≤ _; omega) hc1 hs1) h1
  have hfr : (U.setTop g).frames = [.java g] ++ below := by rw [State.frames_setTop' g X.here.top, X.tail]; rfl
  obtain ⟨o, s₂, hsteps, -, hend, hq⟩ := Steps.callFree hM p X.admits X.cas X.clock (acts := []) hfr happ ⟨rfl, hp.blind g mk _⟩ trivial
  obtain ⟨k1, k2, k3, L, k4, q, ce, rfl, k5, k6, k7, k8⟩ := hq
  rw [hfr] at hend
  obtain ⟨T', X', hW', hB, ht⟩ := X.outOfThrown hg (mk := mk) (a := av.toArray) (L := L) (k := 1) (n := 6) hend k3 k8
  have hhp : T'.heap = s₂.heap := by rw [ht, throwing_heap]
  have hvm : T'.vm = s₂.vm := by rw [ht, throwing_vm]
  refine ⟨q, ce, T', L, X', k4, ?_, ?_, ?_, ?_, k6, ?_, ?_⟩
  · rw [hhp]; exact KI.same hvm.symm k1
  · rw [hhp]; exact k2.1
  · rw [hhp]; exact k2.2
  · rw [hhp]; exact k5
  · have h9 : U.vm.findClass E = some ce.cls := k7
    rw [X.warmed.alike.findClass] at h9
    exact h9
  · rw [← ht]; exact hsteps
end XB
section VC
variable {p : Program} {l : Launch} {e : Env} {R : Room} {s : State} {m : MethodId} {args : Array Value} {below : List Frame} {meth : Method} {c : Code} {G : Gm} {nL cells slots : Nat} {Q : State → Prop} {ws ws' : va_W} {pc : Nat} {lv lv' : List (Nat × Value)} {sk rest : List Value}
variable {cc : ByteArray} {ret : Option FieldType} {own : String} {H : Heap} {locs : List Loc} {ls : Array Slot}
/-- what a call hands on, at the level of heaps -/
theorem XP.at {T : State} {vm₁ : Vm} (hk : Kok G) (hK : G.2.2.2 s s.heap) (hI : KI G ws s H) (hS : ∀ q : Nat, q < s.heap.size → ¬ G.2.2.1 q → H[q]? = s.heap[q]?) (hT : T.heap = H) (hW : s.WarmedH vm₁) : XP G ws (T.setVm vm₁) := by
  refine ⟨hk, ?_, ?_⟩
  · show KI G ws (T.setVm vm₁) T.heap
    rw [hT]; exact hI.moved hW.alike
  · show G.2.2.2 (T.setVm vm₁) T.heap
    rw [hT]; exact hk.2 s (T.setVm vm₁) H hW.alike (hk.1 s s.heap H hS hK)
/-- a frame of ours with q thrown over it -/
def VT (p : Program) (l : Launch) (e : Env) (R : Room) (s : State) (m : MethodId) (args : Array Value) (below : List Frame) (meth : Method) (c : Code) (cells slots : Nat) (Q : State → Prop) (H : Heap) (locs : List Loc) (g : JFrame) (q : Addr) : Prop :=
  ∀ T : State, T.heap = H → Stand p l e R s m args below meth c T locs cells slots → ∃ t, Steps p.tables e below ((T.setTop g).pushFrame (.throwing q)) t ∧ Q t
variable {y : MethodName} {h : Nat} {ccY : ByteArray} {nLY n i : Nat} {retY : Option FieldType} {As : List Value} {b : Nat} {ws1 : va_W} {v : Option Value} {E : String}
theorem WcallV (hx : p.tables.exec = Jvm.exec) (hb : c.code = cc) (hml : c.maxLocals = nL) (hown : s.vm.findClass own = some m.cls) (hts : ∀ w ∈ gt, w.before args s = true) (hM : XC l G h y ccY nLY retY (.ref b :: As) ws (.inl v) ws1) (Y : Yw y ccY nLY retY n) (hl : Cond.methodLink own i y ∈ gt) (hcell : ∃ cellB : Cell, H[b]? = some cellB ∧ cellB.vm.isStatics = false ∧ s.vm.findClass y.cls = some cellB.cls)
    (hX : ∀ (T : State) (vm₁ : Vm), T.heap = H → s.WarmedH vm₁ → XP G ws (T.setVm vm₁)) (hn : As.length = n) (hsz : ls.size = nL) (hstk : sk = As.reverse ++ .ref b :: rest) (hW : (rest.map fun v => v.category).sum ≤ 8) (hR : Rok R h cells slots) (hd : decode cc pc = .ok (.invokevirtual i, 3))
    (kk : ∀ (H1 : Heap) (L : List Loc), KI G ws1 s H1 → H.size ≤ H1.size → (∀ q : Nat, q < H.size → ¬ G.2.2.1 q → H1[q]? = H[q]?) → (∀ z ∈ L, G.2.2.1 z.base) → W p l e R s m args below meth c H1 (locs ++ L) cells slots Q (F0 m (pc + 3) ls (v.toList ++ rest))) : W p l e R s m args below meth c H locs cells slots Q (F0 m pc ls sk) := by
  obtain ⟨y1, y2, y3, y4, y5, y6, y7⟩ := Y
  obtain ⟨r1, r2, r3, r4⟩ := hR
  obtain ⟨cellB, c1, c2, c3⟩ := hcell
  intro T hT X
  have hK := XC.back (p := p) (e := e) (below := below) (s := s) (sargs := args) (R := R) (len := 3) hM hts y3 y4 y7 r1 r2
  obtain ⟨v', vm₁, ⟨U', l2, c9, s9⟩, hW₁, X', ⟨e1, e2, e3, k1, k2, k3, L, k4, k5⟩, st⟩ := callV X hx (C := y.cls) (bytes := ccY) (maxL := nLY) (ret := retY) hown (hts _ hl) (hts _ y1) (hts _ y2) (hts _ y3) y5 hK (by rw [hT]; exact c1) c2 c3 (g := F0 m pc ls sk) rfl (by rw [hml]; exact hsz) (argsL := As) (rest := rest) (fun sig hh => by rw [hh] at y6; exact hn.trans (Option.some.inj y6).symm) hstk (lv_room hW) (by rw [hb]; exact hd)
    (fun vm₁ hW₁ => ⟨r3, r4, rfl, hX T vm₁ hT hW₁⟩)
  dsimp only [Pt.U, Pt.locs, Pt.cells, Pt.slots] at X' e1 e2 e3 k1 k2 k3 k4 st
  subst e1; subst e2; subst e3; subst k4
  have k2' : H.size ≤ U'.heap.size := by rw [← hT]; exact k2
  have k3' : ∀ q : Nat, q < H.size → ¬ G.2.2.1 q → U'.heap[q]? = H[q]? := by rw [← hT]; exact k3
  obtain ⟨t, a1, b1⟩ := kk U'.heap L (k1.moved X'.warmed.alike.symm) k2' k3' k5 U' rfl X'
  exact ⟨t, st t a1, b1⟩
theorem WcallVX (hx : p.tables.exec = Jvm.exec) (hb : c.code = cc) (hml : c.maxLocals = nL) (hown : s.vm.findClass own = some m.cls) (hts : ∀ w ∈ gt, w.before args s = true) (hM : XC l G h y ccY nLY retY (.ref b :: As) ws (.inr E) ws1) (Y : Yw y ccY nLY retY n) (hl : Cond.methodLink own i y ∈ gt) (hcell : ∃ cellB : Cell, H[b]? = some cellB ∧ cellB.vm.isStatics = false ∧ s.vm.findClass y.cls = some cellB.cls)
    (hX : ∀ (T : State) (vm₁ : Vm), T.heap = H → s.WarmedH vm₁ → XP G ws (T.setVm vm₁)) (hn : As.length = n) (hsz : ls.size = nL) (hstk : sk = As.reverse ++ .ref b :: rest) (hW : (rest.map fun v => v.category).sum ≤ 8) (hR : Rok R h cells slots) (hd : decode cc pc = .ok (.invokevirtual i, 3))
    (kk : ∀ (H1 : Heap) (L : List Loc) (q : Addr) (ce : Cell), KI G ws1 s H1 → H.size ≤ H1.size → (∀ q : Nat, q < H.size → ¬ G.2.2.1 q → H1[q]? = H[q]?) → (∀ z ∈ L, G.2.2.1 z.base) → H1[q]? = some ce → ce.vm = .none → s.vm.findClass E = some ce.cls → VT p l e R s m args below meth c (cells + 1) (slots + 6) Q H1 (locs ++ L) (F0 m pc ls rest) q) : W p l e R s m args below meth c H locs cells slots Q (F0 m pc ls sk) := by
  obtain ⟨y1, y2, y3, y4, y5, y6, y7⟩ := Y
  obtain ⟨r1, r2, r3, r4⟩ := hR
  obtain ⟨cellB, c1, c2, c3⟩ := hcell
  intro T hT X
  obtain ⟨mk, methM, hnamed, hmethM, hstM, habM⟩ := Cond.instanceMethod_spec (hts _ y1)
  obtain ⟨methM', cM, hmethM', -, -, -, -, -, -, hsigM⟩ := Cond.code_spec hnamed (hts _ y3)
  cases hmethM.symm.trans hmethM'
  obtain ⟨z2, r9, m9, q1, q2, q3, q4, kP, hkP, hkPi⟩ := Cond.selects_spec (hts _ y2)
  cases c3.symm.trans q1
  cases (State.methodFound?_of_named hnamed y5).symm.trans q2
  cases hnamed.symm.trans q3
  have hselP : selectMethod e.platform s.vm cellB.cls mk = .method mk := by rw [Launch.admits_selectMethod X.admits]; exact q4
  obtain ⟨vm₁, X₁, hstep₁⟩ := X.invokevirtual hx hown (hts _ hl) hnamed hmethM hstM hkP hkPi y5 (a := b) (cell := cellB) (by rw [hT]; exact c1)
    (fun z hz => by rw [hz] at c2; cases c2) hselP hmethM habM hkP hkPi (g := F0 m pc ls sk) rfl (argsL := As) (rest := rest) (by rw [hsigM] at y6; exact hn.trans (Option.some.inj y6).symm) hstk (by rw [hb]; exact hd)
  obtain ⟨q, ce, U', L, X', k1, k2, k3, k4, k5, k6, k7, st⟩ := XC.backT hM hts y3 y4 y7 r1 r2 X₁ (g := F0 m pc ls rest) rfl (by rw [hml]; exact hsz) (by rw [hb]; exact hd) (lv_room hW) (X₁.named hnamed) r3 r4 (hX T vm₁ hT X₁.warmed)
  have k3' : H.size ≤ U'.heap.size := by rw [← hT]; exact k3
  have k4' : ∀ q : Nat, q < H.size → ¬ G.2.2.1 q → U'.heap[q]? = H[q]? := by rw [← hT]; exact k4
  obtain ⟨t, a1, b1⟩ := kk U'.heap L q ce (k2.moved X'.warmed.alike.symm) k3' k4' k1 k5 k6 k7 U' rfl X'
  exact ⟨t, (hstep₁ _ fun acts => by rw [doInvoke_state]; exact st).trans a1, b1⟩
theorem WcallS (hx : p.tables.exec = Jvm.exec) (hb : c.code = cc) (hml : c.maxLocals = nL) (hown : s.vm.findClass own = some m.cls) (hts : ∀ w ∈ gt, w.before args s = true) (hM : XC l G h y ccY nLY retY As ws (.inl v) ws1) (Y : Ys y ccY nLY retY n) (hl : Cond.methodLink own i y ∈ gt)
    (hX : ∀ (T : State) (vm₁ : Vm), T.heap = H → s.WarmedH vm₁ → XP G ws (T.setVm vm₁)) (hn : As.length = n) (hsz : ls.size = nL) (hstk : sk = As.reverse ++ rest) (hW : (rest.map fun v => v.category).sum ≤ 8) (hR : Rok R h cells slots) (hd : decode cc pc = .ok (.invokestatic i, 3))
    (kk : ∀ (H1 : Heap) (L : List Loc), KI G ws1 s H1 → H.size ≤ H1.size → (∀ q : Nat, q < H.size → ¬ G.2.2.1 q → H1[q]? = H[q]?) → (∀ z ∈ L, G.2.2.1 z.base) → W p l e R s m args below meth c H1 (locs ++ L) cells slots Q (F0 m (pc + 3) ls (v.toList ++ rest))) : W p l e R s m args below meth c H locs cells slots Q (F0 m pc ls sk) := by
  obtain ⟨y1, y3, y4, y5, y6, y7⟩ := Y
  obtain ⟨r1, r2, r3, r4⟩ := hR
  intro T hT X
  have hK := XC.back (p := p) (e := e) (below := below) (s := s) (sargs := args) (R := R) (len := 3) hM hts y3 y4 y7 r1 r2
  obtain ⟨v', vm₁, ⟨U', l2, c9, s9⟩, hW₁, X', ⟨e1, e2, e3, k1, k2, k3, L, k4, k5⟩, st⟩ := callS X hx (bytes := ccY) (maxL := nLY) (ret := retY) hown (hts _ hl) (hts _ y1) (hts _ y4) (hts _ y3) y5 hK (g := F0 m pc ls sk) rfl (by rw [hml]; exact hsz) (argsL := As) (rest := rest) (fun sig hh => by rw [hh] at y6; exact hn.trans (Option.some.inj y6).symm) hstk (lv_room hW) (by rw [hb]; exact hd)
    (fun vm₁ hW₁ => ⟨r3, r4, rfl, hX T vm₁ hT hW₁⟩)
  dsimp only [Pt.U, Pt.locs, Pt.cells, Pt.slots] at X' e1 e2 e3 k1 k2 k3 k4 st
  subst e1; subst e2; subst e3; subst k4
  have k2' : H.size ≤ U'.heap.size := by rw [← hT]; exact k2
  have k3' : ∀ q : Nat, q < H.size → ¬ G.2.2.1 q → U'.heap[q]? = H[q]? := by rw [← hT]; exact k3
  obtain ⟨t, a1, b1⟩ := kk U'.heap L (k1.moved X'.warmed.alike.symm) k2' k3' k5 U' rfl X'
  exact ⟨t, st t a1, b1⟩
theorem WcallSX (hx : p.tables.exec = Jvm.exec) (hb : c.code = cc) (hml : c.maxLocals = nL) (hown : s.vm.findClass own = some m.cls) (hts : ∀ w ∈ gt, w.before args s = true) (hM : XC l G h y ccY nLY retY As ws (.inr E) ws1) (Y : Ys y ccY nLY retY n) (hl : Cond.methodLink own i y ∈ gt)
    (hX : ∀ (T : State) (vm₁ : Vm), T.heap = H → s.WarmedH vm₁ → XP G ws (T.setVm vm₁)) (hn : As.length = n) (hsz : ls.size = nL) (hstk : sk = As.reverse ++ rest) (hW : (rest.map fun v => v.category).sum ≤ 8) (hR : Rok R h cells slots) (hd : decode cc pc = .ok (.invokestatic i, 3))
    (kk : ∀ (H1 : Heap) (L : List Loc) (q : Addr) (ce : Cell), KI G ws1 s H1 → H.size ≤ H1.size → (∀ q : Nat, q < H.size → ¬ G.2.2.1 q → H1[q]? = H[q]?) → (∀ z ∈ L, G.2.2.1 z.base) → H1[q]? = some ce → ce.vm = .none → s.vm.findClass E = some ce.cls → VT p l e R s m args below meth c (cells + 1) (slots + 6) Q H1 (locs ++ L) (F0 m pc ls rest) q) : W p l e R s m args below meth c H locs cells slots Q (F0 m pc ls sk) := by
  obtain ⟨y1, y3, y4, y5, y6, y7⟩ := Y
  obtain ⟨r1, r2, r3, r4⟩ := hR
  intro T hT X
  obtain ⟨mk, hnamed⟩ := Cond.code_named (hts _ y3)
  obtain ⟨methM, cM, hmethM, -, -, -, -, -, -, hsigM⟩ := Cond.code_spec hnamed (hts _ y3)
  have hstatic : methM.isStatic = true := Cond.static_spec hnamed hmethM (hts _ y1)
  obtain ⟨kP, hkP, -⟩ := className_of_methodNamed hnamed
  have hinitP : kP.init = .initialized := Cond.initialized_spec (findClass_of_methodNamed hnamed) hkP (hts _ y4)
  obtain ⟨vm₁, X₁, hstep₁⟩ := X.invokestatic hx hown (hts _ hl) hnamed hmethM hstatic hkP hinitP y5 (g := F0 m pc ls sk) rfl (argsL := As) (rest := rest) (by rw [hsigM] at y6; exact hn.trans (Option.some.inj y6).symm) hstk (by rw [hb]; exact hd)
  obtain ⟨q, ce, U', L, X', k1, k2, k3, k4, k5, k6, k7, st⟩ := XC.backT hM hts y3 y4 y7 r1 r2 X₁ (g := F0 m pc ls rest) rfl (by rw [hml]; exact hsz) (by rw [hb]; exact hd) (lv_room hW) (X₁.named hnamed) r3 r4 (hX T vm₁ hT X₁.warmed)
  have k3' : H.size ≤ U'.heap.size := by rw [← hT]; exact k3
  have k4' : ∀ q : Nat, q < H.size → ¬ G.2.2.1 q → U'.heap[q]? = H[q]? := by rw [← hT]; exact k4
  obtain ⟨t, a1, b1⟩ := kk U'.heap L q ce (k2.moved X'.warmed.alike.symm) k3' k4' k1 k5 k6 k7 U' rfl X'
  exact ⟨t, (hstep₁ _ fun acts => by rw [doInvoke_state]; exact st).trans a1, b1⟩
theorem va_S.more {A : Nat → Prop} {H0 H1 : Heap} {L : List Loc} (hS : va_S A H0 H locs) (h1 : H.size ≤ H1.size) (h2 : ∀ q : Nat, q < H.size → ¬ A q → H1[q]? = H[q]?) (h3 : ∀ z ∈ L, A z.base) : va_S A H0 H1 (locs ++ L) :=
  ⟨Nat.le_trans hS.1 h1, fun q a1 a2 => (h2 q (Nat.lt_of_lt_of_le a1 hS.1) a2).trans (hS.2.1 q a1 a2), fun z hz => by
    rcases List.mem_append.mp hz with h | h
    · exact hS.2.2 z h
    · exact h3 z h⟩
/-- not caught: it leaves a method that has no table -/
theorem VT.out (hE : c.exceptionTable.isEmpty = true) (hlk : meth.locks = false) {q : Addr} {ce : Cell} (hI : KI G ws s H) (hS : va_S G.2.2.1 s.heap H locs) (h1 : H[q]? = some ce) (h2 : ce.vm = .none) (h3 : s.vm.findClass E = some ce.cls) : VT p l e R s m args below meth c 1 6 (XE below G (.inr E) ws args s) H locs (F0 m pc ls rest) q := by
  intro T hT X
  have hout : ∀ x ∈ c.exceptionTable.toList, covers x (F0 m pc ls rest).pc = false := by
    intro x hx
    rw [Array.isEmpty_iff] at hE
    rw [hE] at hx
    cases hx
  obtain ⟨st1, hrun, hend, hW, hsm⟩ := X.leaveThrown q (g := F0 m pc ls rest) rfl rfl rfl hout hlk
  have hh : (T.setFrames (.throwing q :: below)).heap = H := hT
  refine ⟨_, st1, .threw q, hrun, hend, ?_, ?_, hW, locs, hS.2.2, q, ce, rfl, ?_, h2, h3, hsm⟩
  · rw [hh]; exact hI.moved hW.alike
  · exact hS.F hh
  · rw [hh]; exact h1
theorem V.callV (C : Cx p s m args meth c G cc nL ret own) (hM : XC l G h y ccY nLY retY (.ref b :: As) ws (.inl v) ws1) (Y : Yw y ccY nLY retY n) (hl : Cond.methodLink own i y ∈ gt) {ci N : Nat} {T : u_T} {fs : List Value} (q0 : Nat) (he : ws[q0]? = some (b, .inr (ci, fs))) (hc : classes[ci]? = some (y.cls, T, N)) (hn : As.length = n) (hstk : sk = As.reverse ++ .ref b :: rest) (hW : Nat.ble (rest.map fun v => v.category).sum 8 = true) (hR : Rok R h cells slots) (hd : decode cc pc = .ok (.invokevirtual i, 3))
    (kk : V p l e R s m args below meth c G nL cells slots Q ws1 (pc + 3) lv (v.toList ++ rest)) : V p l e R s m args below meth c G nL cells slots Q ws pc lv sk := by
  obtain ⟨hx, hb, hml, hown, hts, hr, hlk, hE, hk, hK, hns⟩ := C
  intro H locs ls hI hS hlv
  exact WcallV hx hb hml hown hts hM Y hl (va_recv hI.1 hI.2.1 (ci := ci) (q0 := q0) hc he) (fun T vm₁ hT hW => XP.at hk hK hI hS.2.1 hT hW) hn hlv.1 hstk (Nat.le_of_ble_eq_true hW) hR hd (fun H1 L k1 k2 k3 k4 => kk H1 _ ls k1 (hS.more k2 k3 k4) hlv)
theorem V.callVX (C : Cx p s m args meth c G cc nL ret own) (hM : XC l G h y ccY nLY retY (.ref b :: As) ws (.inr E) ws1) (Y : Yw y ccY nLY retY n) (hl : Cond.methodLink own i y ∈ gt) {ci N : Nat} {T : u_T} {fs : List Value} (q0 : Nat) (he : ws[q0]? = some (b, .inr (ci, fs))) (hc : classes[ci]? = some (y.cls, T, N)) (hn : As.length = n) (hstk : sk = As.reverse ++ .ref b :: rest) (hW : Nat.ble (rest.map fun v => v.category).sum 8 = true) (hR : Rok R h 0 0) (hd : decode cc pc = .ok (.invokevirtual i, 3))
    {o : Oc} (ho : o = .inr E) (hw : ws1 = ws') : V p l e R s m args below meth c G nL 0 0 (XE below G o ws' args s) ws pc lv sk := by
  subst ho; subst hw
  obtain ⟨hx, hb, hml, hown, hts, hr, hlk, hE, hk, hK, hns⟩ := C
  intro H locs ls hI hS hlv
  exact WcallVX hx hb hml hown hts hM Y hl (va_recv hI.1 hI.2.1 (ci := ci) (q0 := q0) hc he) (fun T vm₁ hT hW => XP.at hk hK hI hS.2.1 hT hW) hn hlv.1 hstk (Nat.le_of_ble_eq_true hW) hR hd (fun H1 L q ce k1 k2 k3 k4 k5 k6 k7 => VT.out hE hlk k1 (hS.more k2 k3 k4) k5 k6 k7)
theorem V.callS (C : Cx p s m args meth c G cc nL ret own) (hM : XC l G h y ccY nLY retY As ws (.inl v) ws1) (Y : Ys y ccY nLY retY n) (hl : Cond.methodLink own i y ∈ gt) (hn : As.length = n) (hstk : sk = As.reverse ++ rest) (hW : Nat.ble (rest.map fun v => v.category).sum 8 = true) (hR : Rok R h cells slots) (hd : decode cc pc = .ok (.invokestatic i, 3))
    (kk : V p l e R s m args below meth c G nL cells slots Q ws1 (pc + 3) lv (v.toList ++ rest)) : V p l e R s m args below meth c G nL cells slots Q ws pc lv sk := by
  obtain ⟨hx, hb, hml, hown, hts, hr, hlk, hE, hk, hK, hns⟩ := C
  intro H locs ls hI hS hlv
  exact WcallS hx hb hml hown hts hM Y hl (fun T vm₁ hT hW => XP.at hk hK hI hS.2.1 hT hW) hn hlv.1 hstk (Nat.le_of_ble_eq_true hW) hR hd (fun H1 L k1 k2 k3 k4 => kk H1 _ ls k1 (hS.more k2 k3 k4) hlv)
theorem V.callSX (C : Cx p s m args meth c G cc nL ret own) (hM : XC l G h y ccY nLY retY As ws (.inr E) ws1) (Y : Ys y ccY nLY retY n) (hl : Cond.methodLink own i y ∈ gt) (hn : As.length = n) (hstk : sk = As.reverse ++ rest) (hW : Nat.ble (rest.map fun v => v.category).sum 8 = true) (hR : Rok R h 0 0) (hd : decode cc pc = .ok (.invokestatic i, 3))
    {o : Oc} (ho : o = .inr E) (hw : ws1 = ws') : V p l e R s m args below meth c G nL 0 0 (XE below G o ws' args s) ws pc lv sk := by
  subst ho; subst hw
  obtain ⟨hx, hb, hml, hown, hts, hr, hlk, hE, hk, hK, hns⟩ := C
  intro H locs ls hI hS hlv
  exact WcallSX hx hb hml hown hts hM Y hl (fun T vm₁ hT hW => XP.at hk hK hI hS.2.1 hT hW) hn hlv.1 hstk (Nat.le_of_ble_eq_true hW) hR hd (fun H1 L q ce k1 k2 k3 k4 k5 k6 k7 => VT.out hE hlk k1 (hS.more k2 k3 k4) k5 k6 k7)
theorem V.callV1 {x : Value} (C : Cx p s m args meth c G cc nL ret own) (hM : XC l G h y ccY nLY retY (.ref b :: As) ws (.inl (some x)) ws1) (Y : Yw y ccY nLY retY n) (hl : Cond.methodLink own i y ∈ gt) {ci N : Nat} {T : u_T} {fs : List Value} (q0 : Nat) (he : ws[q0]? = some (b, .inr (ci, fs))) (hc : classes[ci]? = some (y.cls, T, N)) (hn : As.length = n) (hstk : sk = As.reverse ++ .ref b :: rest) (hW : Nat.ble (rest.map fun v => v.category).sum 8 = true) (hR : Rok R h cells slots) (hd : decode cc pc = .ok (.invokevirtual i, 3))
    (kk : V p l e R s m args below meth c G nL cells slots Q ws1 (pc + 3) lv (x :: rest)) : V p l e R s m args below meth c G nL cells slots Q ws pc lv sk := V.callV C hM Y hl q0 he hc hn hstk hW hR hd kk
theorem V.callV0 (C : Cx p s m args meth c G cc nL ret own) (hM : XC l G h y ccY nLY retY (.ref b :: As) ws (.inl none) ws1) (Y : Yw y ccY nLY retY n) (hl : Cond.methodLink own i y ∈ gt) {ci N : Nat} {T : u_T} {fs : List Value} (q0 : Nat) (he : ws[q0]? = some (b, .inr (ci, fs))) (hc : classes[ci]? = some (y.cls, T, N)) (hn : As.length = n) (hstk : sk = As.reverse ++ .ref b :: rest) (hW : Nat.ble (rest.map fun v => v.category).sum 8 = true) (hR : Rok R h cells slots) (hd : decode cc pc = .ok (.invokevirtual i, 3))
    (kk : V p l e R s m args below meth c G nL cells slots Q ws1 (pc + 3) lv rest) : V p l e R s m args below meth c G nL cells slots Q ws pc lv sk := V.callV C hM Y hl q0 he hc hn hstk hW hR hd kk
theorem V.callS1 {x : Value} (C : Cx p s m args meth c G cc nL ret own) (hM : XC l G h y ccY nLY retY As ws (.inl (some x)) ws1) (Y : Ys y ccY nLY retY n) (hl : Cond.methodLink own i y ∈ gt) (hn : As.length = n) (hstk : sk = As.reverse ++ rest) (hW : Nat.ble (rest.map fun v => v.category).sum 8 = true) (hR : Rok R h cells slots) (hd : decode cc pc = .ok (.invokestatic i, 3))
    (kk : V p l e R s m args below meth c G nL cells slots Q ws1 (pc + 3) lv (x :: rest)) : V p l e R s m args below meth c G nL cells slots Q ws pc lv sk := V.callS C hM Y hl hn hstk hW hR hd kk
end VC
