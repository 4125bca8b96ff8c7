/-! ===== what is caught: the handlers' classes may be met for the first time ===== -/
theorem go_cold {e : Env} {s : State} {f : JFrame} {a : Addr} {Q : Handler → Pre} {E : CtlPost} {d : Bool} {acts : List Action} {x : ExceptionTableEntry} {t : List ExceptionTableEntry} {c : ClassId} {vm' : Vm} {cell : Cell} (hx : covers x f.pc = true) (h0 : x.catchType ≠ 0)
    (hg : (Jvm.resolveClass f.method.cls x.catchType).Gives e.toSetting s.vm (.ok c) vm') (hsz : vm'.classes.size ≤ s.vm.classes.size) (hcell : s.heap[a]? = some cell) (hobj : ∀ k, cell.vm ≠ .statics k) (hk : ∃ k, vm'.classes[cell.cls]? = some k) (hc : ∃ k, vm'.classes[c]? = some k) :
    wp (findHandler.go f a (x :: t)) Q E e d acts s ↔ if vm'.assignable cell.cls c = true then Q (.found x.handlerPc) d acts (s.setVm vm') else wp (findHandler.go f a t) Q E e d acts (s.setVm vm') := by
  simp only [covers] at hx
  obtain ⟨ha, ht⟩ := hg.op (op := VmOp.resolveClass f.method.cls x.catchType) rfl
  cases hfit : vm'.assignable cell.cls c <;>
    simp [findHandler.go, hx, h0, ha, ht, hsz, hcell, hobj, hk, hc, hfit, VmOp.dirties, VmOp.acts]
/-- the entries of a table: passed by an object of class E, or its own -/
def Hpass (own E : String) (args : Array Value) (s : State) (nm : Nat → String) (x : ExceptionTableEntry) : Prop := x.catchType ≠ 0 ∧ (Cond.classLink own x.catchType (nm x.catchType)).before args s = true ∧ va_Nc E (nm x.catchType) s
def Hfit (own E : String) (args : Array Value) (s : State) (nm : Nat → String) (x : ExceptionTableEntry) : Prop := x.catchType ≠ 0 ∧ (Cond.classLink own x.catchType (nm x.catchType)).before args s = true ∧ nm x.catchType = E ∧ va_Nw (.castable E E) s
section CT
variable {p : Program} {l : Launch} {e : Env} {R : Room} {s : State} {m : MethodId} {args : Array Value} {below : List Frame} {meth : Method} {c : Code} {locs : List Loc} {cells slots : Nat}
theorem go_table {own E : String} {nm : Nat → String} {a : Addr} {cell : Cell} {x : ExceptionTableEntry} {f : JFrame} (hf : f.method = m) (hown : s.vm.findClass own = some m.cls) (hobj : cell.vm = .none) (hcls : s.vm.findClass E = some cell.cls) (hfit : Hfit own E args s nm x) (hx : covers x f.pc = true) (post : List ExceptionTableEntry) :
    ∀ (pre : List ExceptionTableEntry), (∀ y ∈ pre, covers y f.pc = true ∧ Hpass own E args s nm y) → ∀ (T : State), Stand p l e R s m args below meth c T locs cells slots → T.heap[a]? = some cell →
    ∃ vm', s.WarmedH vm' ∧ ∀ (Q : Handler → Pre) (E : CtlPost) (d : Bool) (acts : List Action) (S : State), S.vm = T.vm → S.heap = T.heap → (wp (findHandler.go f a (pre ++ x :: post)) Q E e d acts S ↔ Q (.found x.handlerPc) d acts (S.setVm vm')) := by
  have hobj' : ∀ k, cell.vm ≠ .statics k := fun k h => by rw [hobj] at h; cases h
  obtain ⟨ks, hks, -⟩ := Vm.findClass_spec hcls
  subst hf
  intro pre
  induction pre with
  | nil =>
    intro _ T X hcell
    obtain ⟨h0, hlink, hnm, hcast⟩ := hfit
    have hpl : e.platform.magicAccessors = ({} : Platform).magicAccessors := by rw [X.admits.platform]
    obtain ⟨c', hc', hcl⟩ := Cond.classLink_spec hown hlink e.platform hpl
    obtain ⟨c0, t0, f1, f2, f3⟩ := Cond.castable_spec hcast
    rw [hnm] at hc'
    cases hcls.symm.trans f1
    cases f2.symm.trans hc'
    obtain ⟨dk, _, _, kt, hd, _, _, _, _, hkt, _, hopen⟩ := hcl.here
    have hcl₀ := X.warmed.classLinks hcl
    have hW' : s.WarmedH (T.vm.noted f.method.cls x.catchType (.cls c')) := X.warmed.noted hd hopen (State.rightAt_cls hcl)
    obtain ⟨ks', hks', -⟩ := hW'.alike.2.2 _ _ hks
    obtain ⟨kt', hkt', -⟩ := hW'.alike.2.2 _ _ hkt
    refine ⟨_, hW', fun Q E d acts S h1 h2 => ?_⟩
    rw [List.nil_append, go_cold (s := S) (cell := cell) hx h0 (by rw [h1]; exact resolveClass_links e.toSetting hcl₀) (by rw [h1, Vm.size_noted]; exact Nat.le_refl _) (by rw [h2]; exact hcell) hobj' ⟨ks', hks'⟩ ⟨kt', hkt'⟩, if_pos (by rw [hW'.alike.assignable]; exact f3)]
  | cons y pre ih =>
    intro hpre T X hcell
    obtain ⟨hy, h0, hlink, hno⟩ := hpre y List.mem_cons_self
    have hpl : e.platform.magicAccessors = ({} : Platform).magicAccessors := by rw [X.admits.platform]
    obtain ⟨c', hc', hcl⟩ := Cond.classLink_spec hown hlink e.platform hpl
    obtain ⟨c0, t0, f1, f2, f3⟩ := hno
    cases hcls.symm.trans f1
    cases f2.symm.trans hc'
    obtain ⟨dk, _, _, kt, hd, _, _, _, _, hkt, _, hopen⟩ := hcl.here
    have hcl₀ := X.warmed.classLinks hcl
    have hW' : s.WarmedH (T.vm.noted f.method.cls y.catchType (.cls c')) := X.warmed.noted hd hopen (State.rightAt_cls hcl)
    obtain ⟨ks', hks', -⟩ := hW'.alike.2.2 _ _ hks
    obtain ⟨kt', hkt', -⟩ := hW'.alike.2.2 _ _ hkt
    obtain ⟨vm2, hW2, k2⟩ := ih (fun z hz => hpre z (List.mem_cons_of_mem _ hz)) (T.setVm (T.vm.noted f.method.cls y.catchType (.cls c'))) (X.noted hW') hcell
    refine ⟨vm2, hW2, fun Q E d acts S h1 h2 => ?_⟩
    rw [List.cons_append, go_cold (s := S) (cell := cell) hy h0 (by rw [h1]; exact resolveClass_links e.toSetting hcl₀) (by rw [h1, Vm.size_noted]; exact Nat.le_refl _) (by rw [h2]; exact hcell) hobj' ⟨ks', hks'⟩ ⟨kt', hkt'⟩, if_neg (by rw [hW'.alike.assignable, f3]; decide)]
    exact k2 Q E d acts (S.setVm _) rfl h2
end CT
