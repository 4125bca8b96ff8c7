/-! ===== constructors: a list of cells that grows ===== -/
def nstL : List (String × Nat × MethodName × String) := [("PascalMachine", 19, ⟨"PascalMachine$Compiler", "<init>", "()V"⟩, "PascalMachine"), ("PascalMachine$Compiler", 11, ⟨"PascalMachine$Tokens", "<init>", "()V"⟩, "PascalMachine"), ("PascalMachine$Compiler", 20, ⟨"PascalMachine$Names", "<init>", "()V"⟩, "PascalMachine"), ("PascalMachine$Compiler", 27, ⟨"PascalMachine$Code", "<init>", "()V"⟩, "PascalMachine"), ("PascalMachine", 26, ⟨"PascalMachine$Machine", "<init>", "()V"⟩, "PascalMachine"), ("PascalMachine$Machine", 13, ⟨"PascalMachine$Code", "<init>", "()V"⟩, "PascalMachine")]
theorem nstL_in : ∀ q ∈ nstL, Cond.methodLinkNest q.1 q.2.1 q.2.2.1 q.2.2.2 ∈ tables_1 := by
  have h : nstL.all (fun q => decide (Cond.methodLinkNest q.1 q.2.1 q.2.2.1 q.2.2.2 ∈ tables_1)) = true := by decide +kernel
  exact fun q hq => of_decide_eq_true (List.all_eq_true.mp h q hq)
def NSt (U : State) : Prop := va_AO R_Kd U ∧ ∀ q ∈ nstL, va_Nw (.methodLinkNest q.1 q.2.1 q.2.2.1 q.2.2.2) U
theorem NSt.warm {s U : State} (hW : s.WarmedH U.vm) (h : NSt s) : NSt U := ⟨va_AO.moved hW.alike h.1, fun q hq => va_Nw.warmM hW (h.2 q hq)⟩
theorem NSt.same {u U : State} (hv : u.vm = U.vm) (h : NSt u) : NSt U := ⟨va_AO.moved (by rw [hv]; exact Vm.Alike.refl _) h.1, fun q hq => va_Nw.same rfl hv (h.2 q hq)⟩
def CN (p : Program) (s : State) (m : MethodId) (args : Array Value) (meth : Method) (c : Code) (D : va_G) (tys : List (ClassId × FieldType)) (A : Nat → Prop) (cc : ByteArray) (nL : Nat) (own : String) : Prop :=
  p.tables.exec = Jvm.exec ∧ c.code = cc ∧ c.maxLocals = nL ∧ s.vm.findClass own = some m.cls ∧ (∀ w ∈ gt, w.before args s = true) ∧ meth.sig.returnType = none ∧ meth.locks = false ∧ meth.name = "<init>" ∧ va_K D classes tys s ∧ (∀ q : Nat, s.heap.size ≤ q → A q) ∧ NSt s
def VN (p : Program) (l : Launch) (e : Env) (R : Room) (s : State) (m : MethodId) (args : Array Value) (below : List Frame) (meth : Method) (c : Code) (D : va_G) (A : Nat → Prop) (nL : Nat) (cells slots : Nat) (Q : State → Prop) (ws : va_W) (pc : Nat) (lv : List (Nat × Value)) (sk : List Value) : Prop :=
  ∀ (H : Heap) (locs : List Loc) (ls : Array Slot), va_P D classes ws H → va_D A ws → va_S A s.heap H locs → lv_has ls nL lv → W p l e R s m args below meth c H locs cells slots Q (F0 m pc ls sk)
section NW
variable {p : Program} {l : Launch} {e : Env} {R : Room} {s : State} {m : MethodId} {args : Array Value} {below : List Frame} {meth : Method} {c : Code} {D : va_G} {tys : List (ClassId × FieldType)} {A : Nat → Prop} {nL cells slots : Nat} {Q : State → Prop} {ws ws' : va_W} {pc : Nat} {lv : List (Nat × Value)} {sk : List Value} {cc : ByteArray} {own : String}
theorem VN.aload_n (C : CN p s m args meth c D tys A cc nL own) {k : Fin 4} {x : Nat} (hd : decode cc pc = .ok (.aload_n k, 1)) (hv : lk lv k = some (.ref x)) (kk : VN p l e R s m args below meth c D A nL cells slots Q ws (pc + 1) lv (.ref x :: sk)) : VN p l e R s m args below meth c D A nL cells slots Q ws pc lv sk :=
  fun H locs ls h1 h2 h3 hl => lv_aload_n C.1 C.2.1 hd rfl (lv_lk hl hv) (kk H locs ls h1 h2 h3 hl)
theorem VN.iconst (C : CN p s m args meth c D tys A cc nL own) {n : Int} {v : Int32} (hd : decode cc pc = .ok (.iconst n, 1)) (hv : Int32.ofInt n = v) (kk : VN p l e R s m args below meth c D A nL cells slots Q ws (pc + 1) lv (.int v :: sk)) : VN p l e R s m args below meth c D A nL cells slots Q ws pc lv sk :=
  fun H locs ls h1 h2 h3 hl => lv_iconst C.1 C.2.1 hd hv (kk H locs ls h1 h2 h3 hl)
theorem VN.bipush (C : CN p s m args meth c D tys A cc nL own) {n : Int} {v : Int32} (hd : decode cc pc = .ok (.bipush n, 2)) (hv : (Int8.ofInt n).toInt32 = v) (kk : VN p l e R s m args below meth c D A nL cells slots Q ws (pc + 2) lv (.int v :: sk)) : VN p l e R s m args below meth c D A nL cells slots Q ws pc lv sk :=
  fun H locs ls h1 h2 h3 hl => lv_bipush C.1 C.2.1 hd hv (kk H locs ls h1 h2 h3 hl)
theorem VN.sipush (C : CN p s m args meth c D tys A cc nL own) {n : Int} {v : Int32} (hd : decode cc pc = .ok (.sipush n, 3)) (hv : (Int16.ofInt n).toInt32 = v) (kk : VN p l e R s m args below meth c D A nL cells slots Q ws (pc + 3) lv (.int v :: sk)) : VN p l e R s m args below meth c D A nL cells slots Q ws pc lv sk :=
  fun H locs ls h1 h2 h3 hl => lv_sipush C.1 C.2.1 hd hv (kk H locs ls h1 h2 h3 hl)
theorem VN.dup (C : CN p s m args meth c D tys A cc nL own) {a : Value} (hd : decode cc pc = .ok (.dup, 1)) (ha : a.category = 1) (kk : VN p l e R s m args below meth c D A nL cells slots Q ws (pc + 1) lv (a :: a :: sk)) : VN p l e R s m args below meth c D A nL cells slots Q ws pc lv (a :: sk) :=
  fun H locs ls h1 h2 h3 hl => lv_dup C.1 C.2.1 hd ha (kk H locs ls h1 h2 h3 hl)
theorem VN.objInit (C : CN p s m args meth c D tys A cc nL own) {i a : Nat} (hw : Cond.methodLink own i Lib.objectInit ∈ gt) (hd : decode cc pc = .ok (.invokespecial i, 3)) (hf : 1 ≤ R.frames) (hlo : 12 ≤ R.locals) (kk : VN p l e R s m args below meth c D A nL cells slots Q ws (pc + 3) lv []) : VN p l e R s m args below meth c D A nL cells slots Q ws pc lv [.ref a] := by
  obtain ⟨hx, hb, hml, hown, hts, -⟩ := C
  intro H locs ls h1 h2 h3 hl
  refine W.objInit hx hb hown (hts _ hw) (hts _ kb_io) (hts _ kb_co) rfl (by rw [hml]; exact hl.1) rfl hd hf (by show 2 * 0 + 0 + 12 ≤ R.locals; omega) ?_
  exact kk H locs ls h1 h2 h3 hl
theorem VN.newa (C : CN p s m args meth c D tys A cc nL own) {at_ : ArrayType} {ty : FieldType} (hty : newarray.typeOf at_ = ty) {cA : ClassId} {k : Nat} (hk : tys[k]? = some (cA, ty)) (hpr : ∀ c1 c2 : ClassId, va_RA s c1 ty → va_RA s c2 ty → c1 = c2) (hw : Cond.arrayClass ty ∈ gt) {n : Int32} {N' : Nat} {a0 : vp_A} (ha : ∀ cA : ClassId, vp_cell cA a0 = arrV cA N' (fun _ => defaultValue ty)) (hn : ¬ n < 0) (hN : n.toNatClampNeg = N') (hbytes : N' * componentBytes ty ≤ 536870912) (hcells : cells + 1 ≤ R.cells) (hslots : slots + N' ≤ R.slots) (hd : decode cc pc = .ok (.newarray at_, 2))
    (kk : ∀ q : Nat, VN p l e R s m args below meth c D A nL (cells + 1) (slots + N') Q (ws ++ [(q, .inl (cA, a0))]) (pc + 2) lv (.ref q :: sk)) : VN p l e R s m args below meth c D A nL cells slots Q ws pc lv (.int n :: sk) := by
  obtain ⟨hx, hb, hml, hown, hts, hr, hlk, hin, hK, hA, -⟩ := C
  intro H locs ls h1 h2 h3 hl
  refine va_newa hx hb (by rw [hty]; exact hts _ hw) hty hK h1 h2 h3 hA ha hn hN hbytes hcells hslots hd (fun q cA1 H1 hK1 hP1 hD1 hS1 => ?_)
  have e : cA1 = cA := hpr _ _ (hK1.2 tys.length (cA1, ty) (by simp)).2 (hK.2 k _ hk).2
  subst e
  exact kk q H1 locs ls hP1 hD1 hS1 hl
theorem VN.newq (C : CN p s m args meth c D tys A cc nL own) {cA : ClassId} {i k : Nat} (hk : tys[k]? = some (cA, .object R_Kd)) (hw : Cond.classLink own i R_Kd ∈ gt) {n : Int32} {N' : Nat} (hn : ¬ n < 0) (hN : n.toNatClampNeg = N') (hbytes : N' * 4 ≤ 536870912) (hcells : cells + 1 ≤ R.cells) (hslots : slots + N' ≤ R.slots) (hd : decode cc pc = .ok (.anewarray i, 3))
    (kk : ∀ q : Nat, VN p l e R s m args below meth c D A nL (cells + 1) (slots + N') Q (ws ++ [(q, .inl (cA, N', .inr (.inr (.inr (.inr (fun _ => none))))))]) (pc + 3) lv (.ref q :: sk)) : VN p l e R s m args below meth c D A nL cells slots Q ws pc lv (.int n :: sk) := by
  obtain ⟨hx, hb, hml, hown, hts, hr, hlk, hin, hK, hA, hAO⟩ := C
  intro H locs ls h1 h2 h3 hl
  refine va_newq hx hb hown (hts _ hw) hAO.1 hK h1 h2 h3 hA hn hN hbytes hcells hslots hd (fun q cA1 H1 hK1 hP1 hD1 hS1 => ?_)
  have e : cA1 = cA := by
    obtain ⟨_, _, -, -, -, e1⟩ := (hK1.2 tys.length (cA1, .object R_Kd) (by simp)).2
    obtain ⟨_, _, -, -, -, e2⟩ := (hK.2 k _ hk).2
    exact Option.some.inj (e1.symm.trans e2)
  subst e
  exact kk q H1 locs ls hP1 hD1 hS1 hl
theorem VN.putF (C : CN p s m args meth c D tys A cc nL own) {CC : String} {T : u_T} {N i : Nat} {a ci : Nat} {fs : List Value} {v : Value} {ty : FieldType} (hin : ∀ w ∈ u_ws CC T N, w ∈ gt) (ty0 : Nat → FieldType) (hty : ∀ k, k < N → parseFieldDescriptor (T k).2.2.1 = some (ty0 k)) (hnm : ∀ a, a < N → ∀ b, b < N → a ≠ b → (T a).2.1 ≠ (T b).2.1) (q0 : Nat) (he : ws[q0]? = some (a, .inr (ci, fs))) (hc : classes[ci]? = some (CC, T, N)) (k : Nat) (hkN : k < N) (hw : Cond.fieldLink own i (T k).1 (T k).2.1 (T k).2.2.1 ∈ gt) (hfin : (T k).2.2.2 = true) (hdecl : (T k).1 = own) (hde : parseFieldDescriptor (T k).2.2.1 = some ty) (hn : narrow ty v = v) (hfit : fits ty v = true) (hl0 : k < fs.length) (hws : ws.set q0 (a, .inr (ci, fs.set k v)) = ws') (hd : decode cc pc = .ok (.putfield i, 3))
    (kk : VN p l e R s m args below meth c D A nL cells slots Q ws' (pc + 3) lv sk) : VN p l e R s m args below meth c D A nL cells slots Q ws pc lv (v :: .ref a :: sk) := by
  obtain ⟨hx, hb, hml, hown, hts, hr, hlk, hin2, hK, hA, -⟩ := C
  subst hws
  intro H locs ls h1 h2 h3 hl
  exact va_putF (D := D) (cl := classes) hx hb hts hin ty0 hty hnm hown hK h1 h2 h3 q0 he hc k hkN (hts _ hw) (fun _ h => h) hfin hin2 hdecl hde hn hfit hl0 hd (fun H1 locs1 hP hD hS1 => kk H1 locs1 ls hP hD hS1 hl)
theorem VN.put (C : CN p s m args meth c D tys A cc nL own) {CC : String} {T : u_T} {N i : Nat} {a ci : Nat} {fs : List Value} {v : Value} {ty : FieldType} (hin : ∀ w ∈ u_ws CC T N, w ∈ gt) (ty0 : Nat → FieldType) (hty : ∀ k, k < N → parseFieldDescriptor (T k).2.2.1 = some (ty0 k)) (hnm : ∀ a, a < N → ∀ b, b < N → a ≠ b → (T a).2.1 ≠ (T b).2.1) (q0 : Nat) (he : ws[q0]? = some (a, .inr (ci, fs))) (hc : classes[ci]? = some (CC, T, N)) (k : Nat) (hkN : k < N) (hw : Cond.fieldLink own i (T k).1 (T k).2.1 (T k).2.2.1 ∈ gt) (hfin : (T k).2.2.2 = false) (hde : parseFieldDescriptor (T k).2.2.1 = some ty) (hn : narrow ty v = v) (hfit : fits ty v = true) (hl0 : k < fs.length) (hws : ws.set q0 (a, .inr (ci, fs.set k v)) = ws') (hd : decode cc pc = .ok (.putfield i, 3))
    (kk : VN p l e R s m args below meth c D A nL cells slots Q ws' (pc + 3) lv sk) : VN p l e R s m args below meth c D A nL cells slots Q ws pc lv (v :: .ref a :: sk) := by
  obtain ⟨hx, hb, hml, hown, hts, hr, hlk, hin2, hK, hA, -⟩ := C
  subst hws
  intro H locs ls h1 h2 h3 hl
  exact va_put (D := D) (cl := classes) hx hb hts hin ty0 hty hnm hown hK h1 h2 h3 q0 he hc k hkN (hts _ hw) (fun _ h => h) hfin hde hn hfit hl0 hd (fun H1 locs1 hP hD hS1 => kk H1 locs1 ls hP hD hS1 hl)
theorem VN.new (C : CN p s m args meth c D tys A cc nL own) {CC : String} {T : u_T} {N i ci : Nat} {fs : List Value} (hin : ∀ w ∈ u_ws CC T N, w ∈ gt) (ty0 : Nat → FieldType) (hty : ∀ k, k < N → parseFieldDescriptor (T k).2.2.1 = some (ty0 k)) (hw : Cond.classLink own i CC ∈ gt) (hinst : Cond.instantiable CC N ∈ gt) (hini : Cond.initialized CC ∈ gt) (hc : classes[ci]? = some (CC, T, N)) (hfs : ∀ j, j < N → defaultValue (ty0 j) = vp_V fs j) (hcells : cells + 1 ≤ R.cells) (hslots : slots + N ≤ R.slots) (hd : decode cc pc = .ok (.new i, 3))
    (kk : ∀ q : Nat, VN p l e R s m args below meth c D A nL (cells + 1) (slots + N) Q (ws ++ [(q, .inr (ci, fs))]) (pc + 3) lv (.ref q :: sk)) : VN p l e R s m args below meth c D A nL cells slots Q ws pc lv sk := by
  obtain ⟨hx, hb, hml, hown, hts, hr, hlk, hin2, hK, hA, -⟩ := C
  intro H locs ls h1 h2 h3 hl
  exact va_new (D := D) (cl := classes) hx hb hts hin ty0 hty hown (hts _ hw) (hts _ hinst) (hts _ hini) hK h1 h2 h3 hA hc hfs hcells hslots hd (fun q H1 hP hD hS => kk q H1 locs ls hP hD hS hl)
theorem VN.eqw (h : ws = ws') (k : VN p l e R s m args below meth c D A nL cells slots Q ws' pc lv sk) : VN p l e R s m args below meth c D A nL cells slots Q ws pc lv sk := h ▸ k
theorem VN.cnt {c1 s1 : Nat} (h1 : cells = c1) (h2 : slots = s1) (k : VN p l e R s m args below meth c D A nL c1 s1 Q ws pc lv sk) : VN p l e R s m args below meth c D A nL cells slots Q ws pc lv sk := h1 ▸ h2 ▸ k
end NW
/-- what a constructor promises: from the fields fs it makes the cells mk -/
def NC (l : Launch) (D : va_G) (tys : List (ClassId × FieldType)) (fr lo mc ms : Nat) (y : MethodName) (cc : ByteArray) (ci : Nat) (fs : List Value) (mk : Nat → (Nat → Nat) → va_W) : Prop := ∀ (b sz : Nat),
  Met l y (Cond.code y cc 1 none :: gt) { frames := fr, cells := mc, slots := ms, locals := lo } (va_Pc [.ref b] (fun U => U.heap.size = sz ∧ va_P D classes [(b, .inr (ci, fs))] U.heap ∧ va_K D classes tys U ∧ NSt U ∧ va_D (fun _ => True) [(b, .inr (ci, fs))])) (va_Qv (fun _ : Nat → Nat => True) (fun f t => va_P D classes (mk b f) t.heap ∧ va_D (va_A [(b, .inr (ci, fs))] sz) (mk b f)) (va_A [(b, .inr (ci, fs))] sz)) mc ms (va_A [(b, .inr (ci, fs))] sz)
