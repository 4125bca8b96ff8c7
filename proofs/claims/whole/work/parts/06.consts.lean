/-! ===== what is constant from the start ===== -/
def kdNames : List String := ["VAR", "PROC", "BEGIN", "END", "IF", "THEN", "ELSE", "WHILE", "DO", "WRITE", "ASSIGN", "SEMICOLON", "COMMA", "OPEN", "CLOSE", "DOT", "EQUAL", "LESS", "GREATER", "PLUS", "MINUS", "TIMES", "OVER", "REST", "AT", "NAME", "NUMBER", "NO_TOKEN", "NOTHING"]
/-- the spellings, as bytes -/
def kdSp : List (List Nat) := [[118, 97, 114], [112, 114, 111, 99], [98, 101, 103, 105, 110], [101, 110, 100], [105, 102], [116, 104, 101, 110], [101, 108, 115, 101], [119, 104, 105, 108, 101], [100, 111], [119, 114, 105, 116, 101], [58, 61], [59], [44], [40], [41], [46], [61], [60], [62], [43], [45], [42], [47], [37], [64], [], [], [], []]
/-- the table by which a switch over the kinds goes -/
def kdSw : List Nat := [0, 0, 2, 0, 3, 0, 0, 4, 0, 5, 0, 0, 0, 13, 0, 0, 6, 7, 8, 0, 0, 9, 10, 11, 0, 1, 12, 0, 0]
def spl (k : Nat) : List Nat := kdSp.getD k []
def swm (k : Nat) : Nat := kdSw.getD k 0
/-- a static that nobody writes and of which only 'a reference' is known, with all that a throw asks of it -/
def Ks (C n d : String) (A : Nat → Prop) (U : State) (H : Heap) : Prop := ∃ (c : ClassId) (k : Class) (i : Nat) (f : Field) (a : Nat) (cell : Cell) (v : Value), U.vm.findClass C = some c ∧ U.fieldFound? C n d = some (c, k, i, f) ∧ f.isStatic = true ∧ k.statics = some a ∧ H[a]? = some cell ∧ cell.vm.isStatics = true ∧ cell.cls = c ∧ f.slot < cell.slots.size ∧ k.staticTypes[f.slot]? = some f.type ∧ cell.slots[f.slot]? = some v ∧ v.isRef = true ∧ ¬ A a
theorem Ks.moved {C n d : String} {A : Nat → Prop} {u U : State} {H : Heap} (hvm : u.vm.Alike U.vm) (h : Ks C n d A u H) : Ks C n d A U H := by
  obtain ⟨c, k, i, f, a, cell, v, h1, h2, h3, h4, h5, h6, h7, h8, h9, h10⟩ := h
  obtain ⟨k', hi', he⟩ := State.fieldFound?_setVm hvm h2
  exact ⟨c, k', i, f, a, cell, v, by rw [hvm.findClass]; exact h1, hi', h3, by rw [he]; exact h4, h5, h6, h7, h8, by rw [he]; exact h9, h10⟩
theorem Ks.kept {C n d : String} {A : Nat → Prop} {U : State} {H H1 : Heap} (h : Ks C n d A U H) (hq : ∀ a : Nat, a < H.size → ¬ A a → H1[a]? = H[a]?) : Ks C n d A U H1 := by
  obtain ⟨c, k, i, f, a, cell, v, h1, h2, h3, h4, h5, h6, h7, h8, h9, h10, h11, h12⟩ := h
  exact ⟨c, k, i, f, a, cell, v, h1, h2, h3, h4, by rw [hq a (Array.getElem?_eq_some_iff.mp h5).1 h12]; exact h5, h6, h7, h8, h9, h10, h11, h12⟩
theorem Ks.lays {C n d : String} {A : Nat → Prop} {s : State} {args : Array Value} (h : Ks C n d A s s.heap) : (Cond.laysStatic C n d).before args s = true := by
  obtain ⟨c, k, i, f, a, cell, v, h1, h2, h3, h4, h5, h6, h7, h8, h9, -⟩ := h
  show (Cond.laysStatic C n d).holds args s none s [] = true
  exact Cond.laysStatic_of h1 h2 h3 h4 h5 h6 h7 h8 h9
theorem Ks.isRef {C n d : String} {A : Nat → Prop} {s : State} {args : Array Value} (h : Ks C n d A s s.heap) : (Cond.isRef (.static C n d)).before args s = true := by
  obtain ⟨c, k, i, f, a, cell, v, h1, h2, h3, h4, h5, h6, h7, h8, h9, h10, h11, -⟩ := h
  have he : (Term.static C n d).eval args s none [] s = some v := by simp [Term.eval, State.fieldNamed?, h2, h3, h4, h5, h6, h10]
  simp only [Cond.before, Cond.holds, Cond.value, he]
  cases v <;> simp_all [Value.isRef]
theorem xWords.moved {u U : State} (hvm : u.vm.Alike U.vm) (h : ∀ w ∈ xWords, w.before #[] u = true) : ∀ w ∈ xWords, w.before #[] U = true := by
  have kc : ∀ C T : String, (Cond.castable C T).before #[] u = true → (Cond.castable C T).before #[] U = true := fun C T h1 => va_tabs rfl (rfl : (u.setVm U.vm).vm = U.vm) (by rw [Cond.castable_setVm hvm]; exact h1)
  have kd : ∀ x : MethodName, (Cond.declares x).before #[] u = true → (Cond.declares x).before #[] U = true := fun x h1 => va_tabs rfl (rfl : (u.setVm U.vm).vm = U.vm) (by rw [Cond.declares_setVm hvm]; exact h1)
  intro w hw
  have h0 := h w hw
  simp only [xWords, List.mem_cons, List.not_mem_nil, or_false] at hw
  rcases hw with rfl | rfl | rfl | rfl | rfl | rfl | rfl | rfl
  · exact kc _ _ h0
  · exact kc _ _ h0
  · exact kc _ _ h0
  · exact kc _ _ h0
  · exact kc _ _ h0
  · exact kd _ h0
  · exact kd _ h0
  · exact kd _ h0
theorem xWords.use {args : Array Value} {U : State} (h : ∀ w ∈ xWords, w.before #[] U = true) : ∀ w ∈ xWords, w.before args U = true := by
  intro w hw
  have h0 := h w hw
  simp only [xWords, List.mem_cons, List.not_mem_nil, or_false] at hw
  rcases hw with rfl | rfl | rfl | rfl | rfl | rfl | rfl | rfl <;> exact va_tabs rfl rfl h0
/-- where the constants lie: the kinds, their spellings, the spellings' bytes, the switch table, the array KINDS -/
abbrev Kt : Type := (Nat → Nat) × (Nat → Nat) × (Nat → Nat) × Nat × Nat
abbrev R_Kd : String := "PascalMachine$Kind"
abbrev L_Kd : String := "LPascalMachine$Kind;"
def KK (A : Nat → Prop) (q : Kt) (U : State) (H : Heap) : Prop :=
  (∀ i : Nat, i < 29 → va_Z R_Kd (kdNames.getD i "") L_Kd (.ref (q.1 i)) A U H ∧ va_O R_Kd (q.1 i) A U H ∧ va_OF "java/lang/Enum" "ordinal" "I" (.int (nI i)) (q.1 i) A U H ∧ va_OF R_Kd "spelling" "Ljava/lang/String;" (.ref (q.2.1 i)) (q.1 i) A U H ∧
    va_O "java/lang/String" (q.2.1 i) A U H ∧ va_OF "java/lang/String" "coder" "B" (.int (nI 0)) (q.2.1 i) A U H ∧ va_OF "java/lang/String" "value" "[B" (.ref (q.2.2.1 i)) (q.2.1 i) A U H ∧ va_T .byte (q.2.2.1 i) (spl i).length (fun j => .int (nI ((spl i).getD j 0))) A U H) ∧
  va_Z "PascalMachine$1" "$SwitchMap$PascalMachine$Kind" "[I" (.ref q.2.2.2.1) A U H ∧ va_T .int q.2.2.2.1 29 (fun j => .int (nI (swm j))) A U H ∧
  va_Z "PascalMachine$Tokens" "KINDS" "[LPascalMachine$Kind;" (.ref q.2.2.2.2) A U H ∧ va_T (.object R_Kd) q.2.2.2.2 29 (fun j => .ref (q.1 j)) A U H ∧
  va_Z "java/lang/String" "COMPACT_STRINGS" "Z" (.int (nI 1)) A U H ∧ va_Zq "jdk/internal/util/Preconditions" "SIOOBE_FORMATTER" "Ljava/util/function/BiFunction;" A U H ∧
  Ks Bundle.tN "UNASSIGNED_STACK" Bundle.steD A U H ∧ Ks Bundle.tN "SUPPRESSED_SENTINEL" Bundle.listD A U H ∧ ∀ w ∈ xWords, w.before #[] U = true
theorem KK.moved {A : Nat → Prop} {q : Kt} {u U : State} {H : Heap} (hvm : u.vm.Alike U.vm) (h : KK A q u H) : KK A q U H := by
  obtain ⟨h1, h2, h3, h4, h5, h6, h7, h8, h9, h10⟩ := h
  refine ⟨fun i hi => ?_, va_Z.moved hvm h2, va_T.moved hvm h3, va_Z.moved hvm h4, va_T.moved hvm h5, va_Z.moved hvm h6, va_Zq.moved hvm h7, Ks.moved hvm h8, Ks.moved hvm h9, xWords.moved hvm h10⟩
  obtain ⟨a1, a2, a3, a4, a5, a6, a7, a8⟩ := h1 i hi
  exact ⟨va_Z.moved hvm a1, va_O.moved hvm a2, va_OF.moved hvm a3, va_OF.moved hvm a4, va_O.moved hvm a5, va_OF.moved hvm a6, va_OF.moved hvm a7, va_T.moved hvm a8⟩
theorem KK.kept {A : Nat → Prop} {q : Kt} {U : State} {H H1 : Heap} (h : KK A q U H) (hq : ∀ a : Nat, a < H.size → ¬ A a → H1[a]? = H[a]?) : KK A q U H1 := by
  obtain ⟨h1, h2, h3, h4, h5, h6, h7, h8, h9, h10⟩ := h
  refine ⟨fun i hi => ?_, h2.kept hq, h3.kept hq, h4.kept hq, h5.kept hq, h6.kept hq, h7.kept hq, h8.kept hq, h9.kept hq, h10⟩
  obtain ⟨a1, a2, a3, a4, a5, a6, a7, a8⟩ := h1 i hi
  exact ⟨a1.kept hq, a2.kept hq, a3.kept hq, a4.kept hq, a5.kept hq, a6.kept hq, a7.kept hq, a8.kept hq⟩
/-- all that is fixed: classes and slots; the array classes of int, long, char, kind; what may be written; the constants -/
abbrev Zt : Type := va_G × (ClassId × ClassId × ClassId × ClassId) × (Nat → Prop) × Kt
def Gz (z : Zt) : Gm := (z.1, [(z.2.1.1, .int), (z.2.1.2.1, .long), (z.2.1.2.2.1, .char), (z.2.1.2.2.2, .object R_Kd)], z.2.2.1, KK z.2.2.1 z.2.2.2)
theorem Gz_ok (z : Zt) : Kok (Gz z) := ⟨fun _ _ _ hq h => KK.kept h hq, fun _ _ _ hvm h => KK.moved hvm h⟩
/-- the address of the kind k -/
def ek (z : Zt) (k : Nat) : Nat := z.2.2.2.1 k
theorem ek_inj {z : Zt} {U : State} {H : Heap} (h : KK z.2.2.1 z.2.2.2 U H) {i j : Nat} (hi : i < 29) (hj : j < 29) (he : ek z i = ek z j) : i = j := by
  obtain ⟨cf, k, x, f, cell, q1, q2, q3, q4, q5, -⟩ := (h.1 i hi).2.2.1
  obtain ⟨cf', k', x', f', cell', r1, r2, r3, r4, r5, -⟩ := (h.1 j hj).2.2.1
  cases q1.symm.trans r1
  have e1 : z.2.2.2.1 i = z.2.2.2.1 j := he
  rw [e1] at q3
  cases q3.symm.trans r3
  have e2 := q5.symm.trans r5
  have e3 : nI i = nI j := by injection e2 with e2; injection e2
  exact (nI_eq (by omega) (by omega)).mp e3
section VK
variable {p : Program} {l : Launch} {e : Env} {R : Room} {s : State} {m : MethodId} {args : Array Value} {below : List Frame} {meth : Method} {c : Code} {z : Zt} {nL cells slots : Nat} {Q : State → Prop} {ws ws' : va_W} {pc : Nat} {lv lv' : List (Nat × Value)} {sk rest : List Value}
variable {cc : ByteArray} {ret : Option FieldType} {own : String}
theorem Cx.kk {G : Gm} (C : Cx p s m args meth c G cc nL ret own) : G.2.2.2 s s.heap := C.2.2.2.2.2.2.2.2.2.1
theorem V.getK (C : Cx p s m args meth c (Gz z) cc nL ret own) {i : Nat} (k : Nat) (hk0 : k < 29) (hw : Cond.fieldLink own i R_Kd (kdNames.getD k "") L_Kd ∈ gt) (hd : decode cc pc = .ok (.getstatic i, 3)) (kk : V p l e R s m args below meth c (Gz z) nL cells slots Q ws (pc + 3) lv (.ref (ek z k) :: sk)) : V p l e R s m args below meth c (Gz z) nL cells slots Q ws pc lv sk := by
  have hK0 : KK z.2.2.1 z.2.2.2 s s.heap := C.kk
  obtain ⟨hx, hb, hml, hown, hts, hr, hlk, hE, hk, hK, hns⟩ := C
  intro H locs ls hI hS hl
  exact va_gets (A := (Gz z).2.2.1) hx hb (hK0.1 k hk0).1 hS hown (hts _ hw) (fun _ h => h) hd (kk H locs ls hI hS hl)
theorem V.getSw (C : Cx p s m args meth c (Gz z) cc nL ret own) {i : Nat} (hw : Cond.fieldLink own i "PascalMachine$1" "$SwitchMap$PascalMachine$Kind" "[I" ∈ gt) (hd : decode cc pc = .ok (.getstatic i, 3)) (kk : V p l e R s m args below meth c (Gz z) nL cells slots Q ws (pc + 3) lv (.ref z.2.2.2.2.2.2.1 :: sk)) : V p l e R s m args below meth c (Gz z) nL cells slots Q ws pc lv sk := by
  have hK0 : KK z.2.2.1 z.2.2.2 s s.heap := C.kk
  obtain ⟨hx, hb, hml, hown, hts, hr, hlk, hE, hk, hK, hns⟩ := C
  intro H locs ls hI hS hl
  exact va_gets (A := (Gz z).2.2.1) hx hb hK0.2.1 hS hown (hts _ hw) (fun _ h => h) hd (kk H locs ls hI hS hl)
theorem V.ldSw (C : Cx p s m args meth c (Gz z) cc nL ret own) {k : Nat} (hk0 : k < 29) (hd : decode cc pc = .ok (.iaload, 1)) (kk : V p l e R s m args below meth c (Gz z) nL cells slots Q ws (pc + 1) lv (.int (nI (swm k)) :: sk)) : V p l e R s m args below meth c (Gz z) nL cells slots Q ws pc lv (.int (nI k) :: .ref z.2.2.2.2.2.2.1 :: sk) := by
  have hK0 : KK z.2.2.1 z.2.2.2 s s.heap := C.kk
  obtain ⟨hx, hb, hml, hown, hts, hr, hlk, hE, hk, hK, hns⟩ := C
  intro H locs ls hI hS hl
  exact va_ti (A := (Gz z).2.2.1) hx hb hK0.2.2.1 hS (vp_in_nI hk0 (by omega)) (by rw [nI_clamp (by omega)]) hd (kk H locs ls hI hS hl)
theorem V.getKs (C : Cx p s m args meth c (Gz z) cc nL ret own) {i : Nat} (hw : Cond.fieldLink own i "PascalMachine$Tokens" "KINDS" "[LPascalMachine$Kind;" ∈ gt) (hd : decode cc pc = .ok (.getstatic i, 3)) (kk : V p l e R s m args below meth c (Gz z) nL cells slots Q ws (pc + 3) lv (.ref z.2.2.2.2.2.2.2 :: sk)) : V p l e R s m args below meth c (Gz z) nL cells slots Q ws pc lv sk := by
  have hK0 : KK z.2.2.1 z.2.2.2 s s.heap := C.kk
  obtain ⟨hx, hb, hml, hown, hts, hr, hlk, hE, hk, hK, hns⟩ := C
  intro H locs ls hI hS hl
  exact va_gets (A := (Gz z).2.2.1) hx hb hK0.2.2.2.1 hS hown (hts _ hw) (fun _ h => h) hd (kk H locs ls hI hS hl)
theorem V.lenKs (C : Cx p s m args meth c (Gz z) cc nL ret own) (hd : decode cc pc = .ok (.arraylength, 1)) (kk : V p l e R s m args below meth c (Gz z) nL cells slots Q ws (pc + 1) lv (.int (nI 29) :: sk)) : V p l e R s m args below meth c (Gz z) nL cells slots Q ws pc lv (.ref z.2.2.2.2.2.2.2 :: sk) := by
  have hK0 : KK z.2.2.1 z.2.2.2 s s.heap := C.kk
  obtain ⟨hx, hb, hml, hown, hts, hr, hlk, hE, hk, hK, hns⟩ := C
  intro H locs ls hI hS hl
  exact va_tlen (A := (Gz z).2.2.1) hx hb hK0.2.2.2.2.1 hS rfl hd (kk H locs ls hI hS hl)
theorem V.ldKs (C : Cx p s m args meth c (Gz z) cc nL ret own) {k : Nat} (hk0 : k < 29) (hd : decode cc pc = .ok (.aaload, 1)) (kk : V p l e R s m args below meth c (Gz z) nL cells slots Q ws (pc + 1) lv (.ref (ek z k) :: sk)) : V p l e R s m args below meth c (Gz z) nL cells slots Q ws pc lv (.int (nI k) :: .ref z.2.2.2.2.2.2.2 :: sk) := by
  have hK0 : KK z.2.2.1 z.2.2.2 s s.heap := C.kk
  obtain ⟨hx, hb, hml, hown, hts, hr, hlk, hE, hk, hK, hns⟩ := C
  intro H locs ls hI hS hl
  exact vb_tq (A := (Gz z).2.2.1) hx hb hK0.2.2.2.2.1 hS (vp_in_nI hk0 (by omega)) (by rw [nI_clamp (by omega)]; rfl) hd (kk H locs ls hI hS hl)
theorem V.getSp (C : Cx p s m args meth c (Gz z) cc nL ret own) {i k : Nat} (hk0 : k < 29) (hw : Cond.fieldLink own i R_Kd "spelling" "Ljava/lang/String;" ∈ gt) (hd : decode cc pc = .ok (.getfield i, 3)) (kk : V p l e R s m args below meth c (Gz z) nL cells slots Q ws (pc + 3) lv (.ref (z.2.2.2.2.1 k) :: sk)) : V p l e R s m args below meth c (Gz z) nL cells slots Q ws pc lv (.ref (ek z k) :: sk) := by
  have hK0 : KK z.2.2.1 z.2.2.2 s s.heap := C.kk
  obtain ⟨hx, hb, hml, hown, hts, hr, hlk, hE, hk, hK, hns⟩ := C
  intro H locs ls hI hS hl
  exact vk_getf (A := (Gz z).2.2.1) hx hb (hK0.1 k hk0).2.2.2.1 hS hown (hts _ hw) (fun _ h => h) hd (kk H locs ls hI hS hl)
/-- the same walk, as if the method had been called just now: nothing written yet -/
theorem stand_anew {T : State} {locs : List Loc} (X : Stand p l e R s m args below meth c T locs 0 0) : Stand p l e R ((T.setVm s.vm).setFrames (.invoking m args :: below)) m args below meth c T [] 0 0 := by
  obtain ⟨g₀, hfr⟩ := X.frames_eq
  have hcur : T.cur < T.threads.size := State.cur_lt_of_frames hfr
  have hF : ((T.setVm s.vm).setFrames (.invoking m args :: below)).frames = .invoking m args :: below := State.frames_setFrames _ hcur
  have hsz : T.heap.size ≤ s.heap.size := X.heapSize
  have hus : T.slotsUsed ≤ s.slotsUsed := X.used
  have hme : e.platform.stackLimits ((T.setVm s.vm).setFrames (.invoking m args :: below)).me = e.platform.stackLimits s.me := by
    rw [State.stackLimits_setFrames]; exact X.limits
  have hby : ((T.setVm s.vm).setFrames (.invoking m args :: below)).me.stackBytes = s.me.stackBytes := by
    rw [State.stackBytes_setFrames]; exact X.bytes
  have hroom : ((T.setVm s.vm).setFrames (.invoking m args :: below)).hasRoom e.platform R = true := by
    have hr := X.room
    have hlu : ((T.setVm s.vm).setFrames (.invoking m args :: below)).localsInUse = s.localsInUse := by
      rw [State.localsInUse_invoking hF (meth := meth) (c := c) X.method X.code, State.localsInUse_invoking X.frames X.method X.code]
    unfold State.hasRoom at hr ⊢
    rw [hF, hlu, hme, hby]
    rw [X.frames] at hr
    simp only [Bool.and_eq_true, decide_eq_true_eq] at hr ⊢
    obtain ⟨⟨⟨⟨r1, r2⟩, r3⟩, r4⟩, r5⟩ := hr
    refine ⟨⟨⟨⟨r1, r2⟩, ?_⟩, ?_⟩, X.book⟩
    · show T.heap.size + R.cells ≤ _
      omega
    · show T.slotsUsed + R.slots ≤ _
      omega
  refine ⟨X.admits, X.cas, X.clock, hF, hroom, X.hears, X.method, X.code, X.here, X.tail, X.warmed, X.limits.trans hme.symm, X.bytes.trans hby.symm, ?_⟩
  have hdrop : T.heap.toList.drop T.heap.size = [] := List.drop_eq_nil_of_le (by rw [Array.length_toList]; exact Nat.le_refl _)
  refine ⟨?_, Nat.le_refl _, Nat.le_refl _, ?_, ?_, fun a c9 h9 => ⟨c9, h9, rfl, rfl, fun _ _ => rfl⟩⟩
  · obtain ⟨th, hth, -⟩ := State.frames_cons hfr
    show T.setVm s.vm = { ((T.setVm s.vm).setFrames (.invoking m args :: below)).setFrames (T.setVm s.vm).frames with heap := T.heap, slotsUsed := T.slotsUsed }
    rw [State.setFrames_setFrames, State.setFrames_self (s := T.setVm s.vm) hth]
    rfl
  · show T.slotsUsed = T.slotsUsed + ((T.heap.toList.drop T.heap.size).map (·.slots.size)).sum
    rw [hdrop]; rfl
  · show ((T.heap.toList.drop T.heap.size).map (·.slots.size)).sum ≤ 0
    rw [hdrop]; exact Nat.le_refl _
/-- 'throw new E()': new, dup, invokespecial, athrow -/
theorem V.throw0 (C : Cx p s m args meth c (Gz z) cc nL ret own) (hlt : l.stackTraces = false) {cls : String} {names : List String} {ik ic : Nat} (hcls : Bundle.fit cls = true) (hnames : ∀ n ∈ names, Bundle.fit n = true) (hk1 : Cond.classLink own ik cls ∈ gt) (hi1 : Cond.initialized cls ∈ gt)
    (hat : (Bundle.ownAtoms0 own ic cls names).all oaB = true)
    (d0 : decode cc pc = .ok (.new ik, 3)) (d3 : decode cc (pc + 3) = .ok (.dup, 1)) (d4 : decode cc (pc + 4) = .ok (.invokespecial ic, 3)) (d7 : decode cc (pc + 7) = .ok (.athrow, 1))
    (hf : names.length + 3 < R.frames) (hlo : (sk.map fun v => v.category).sum + (13 * (names.length + 1) + 42) ≤ R.locals) (hc1 : 1 ≤ R.cells) (hs1 : 6 ≤ R.slots) {o : Oc} (ho : o = .inr cls) (hw : ws = ws') : V p l e R s m args below meth c (Gz z) nL 0 0 (XE below (Gz z) o ws' args s) ws pc lv sk := by
  subst ho; subst hw
  have hK0 : KK z.2.2.1 z.2.2.2 s s.heap := C.kk
  obtain ⟨hx, hb, hml, hown, hts, hr, hlk, hE, hk, hK, hns⟩ := C
  intro H locs ls hI hS hl T hT X
  have htr : e.platform.stackTraces = false := (show e.platform.stackTraces = l.stackTraces by rw [X.admits.platform]).trans hlt
  have Y := stand_anew X
  obtain ⟨s', hs'⟩ : ∃ q, q = (T.setVm s.vm).setFrames (.invoking m args :: below) := ⟨_, rfl⟩
  rw [← hs'] at Y
  have hvm : s'.vm = s.vm := by rw [hs']; rfl
  have hhp : s'.heap = H := by rw [hs']; exact hT
  have hW0 : s.WarmedH s'.vm := by rw [hvm]; exact State.WarmedH.refl s
  have hts' : ∀ w ∈ gt, w.before args s' = true := fun w hw => word_at hW0 (gt_good w hw) (hts w hw)
  have hown' : s'.vm.findClass own = some m.cls := by rw [hvm]; exact hown
  have hK1 : KK z.2.2.1 z.2.2.2 s' s'.heap := by
    rw [hhp]; exact KK.moved hW0.alike (hK0.kept hS.2.1)
  have hall : ∀ w ∈ Bundle.ownAtoms0 own ic cls names, w.before args s' = true := by
    intro w hw
    have h1 := List.all_eq_true.mp hat w hw
    simp only [oaB, Bool.or_eq_true, Bool.and_eq_true, decide_eq_true_eq] at h1
    rcases h1 with ((((⟨h, hg⟩ | h) | h) | h) | h) | h
    · exact hts' w (List.mem_filter.mpr ⟨h, hg⟩)
    · exact xWords.use hK1.2.2.2.2.2.2.2.2.2 w h
    · rw [h]; exact hK1.2.2.2.2.2.2.2.1.isRef
    · rw [h]; exact hK1.2.2.2.2.2.2.2.2.1.isRef
    · rw [h]; exact hK1.2.2.2.2.2.2.2.1.lays
    · rw [h]; exact hK1.2.2.2.2.2.2.2.2.1.lays
  have hins : (Cond.instantiable cls 6).before args s' = true := hall _ (by simp [Bundle.ownAtoms0])
  obtain ⟨vm₁, cX, kX, hfX, hkX, -, -, X₁, st1⟩ := Y.newCold hx (own := own) (C := cls) (index := ik) (n := 6) hown' (hts' _ hk1) hins (hts' _ hi1) (g := F0 m pc ls sk) rfl (by rw [hb]; exact d0) (by omega) (by omega)
  generalize hT1 : (T.setVm vm₁).pushCell { cls := cX, slots := kX.instanceTypes.map defaultValue, vm := .none } = T1 at X₁ st1
  have hcellA : T1.heap[T.heap.size]? = some (freshCell cX kX) := by rw [← hT1]; exact State.heap_pushCell_size _ _
  have hout : ∀ x ∈ c.exceptionTable.toList, covers x (pc + 4 + 3) = false := by
    intro x hx'
    rw [Array.isEmpty_iff] at hE
    rw [hE] at hx'
    cases hx'
  have hcat : (Value.ref T.heap.size).category = 1 := rfl
  have d3' : decode c.code (pc + 3) = .ok (.dup, 1) := by rw [hb]; exact d3
  obtain ⟨U, hsteps, hrun, hend, hW, hsame, ce, hce, hO⟩ := X₁.ctorThrow0 hx htr (own := own) (cls := cls) (names := names) (ic := ic) hown' hcls hnames hall (fun x hx' => nomatch hx') hfX hkX hcellA (by rw [hhp, hT]; exact Nat.le_refl _)
    (g := { method := m, pc := pc + 4, locals := ls, stack := .ref T.heap.size :: .ref T.heap.size :: sk, locked := none }) rfl (by rw [hml]; exact hl.1) rfl rfl (rest := sk) rfl
    (by rw [hb]; exact d4) (by rw [hb]; exact d7) hout hf (by simp only [List.map_cons, List.sum_cons, hcat]; show 2 * 0 + _ + _ ≤ _; omega) hlk
  have hold : H.size ≤ U.heap.size ∧ ∀ q : Nat, q < H.size → U.heap[q]? = H[q]? := by
    obtain ⟨-, q2, -, -, -, q6⟩ := hsame
    rw [hhp] at q2 q6
    refine ⟨q2, fun q hq => ?_⟩
    obtain ⟨c9, e1, e2, e3, e4⟩ := q6 q _ (Array.getElem?_eq_getElem hq)
    have hs9 : c9.slots = (H[q]).slots := Array.ext_getElem? fun i => e4 i (fun hm => nomatch hm)
    have hc9 : c9 = H[q] := by rw [hs9] at e2; exact e2
    have e5 : U.heap[q]? = some c9 := e1
    rw [e5, hc9, Array.getElem?_eq_getElem hq]
  have hWs : s.WarmedH U.vm := State.WarmedH.trans hW0 hW
  have hsm : s.sameButNew ({ U with vm := s.vm } : State) locs 1 6 := by
    obtain ⟨e1, e2⟩ := hsame
    rw [hs', State.setFrames_setFrames] at e1
    rw [hs'] at e2
    have h2 : (T.setVm s.vm).sameButNew ({ U with vm := s.vm } : State) [] (0 + 1) (0 + 6) := ⟨e1, e2⟩
    have h3 := X.same.trans h2
    rw [List.append_nil] at h3
    exact h3
  have hKI : KI (Gz z) ws U U.heap := by
    refine KI.moved hWs.alike ⟨hI.1, ?_, hI.2.2⟩
    exact hI.2.1.kept fun k q hk => hold.2 _ (hI.2.1 k q hk).lt
  have hSU : va_S (Gz z).2.2.1 s.heap U.heap locs := ⟨Nat.le_trans hS.1 hold.1, fun q h1 h2 => (hold.2 q (Nat.lt_of_lt_of_le h1 hS.1)).trans (hS.2.1 q h1 h2), hS.2.2⟩
  have hcl : s.vm.findClass cls = some ce.cls := by rw [← hvm]; exact hO.cls
  refine ⟨U, ?_, .threw T.heap.size, hrun, hend, hKI, hSU.F rfl, hWs, locs, hS.2.2, T.heap.size, ce, rfl, hce, hO.vm, hcl, hsm⟩
  refine st1 _ ?_
  show Steps p.tables e below (T1.setTop { method := m, pc := pc + 3, locals := ls, stack := .ref T.heap.size :: sk, locked := none }) _
  jvm_step X₁.here [X₁.here.top, hx, d3', Value.category]
  exact hsteps
end VK
