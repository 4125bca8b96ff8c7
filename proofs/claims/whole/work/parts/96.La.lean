/-! ===== the law's helpers: one call, what it throws is caught ===== -/
def exN : List String := [IAE, ISE, NSE, ARE, IOE]
def NCs (U : State) : Prop := ∀ A ∈ exN, va_Nw (.castable A A) U ∧ ∀ B ∈ exN, A ≠ B → va_Nc A B U
theorem NCs.warm {s U : State} (hW : s.WarmedH U.vm) (h : NCs s) : NCs U := fun A hA => ⟨va_Nw.warmC hW (h A hA).1, fun B hB hne => ((h A hA).2 B hB hne).moved hW.alike⟩
theorem NCs.same {u U : State} (hv : u.vm = U.vm) (h : NCs u) : NCs U := fun A hA => ⟨va_Nw.same rfl hv (h A hA).1, fun B hB hne => ((h A hA).2 B hB hne).moved (by rw [hv]; exact Vm.Alike.refl _)⟩
def outE (z : Zt) (g : Nat → Int64) : va_E := .inl (z.2.1.2.1, 1, .inr (.inl g))
def LA (z : Zt) (o : Nat) : Nat → Prop := fun q => z.2.2.1 q ∨ q = o
def LPr (z : Zt) (o : Nat) (ws : va_W) (U : State) : Prop := XP (Gz z) ws U ∧ (∃ g, va_at z.1 classes (o, outE z g) U.heap) ∧ ¬ z.2.2.1 o ∧ NCs U
def LQ (z : Zt) (o : Nat) (k : Nat) (r : Int64) (ws' : va_W) : Array Value → State → Outcome → State → Prop := fun _ s0 oc t => oc = .returned (some (.int (nI k))) ∧ KI (Gz z) ws' t t.heap ∧ (∃ g, va_at z.1 classes (o, outE z g) t.heap ∧ (k = 0 → g 0 = r)) ∧ va_F (LA z o) s0 t
/-- what a helper promises -/
def LC (l : Launch) (z : Zt) (h : Nat) (y : MethodName) (cc : ByteArray) (nL : Nat) (hh : List (Nat × Nat × Nat × Nat)) (av : List Value) (ws : va_W) (o : Nat) (k : Nat) (r : Int64) (ws' : va_W) : Prop :=
  Met l y (Cond.codeWith y cc nL (some .int) hh :: gt) (Rm h) (va_Pc av (LPr z o ws)) (LQ z o k r ws') 1 6 (LA z o)
def HC (p : Program) (s : State) (m : MethodId) (args : Array Value) (meth : Method) (c : Code) (z : Zt) (cc : ByteArray) (nL : Nat) (hh : List (Nat × Nat × Nat × Nat)) (o : Nat) : Prop :=
  p.tables.exec = Jvm.exec ∧ c.code = cc ∧ c.maxLocals = nL ∧ s.vm.findClass "PascalMachineLaw" = some m.cls ∧ (∀ w ∈ gt, w.before args s = true) ∧ meth.sig.returnType = some .int ∧ meth.locks = false ∧ c.exceptionTable.toList.map (fun h => (h.startPc, h.endPc, h.handlerPc, h.catchType)) = hh ∧ KK z.2.2.1 z.2.2.2 s s.heap ∧ ¬ z.2.2.1 o ∧ NCs s
section LA
variable {l : Launch} {z : Zt}
theorem LC.of {h nL o k : Nat} {y : MethodName} {cc : ByteArray} {hh : List (Nat × Nat × Nat × Nat)} {av : List Value} {ws ws' : va_W} {r : Int64} (hy : plainName y.cls = true) (hyc : y.cls = "PascalMachineLaw") (hlen : Nat.ble (lg_sl av).length nL = true)
    (body : ∀ (p : Program) (e : Env) (s : State) (m : MethodId) (below : List Frame) (meth : Method) (c : Code) (ls : Array Slot) (g : Nat → Int64), HC p s m av.toArray meth c z cc nL hh o → KI (Gz z) ws s s.heap → va_at z.1 classes (o, outE z g) s.heap → lv_has ls nL (lv_args 0 av) → W p l e (Rm h) s m av.toArray below meth c s.heap [] 0 0 (MQ below (LQ z o k r ws') av.toArray s 1 6 (LA z o)) (F0 m 0 ls [])) :
    LC l z h y cc nL hh av ws o k r ws' := by
  refine va_MetW (hh := hh) (cc := cc) (maxL := nL) (ret := some .int) hy rfl ?_
  intro p e s m args below meth c s₁ B hml hv
  obtain ⟨rfl, ⟨hk, hI, hK⟩, ⟨g, hg⟩, hno, hnc⟩ := hv
  have hts0 := atoms_spec (ws := Cond.codeWith y cc nL (some .int) hh :: gt) B.pre
  obtain ⟨m9, meth9, c9, hn9, h1, h2, h3, h4, h5, h6, h7, -⟩ := Cond.codeWith_spec (hts0 _ List.mem_cons_self)
  cases B.named.symm.trans hn9
  cases B.method.symm.trans h1
  cases (Stand.of_body B).code.symm.trans h2
  have hl := lv_entry av (n := nL) (Nat.le_of_ble_eq_true hlen)
  rw [lg_entry_eq]
  exact body p e s m below meth c _ g ⟨B.exec, B.bytes, hml, by rw [← hyc]; exact findClass_of_methodNamed B.named, fun w hw => hts0 w (List.mem_cons_of_mem _ hw), B.returns, B.notSynchronized, h5, hK, hno, hnc⟩ hI hg hl
variable {p : Program} {e : Env} {R : Room} {s : State} {m : MethodId} {args : Array Value} {below : List Frame} {meth : Method} {c : Code} {H : Heap} {locs : List Loc} {cells slots : Nat} {ws ws' ws1 : va_W} {pc : Nat} {ls : Array Slot} {cc : ByteArray} {nL o : Nat} {hh : List (Nat × Nat × Nat × Nat)}
theorem KI.join {en : va_E} (hI : KI (Gz z) ws s H) (ho : va_at z.1 classes (o, en) H) (hn : ¬ z.2.2.1 o) : va_P z.1 classes (ws ++ [(o, en)]) H ∧ va_D (LA z o) (ws ++ [(o, en)]) := by
  have key : ∀ (k : Nat) (x : Nat × va_E), (ws ++ [(o, en)])[k]? = some x → (k < ws.length ∧ ws[k]? = some x) ∨ (k = ws.length ∧ x = (o, en)) := by
    intro k x hx
    by_cases hk : k < ws.length
    · rw [List.getElem?_append_left hk] at hx; exact Or.inl ⟨hk, hx⟩
    · rw [List.getElem?_append_right (by omega)] at hx
      have h1 : k - ws.length < 1 := (List.getElem?_eq_some_iff.mp hx).1
      have h2 : k = ws.length := by omega
      subst h2
      rw [Nat.sub_self] at hx
      exact Or.inr ⟨rfl, (Option.some.inj hx).symm⟩
  refine ⟨fun k x hx => ?_, fun i j a b hi hj hab => ?_, fun k x hx => ?_⟩
  · rcases key k x hx with ⟨-, h⟩ | ⟨-, h⟩
    · exact hI.2.1 k x h
    · rw [h]; exact ho
  · rcases key i a hi with ⟨h1, h2⟩ | ⟨h1, h2⟩ <;> rcases key j b hj with ⟨h3, h4⟩ | ⟨h3, h4⟩
    · exact hI.2.2.1.1 i j a b h2 h4 hab
    · exact absurd (hI.2.2.1.2 i a h2) (by rw [hab, h4]; exact hn)
    · exact absurd (hI.2.2.1.2 j b h4) (by rw [← hab, h2]; exact hn)
    · omega
  · rcases key k x hx with ⟨-, h⟩ | ⟨-, h⟩
    · exact Or.inl (hI.2.2.1.2 k x h)
    · rw [h]; exact Or.inr rfl
theorem KI.split {en : va_E} {H1 : Heap} (hI : KI (Gz z) ws s H) (hP : va_P z.1 classes (ws ++ [(o, en)]) H1) : KI (Gz z) ws s H1 ∧ va_at z.1 classes (o, en) H1 := by
  refine ⟨⟨hI.1, fun k x hx => hP k x ?_, hI.2.2⟩, hP ws.length _ (by simp)⟩
  rw [List.getElem?_append_left (List.getElem?_eq_some_iff.mp hx).1]
  exact hx
/-- the end of a helper -/
theorem hl_ret (C : HC p s m args meth c z cc nL hh o) {k : Nat} {r : Int64} {g : Nat → Int64} (hI : KI (Gz z) ws1 s H) (ho : va_at z.1 classes (o, outE z g) H) (hg : k = 0 → g 0 = r) (hS : va_S (LA z o) s.heap H locs) (h1 : cells ≤ 1) (h2 : slots ≤ 6) (hd : decode cc pc = .ok (.ireturn, 1)) : W p l e R s m args below meth c H locs cells slots (MQ below (LQ z o k r ws1) args s 1 6 (LA z o)) (F0 m pc ls [.int (nI k)]) := by
  obtain ⟨hx, hb, hml, hown, hts, hr, hlk, htab, hK, hno, hnc⟩ := C
  refine W.widen (k := 1) (n := 6) h1 h2 ?_
  exact W.iret hx hb hr (fun t ht hW => ⟨rfl, by rw [ht]; exact hI.moved hW.alike, ⟨g, by rw [ht]; exact ho, hg⟩, hS.F ht⟩) hS.2.2 hd hlk
/-- the answer goes to the row of one long -/
theorem hl_ok (C : HC p s m args meth c z cc nL hh o) {r : Int32} {g : Nat → Int64} {off : Int} {tgt : Nat} (hI : KI (Gz z) ws1 s H) (ho : va_at z.1 classes (o, outE z g) H) (hS : va_S (LA z o) s.heap H locs) (h1 : cells ≤ 1) (h2 : slots ≤ 6) (d1 : decode cc pc = .ok (.i2l, 1)) (d2 : decode cc (pc + 1) = .ok (.lastore, 1)) (d3 : decode cc (pc + 1 + 1) = .ok (.goto off, 3)) (ht : ((pc + 1 + 1 : Nat) : Int) + off = (tgt : Int)) (d4 : decode cc tgt = .ok (.iconst 0, 1)) (d5 : decode cc (tgt + 1) = .ok (.ireturn, 1)) : W p l e R s m args below meth c H locs cells slots (MQ below (LQ z o 0 r.toInt64 ws1) args s 1 6 (LA z o)) (F0 m pc ls [.int r, .int (nI 0), .ref o]) := by
  have hno := C.2.2.2.2.2.2.2.2.2.1
  obtain ⟨hP, hD⟩ := hI.join ho hno
  refine lv_i2l (v := r.toInt64) C.1 C.2.1 d1 rfl ?_
  refine va_last (D := z.1) (cl := classes) (tys := (Gz z).2.1) (n := 1) (f := g) C.1 C.2.1 hI.1 hP hD hS ws1.length 1 (cA := z.2.1.2.1) (by simp [outE]) rfl (vp_in_nI (by decide) (by decide)) d2 (fun H1 locs1 hP1 hD1 hS1 => ?_)
  have e : (ws1 ++ [(o, outE z g)]).set ws1.length (o, .inl (z.2.1.2.1, 1, .inr (.inl (vp_updL g (nI 0).toNatClampNeg r.toInt64)))) = ws1 ++ [(o, outE z (vp_updL g (nI 0).toNatClampNeg r.toInt64))] := by
    rw [List.set_append_right _ _ (Nat.le_refl _), Nat.sub_self]
    rfl
  rw [e] at hP1
  obtain ⟨hI1, ho1⟩ := hI.split hP1
  refine lv_goto C.1 C.2.1 d3 ht ?_
  refine lv_iconst (v := nI 0) C.1 C.2.1 d4 (by decide +kernel) ?_
  exact hl_ret C hI1 ho1 (fun _ => by show vp_updL g (nI 0).toNatClampNeg r.toInt64 0 = _; rw [show (nI 0).toNatClampNeg = 0 from by decide +kernel]; unfold vp_updL; rw [if_pos rfl]) hS1 h1 h2 d5
end LA
