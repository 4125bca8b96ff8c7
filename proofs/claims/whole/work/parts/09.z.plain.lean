/-- a contract of a JDK's own method that the machine has no entry of its own for -/
theorem XC.ofVF {l : Launch} {G : Gm} {h : Nat} {y : MethodName} {cc : ByteArray} {nL : Nat} {ret : Option FieldType} {av : List Value} {ws : va_W} {o : Oc} {ws' : va_W} (hy : plainFor y = true) (hlen : Nat.ble (lg_sl av).length nL = true)
    (body : ∀ (p : Program) (e : Env) (s : State) (m : MethodId) (below : List Frame) (meth : Method) (c : Code), Cx p s m av.toArray meth c G cc nL ret y.cls → meth.name = y.name → V p l e (Rm h) s m av.toArray below meth c G nL 0 0 (XE below G o ws' av.toArray s) ws 0 (lv_args 0 av) []) :
    XC l G h y cc nL ret av ws o ws' := by
  refine MetFree.of_bodySF (code := cc) (maxLocals := nL) (ret := ret) hy ?_ ?_
  · intro args s m h hn
    obtain ⟨meth, c, h1, h2, h3, h4, h5, h6, -, -⟩ := Cond.code_spec hn (atoms_spec (ws := Cond.code y cc nL ret :: gt) h _ List.mem_cons_self)
    exact ⟨meth, c, h1, h2, h3, h4, h5, h6⟩
  · intro p e s m args below meth c s₁ B hml hP _
    obtain ⟨rfl, hk, hKI, hK⟩ := hP
    have hts0 := atoms_spec (ws := Cond.code y cc nL ret :: gt) B.pre
    have hh0 : s₁.heap = s.heap := by rw [B.state]; rfl
    have hE := B.noHandlers (hts0 _ List.mem_cons_self)
    have hl := lv_entry av (n := nL) (Nat.le_of_ble_eq_true hlen)
    have V0 := body p e s m below meth c ⟨B.exec, B.bytes, hml, findClass_of_methodNamed B.named, fun w hw => hts0 w (List.mem_cons_of_mem _ hw), B.returns, B.notSynchronized, hE, hk, hK, hKI.nost⟩ (name_of_methodNamed B.named B.method).1 s.heap [] _ hKI va_S.rf hl
    rw [← lg_entry_eq] at V0
    obtain ⟨t, a1, oc, b1, b2, b3⟩ := V0 s₁ hh0 (Stand.of_body B)
    exact ⟨t, oc, a1, b1, b2, b3⟩
