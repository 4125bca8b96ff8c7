/-! ===== the JDK's own methods over the constants: ordinal, length, charAt; a kind stored in a row of kinds ===== -/
section VJ
variable {p : Program} {l : Launch} {e : Env} {R : Room} {s : State} {m : MethodId} {args : Array Value} {below : List Frame} {meth : Method} {c : Code} {z : Zt} {nL cells slots : Nat} {Q : State → Prop} {ws ws' : va_W} {pc : Nat} {lv lv' : List (Nat × Value)} {sk rest : List Value}
variable {cc : ByteArray} {ret : Option FieldType} {own : String}
/-- the address of the spelling of the kind k; of its bytes -/
def sa (z : Zt) (k : Nat) : Nat := z.2.2.2.2.1 k
def sv (z : Zt) (k : Nat) : Nat := z.2.2.2.2.2.1 k
theorem V.getOrd (C : Cx p s m args meth c (Gz z) cc nL ret own) {i k : Nat} (hk0 : k < 29) (hw : Cond.fieldLink own i "java/lang/Enum" "ordinal" "I" ∈ gt) (hd : decode cc pc = .ok (.getfield i, 3)) (kk : V p l e R s m args below meth c (Gz z) nL cells slots Q ws (pc + 3) lv (.int (nI k) :: sk)) : V p l e R s m args below meth c (Gz z) nL cells slots Q ws pc lv (.ref (ek z k) :: sk) := by
  have hK0 : KK z.2.2.1 z.2.2.2 s s.heap := C.kk
  obtain ⟨hx, hb, hml, hown, hts, hr, hlk, hE, hk, hK, hns⟩ := C
  intro H locs ls hI hS hl
  exact vk_getf (A := (Gz z).2.2.1) hx hb (hK0.1 k hk0).2.2.1 hS hown (hts _ hw) (fun _ h => h) hd (kk H locs ls hI hS hl)
theorem V.getCod (C : Cx p s m args meth c (Gz z) cc nL ret own) {i k : Nat} (hk0 : k < 29) (hw : Cond.fieldLink own i "java/lang/String" "coder" "B" ∈ gt) (hd : decode cc pc = .ok (.getfield i, 3)) (kk : V p l e R s m args below meth c (Gz z) nL cells slots Q ws (pc + 3) lv (.int (nI 0) :: sk)) : V p l e R s m args below meth c (Gz z) nL cells slots Q ws pc lv (.ref (sa z k) :: sk) := by
  have hK0 : KK z.2.2.1 z.2.2.2 s s.heap := C.kk
  obtain ⟨hx, hb, hml, hown, hts, hr, hlk, hE, hk, hK, hns⟩ := C
  intro H locs ls hI hS hl
  exact vk_getf (A := (Gz z).2.2.1) hx hb (hK0.1 k hk0).2.2.2.2.2.1 hS hown (hts _ hw) (fun _ h => h) hd (kk H locs ls hI hS hl)
theorem V.getVal (C : Cx p s m args meth c (Gz z) cc nL ret own) {i k : Nat} (hk0 : k < 29) (hw : Cond.fieldLink own i "java/lang/String" "value" "[B" ∈ gt) (hd : decode cc pc = .ok (.getfield i, 3)) (kk : V p l e R s m args below meth c (Gz z) nL cells slots Q ws (pc + 3) lv (.ref (sv z k) :: sk)) : V p l e R s m args below meth c (Gz z) nL cells slots Q ws pc lv (.ref (sa z k) :: sk) := by
  have hK0 : KK z.2.2.1 z.2.2.2 s s.heap := C.kk
  obtain ⟨hx, hb, hml, hown, hts, hr, hlk, hE, hk, hK, hns⟩ := C
  intro H locs ls hI hS hl
  exact vk_getf (A := (Gz z).2.2.1) hx hb (hK0.1 k hk0).2.2.2.2.2.2.1 hS hown (hts _ hw) (fun _ h => h) hd (kk H locs ls hI hS hl)
theorem V.lenVal (C : Cx p s m args meth c (Gz z) cc nL ret own) {k : Nat} (hk0 : k < 29) (hd : decode cc pc = .ok (.arraylength, 1)) (kk : V p l e R s m args below meth c (Gz z) nL cells slots Q ws (pc + 1) lv (.int (nI (spl k).length) :: sk)) : V p l e R s m args below meth c (Gz z) nL cells slots Q ws pc lv (.ref (sv z k) :: sk) := by
  have hK0 : KK z.2.2.1 z.2.2.2 s s.heap := C.kk
  obtain ⟨hx, hb, hml, hown, hts, hr, hlk, hE, hk, hK, hns⟩ := C
  intro H locs ls hI hS hl
  exact va_tlen (A := (Gz z).2.2.1) hx hb (hK0.1 k hk0).2.2.2.2.2.2.2 hS rfl hd (kk H locs ls hI hS hl)
theorem spl_small : ∀ k, k < 29 → (spl k).length ≤ 5 ∧ ∀ j, j < (spl k).length → (spl k).getD j 0 < 128 := by decide +kernel
theorem V.ldVal (C : Cx p s m args meth c (Gz z) cc nL ret own) {k j : Nat} (hk0 : k < 29) (hj : j < (spl k).length) (hd : decode cc pc = .ok (.baload, 1)) (kk : V p l e R s m args below meth c (Gz z) nL cells slots Q ws (pc + 1) lv (.int (nI ((spl k).getD j 0)) :: sk)) : V p l e R s m args below meth c (Gz z) nL cells slots Q ws pc lv (.int (nI j) :: .ref (sv z k) :: sk) := by
  have hK0 : KK z.2.2.1 z.2.2.2 s s.heap := C.kk
  have hsm := (spl_small k hk0).1
  obtain ⟨hx, hb, hml, hown, hts, hr, hlk, hE, hk, hK, hns⟩ := C
  intro H locs ls hI hS hl
  exact va_tb (A := (Gz z).2.2.1) hx hb (hK0.1 k hk0).2.2.2.2.2.2.2 hS (vp_in_nI hj (by omega)) (by rw [nI_clamp (by omega)]) hd (kk H locs ls hI hS hl)
theorem V.getCom (C : Cx p s m args meth c (Gz z) cc nL ret own) {i : Nat} (hw : Cond.fieldLink own i "java/lang/String" "COMPACT_STRINGS" "Z" ∈ gt) (hd : decode cc pc = .ok (.getstatic i, 3)) (kk : V p l e R s m args below meth c (Gz z) nL cells slots Q ws (pc + 3) lv (.int (nI 1) :: sk)) : V p l e R s m args below meth c (Gz z) nL cells slots Q ws pc lv sk := by
  have hK0 : KK z.2.2.1 z.2.2.2 s s.heap := C.kk
  obtain ⟨hx, hb, hml, hown, hts, hr, hlk, hE, hk, hK, hns⟩ := C
  intro H locs ls hI hS hl
  exact va_gets (A := (Gz z).2.2.1) hx hb hK0.2.2.2.2.2.1 hS hown (hts _ hw) (fun _ h => h) hd (kk H locs ls hI hS hl)
theorem V.getFmt (C : Cx p s m args meth c (Gz z) cc nL ret own) {i : Nat} (hw : Cond.fieldLink own i "jdk/internal/util/Preconditions" "SIOOBE_FORMATTER" "Ljava/util/function/BiFunction;" ∈ gt) (hd : decode cc pc = .ok (.getstatic i, 3)) (kk : ∀ v : Value, (v = .null ∨ ∃ t, v = .ref t) → V p l e R s m args below meth c (Gz z) nL cells slots Q ws (pc + 3) lv (v :: sk)) : V p l e R s m args below meth c (Gz z) nL cells slots Q ws pc lv sk := by
  have hK0 : KK z.2.2.1 z.2.2.2 s s.heap := C.kk
  obtain ⟨hx, hb, hml, hown, hts, hr, hlk, hE, hk, hK, hns⟩ := C
  intro H locs ls hI hS hl
  rcases hK0.2.2.2.2.2.2.1 with hq | ⟨t, hq⟩
  · exact va_gets (A := (Gz z).2.2.1) hx hb hq hS hown (hts _ hw) (fun _ h => h) hd (kk _ (Or.inl rfl) H locs ls hI hS hl)
  · exact va_gets (A := (Gz z).2.2.1) hx hb hq hS hown (hts _ hw) (fun _ h => h) hd (kk _ (Or.inr ⟨_, rfl⟩) H locs ls hI hS hl)
/-- the receiver is a constant -/
theorem V.callK {y : MethodName} {h : Nat} {ccY : ByteArray} {nLY n i : Nat} {retY : Option FieldType} {As : List Value} {b : Nat} {ws1 : va_W} {x : Value} (C : Cx p s m args meth c (Gz z) cc nL ret own) (hM : XC l (Gz z) h y ccY nLY retY (.ref b :: As) ws (.inl (some x)) ws1) (Y : Yw y ccY nLY retY n) (hl : Cond.methodLink own i y ∈ gt) (hO : va_O y.cls b z.2.2.1 s s.heap) (hn : As.length = n) (hstk : sk = As.reverse ++ .ref b :: rest) (hW : Nat.ble (rest.map fun v => v.category).sum 8 = true) (hR : Rok R h cells slots) (hd : decode cc pc = .ok (.invokevirtual i, 3))
    (kk : V p l e R s m args below meth c (Gz z) nL cells slots Q ws1 (pc + 3) lv (x :: rest)) : V p l e R s m args below meth c (Gz z) nL cells slots Q ws pc lv sk := by
  obtain ⟨hx, hb, hml, hown, hts, hr, hlk, hE, hk, hK, hns⟩ := C
  intro H locs ls hI hS hlv
  obtain ⟨cell, o1, o2, o3, -⟩ := hO.kept hS.2.1
  exact WcallV hx hb hml hown hts hM Y hl ⟨cell, o1, o2, o3⟩ (fun T vm₁ hT hW => XP.at hk hK hI hS.2.1 hT hW) hn hlv.1 hstk (Nat.le_of_ble_eq_true hW) hR hd (fun H1 L k1 k2 k3 k4 => kk H1 _ ls k1 (hS.more k2 k3 k4) hlv)
/-- a kind into the row of kinds -/
theorem V.aastK (C : Cx p s m args meth c (Gz z) cc nL ret own) {a n k x : Nat} {cA : ClassId} {f : Nat → Option Nat} (q0 : Nat) (ha : ws[q0]? = some (a, .inl (cA, n, .inr (.inr (.inr (.inr (fun j => (f j).map (ek z)))))))) (ht : (Gz z).2.1[3]? = some (cA, .object R_Kd)) (hk0 : k < n) (hn : n < 2 ^ 31) (hx0 : x < 29) (hws : ws.set q0 (a, .inl (cA, n, .inr (.inr (.inr (.inr (fun j => (va_up f k (some x) j).map (ek z))))))) = ws') (hd : decode cc pc = .ok (.aastore, 1))
    (kk : V p l e R s m args below meth c (Gz z) nL cells slots Q ws' (pc + 1) lv sk) : V p l e R s m args below meth c (Gz z) nL cells slots Q ws pc lv (.ref (ek z x) :: .int (nI k) :: .ref a :: sk) := by
  have hK0 : KK z.2.2.1 z.2.2.2 s s.heap := C.kk
  obtain ⟨hx, hb, hml, hown, hts, hr, hlk, hE, hk, hK, hns⟩ := C
  subst hws
  intro H locs ls hI hS hl
  have hO := (hK0.1 x hx0).2.1
  have hany : va_Any R_Kd s H (ek z x) := by
    obtain ⟨cell, o1, o2, o3, -⟩ := hO.kept hS.2.1
    refine ⟨cell, o1, o2, ?_, fun comp hc => ?_⟩
    · obtain ⟨k9, h9, -⟩ := Vm.findClass_spec o3
      exact ⟨k9, h9⟩
    · cases hc.symm.trans o3
      exact va_asg _ _
  refine va_astqM (D := (Gz z).1) (cl := classes) hx hb hI.1 hI.2.1 hI.2.2.1 hS q0 3 ha ht hany (vp_in_nI hk0 hn) hd ?_
  rw [nI_clamp (by omega)]
  have e9 : va_up (fun j => (f j).map (ek z)) k (some (ek z x)) = fun j => (va_up f k (some x) j).map (ek z) := by
    funext j
    unfold va_up
    split <;> rfl
  rw [e9]
  exact fun H1 locs1 hP hD hS1 => kk H1 locs1 ls ⟨hI.1, hP, hD, hI.2.2.2.set ha⟩ hS1 hl
end VJ
theorem km_ord : Cond.sameMethod "PascalMachine$Kind" "java/lang/Enum" "ordinal" "()I" ∈ gt := gtm 561 (by decide +kernel) (by decide +kernel)
theorem ks_ord : Cond.selects "PascalMachine$Kind" ⟨"PascalMachine$Kind", "ordinal", "()I"⟩ y_JE_ordinal ∈ gt := gtm 563 (by decide +kernel) (by decide +kernel)
theorem ki_ord : Cond.instanceMethod y_JE_ordinal ∈ gt := gtm 564 (by decide +kernel) (by decide +kernel)
theorem kn_ord : Cond.initialized "java/lang/Enum" ∈ gt := gtm 13 (by decide +kernel) (by decide +kernel)
set_option maxHeartbeats 4000000 in
theorem c_JE_ordinal {l : Launch} {z : Zt} {ws : va_W} (h : Nat) {k : Nat} (hk : k < 29) : XC l (Gz z) h y_JE_ordinal b_JE_ordinal 1 (some .int) [.ref (ek z k)] ws (.inl (some (.int (nI k)))) ws := by
  refine XC.ofVF (by decide +kernel) rfl ?_
  intro p e s m below meth c X hnm
  refine V.lvs (lv' := [(0, .ref (ek z k))]) rfl ?_
  refine V.aload_n X d_JE_ordinal_0 rfl ?_
  refine V.getOrd X hk k_JE_7 d_JE_ordinal_1 ?_
  exact V.iret X d_JE_ordinal_4 rfl rfl
section VJ2
variable {p : Program} {l : Launch} {e : Env} {R : Room} {s : State} {m : MethodId} {args : Array Value} {below : List Frame} {meth : Method} {c : Code} {z : Zt} {nL cells slots : Nat} {Q : State → Prop} {ws ws' : va_W} {pc : Nat} {lv lv' : List (Nat × Value)} {sk rest : List Value}
variable {cc : ByteArray} {ret : Option FieldType} {own : String}
/-- kind.ordinal() -/
theorem V.ordinal (C : Cx p s m args meth c (Gz z) cc nL ret own) {i k : Nat} (h : Nat) (hk0 : k < 29) (hw : Cond.methodLink own i ⟨"PascalMachine$Kind", "ordinal", "()I"⟩ ∈ gt) (hW : Nat.ble (sk.map fun v => v.category).sum 8 = true) (hR : Rok R h cells slots) (hd : decode cc pc = .ok (.invokevirtual i, 3)) (kk : V p l e R s m args below meth c (Gz z) nL cells slots Q ws (pc + 3) lv (.int (nI k) :: sk)) : V p l e R s m args below meth c (Gz z) nL cells slots Q ws pc lv (.ref (ek z k) :: sk) := by
  have hK0 : KK z.2.2.1 z.2.2.2 s s.heap := C.kk
  obtain ⟨hx, hb, hml, hown, hts, hr, hlk, hE, hk, hK, hns⟩ := C
  intro H locs ls hI hS hlv
  obtain ⟨cell, o1, o2, o3, -⟩ := ((hK0.1 k hk0).2.1).kept hS.2.1
  obtain ⟨r1, r2, r3, r4⟩ := hR
  intro T hT X
  have hlen0 : ∀ sig, parseMethodDescriptor "()I" = some sig → ([] : List Value).length = sig.parameters.length := by
    intro sig hh
    have q : (parseMethodDescriptor "()I").map (fun d => d.parameters.length) = some 0 := by decide +kernel
    rw [hh] at q
    exact (Option.some.inj q).symm
  have hB := XC.back (p := p) (e := e) (below := below) (s := s) (sargs := args) (R := R) (len := 3) (c_JE_ordinal (l := l) (z := z) (ws := ws) h hk0) hts kc_JE_ordinal kn_ord (by decide) r1 r2
  obtain ⟨v', vm₁, ⟨U', l2, c9, s9⟩, hW₁, X', ⟨e1, e2, e3, k1, k2, k3, L, k4, k5⟩, st⟩ := va_callVU X hx (C := R_Kd) (owner := "java/lang/Enum") (x := ⟨"PascalMachine$Kind", "ordinal", "()I"⟩) (y := y_JE_ordinal) (bytes := b_JE_ordinal) (maxL := 1) (ret := some .int) hown (hts _ hw) (hts _ km_ord) (va_Decl.of (hts _ ki_ord) (hts _ kc_JE_ordinal)) (by decide +kernel) (hts _ ks_ord) (hts _ ki_ord) (hts _ kc_JE_ordinal) hB (b := ek z k) (by rw [hT]; exact o1) o2 o3 (g := F0 m pc ls (.ref (ek z k) :: sk)) rfl (by rw [hml]; exact hlv.1) (argsL := []) (rest := sk) hlen0 rfl (lv_room (Nat.le_of_ble_eq_true hW)) (by rw [hb]; exact hd)
    (fun vm₁ hW₁ => ⟨r3, r4, rfl, XP.at hk hK hI hS.2.1 hT hW₁⟩)
  dsimp only [Pt.U, Pt.locs, Pt.cells, Pt.slots] at X' e1 e2 e3 k1 k2 k3 k4 st
  subst e1; subst e2; subst e3; subst k4
  have k2' : H.size ≤ U'.heap.size := by rw [← hT]; exact k2
  have k3' : ∀ q : Nat, q < H.size → ¬ (Gz z).2.2.1 q → U'.heap[q]? = H[q]? := by rw [← hT]; exact k3
  obtain ⟨t, a1, b1⟩ := kk U'.heap _ ls (k1.moved X'.warmed.alike.symm) (hS.more k2' k3' k5) hlv U' rfl X'
  exact ⟨t, st t a1, b1⟩
end VJ2
section VJ3
variable {p : Program} {l : Launch} {e : Env} {R : Room} {s : State} {m : MethodId} {args : Array Value} {below : List Frame} {meth : Method} {c : Code} {G : Gm} {nL cells slots : Nat} {ws ws' : va_W} {pc : Nat} {lv : List (Nat × Value)} {cc : ByteArray} {own : String}
theorem V.tret {ty : FieldType} (C : Cx p s m args meth c G cc nL (some ty) own) (hd : decode cc pc = .ok (.ireturn, 1)) {v : Int32} (hn : narrow ty (.int v) = .int v) {o : Oc} (ho : o = .inl (some (.int v))) (hw : ws = ws') : V p l e R s m args below meth c G nL 0 0 (XE below G o ws' args s) ws pc lv [.int v] := by
  subst ho; subst hw
  obtain ⟨hx, hb, hml, hown, hts, hr, hlk, hE, hk, hK, hns⟩ := C
  intro H locs ls hI hS hl T hT X
  obtain ⟨t, a, oc, b1, b2, ⟨q1, q2, q3⟩, L, q4, q5⟩ := W.zret (free := G.2.2.1) (Qc := fun _ s0 oc t => oc = .returned (some (.int v)) ∧ KI G ws t t.heap ∧ va_F G.2.2.1 s0 t) hx hb hr hn (fun t ht hW => ⟨rfl, by rw [ht]; exact hI.moved hW.alike, hS.F ht⟩) hS.2.2 hd hlk T hT X
  exact ⟨t, a, oc, b1, b2, q2, q3, q4.2.1, L, q5, q1, q4.2.2⟩
end VJ3
set_option maxHeartbeats 4000000 in
theorem c_JS_coder {l : Launch} {z : Zt} {ws : va_W} (h : Nat) {k : Nat} (hk : k < 29) : XC l (Gz z) h y_JS_coder b_JS_coder 1 (some .byte) [.ref (sa z k)] ws (.inl (some (.int (nI 0)))) ws := by
  refine XC.ofVF (by decide +kernel) rfl ?_
  intro p e s m below meth c X hnm
  refine V.lvs (lv' := [(0, .ref (sa z k))]) rfl ?_
  refine V.getCom X k_JS_38 d_JS_coder_0 ?_
  refine V.ifN_eq (tgt := 13) X d_JS_coder_3 (by decide) (by decide) (fun h => absurd h (by decide)) (fun _ => ?_)
  refine V.aload_n X d_JS_coder_6 rfl ?_
  refine V.getCod X hk k_JS_15 d_JS_coder_7 ?_
  refine V.goto (tgt := 14) X d_JS_coder_10 (by decide) ?_
  exact V.tret X d_JS_coder_14 (by decide +kernel) rfl rfl
set_option maxHeartbeats 4000000 in
theorem c_JS_isLatin1 {l : Launch} {z : Zt} {ws : va_W} (h : Nat) {k : Nat} (hk : k < 29) : XC l (Gz z) h y_JS_isLatin1 b_JS_isLatin1 1 (some .boolean) [.ref (sa z k)] ws (.inl (some (.int (nI 1)))) ws := by
  refine XC.ofVF (by decide +kernel) rfl ?_
  intro p e s m below meth c X hnm
  refine V.lvs (lv' := [(0, .ref (sa z k))]) rfl ?_
  refine V.getCom X k_JS_38 d_JS_isLatin1_0 ?_
  refine V.ifN_eq (tgt := 17) X d_JS_isLatin1_3 (by decide) (by decide) (fun h => absurd h (by decide)) (fun _ => ?_)
  refine V.aload_n X d_JS_isLatin1_6 rfl ?_
  refine V.getCod X hk k_JS_15 d_JS_isLatin1_7 ?_
  refine V.ifN_ne (tgt := 17) X d_JS_isLatin1_10 (by decide) (by decide) (fun h => absurd rfl h) (fun _ => ?_)
  refine V.iconst (v := nI 1) X d_JS_isLatin1_13 (by decide +kernel) ?_
  refine V.goto (tgt := 18) X d_JS_isLatin1_14 (by decide) ?_
  exact V.zret X d_JS_isLatin1_18 (Or.inr rfl) rfl rfl
theorem kO_str {p : Program} {s : State} {m : MethodId} {args : Array Value} {meth : Method} {c : Code} {z : Zt} {cc : ByteArray} {nL : Nat} {ret : Option FieldType} {own : String} (X : Cx p s m args meth c (Gz z) cc nL ret own) {k : Nat} (hk : k < 29) : va_O "java/lang/String" (sa z k) z.2.2.1 s s.heap := (show KK z.2.2.1 z.2.2.2 s s.heap from X.kk).1 k hk |>.2.2.2.2.1
theorem shr_zero {x : Nat} (h : x < 2 ^ 31) : nI x >>> (nI 0 &&& 31) = nI x := by
  have q := shr_small (r := x) (k := 0) h (by decide)
  rw [q, Nat.pow_zero, Nat.div_one]
set_option maxHeartbeats 4000000 in
theorem c_JS_length {l : Launch} {z : Zt} {ws : va_W} (h : Nat) {k : Nat} (hk : k < 29) : XC l (Gz z) (h + 1) y_JS_length b_JS_length 1 (some .int) [.ref (sa z k)] ws (.inl (some (.int (nI (spl k).length)))) ws := by
  have hsm := (spl_small k hk).1
  refine XC.ofVF (by decide +kernel) rfl ?_
  intro p e s m below meth c X hnm
  refine V.lvs (lv' := [(0, .ref (sa z k))]) rfl ?_
  refine V.aload_n X d_JS_length_0 rfl ?_
  refine V.getVal X hk k_JS_9 d_JS_length_1 ?_
  refine V.lenVal X hk d_JS_length_4 ?_
  refine V.aload_n X d_JS_length_5 rfl ?_
  refine V.callK X (c_JS_coder h hk) Y_JS_coder k_JS_335 (kO_str X hk) rfl rfl rfl (Rok.lt (by omega)) d_JS_length_6 ?_
  refine V.ishr X d_JS_length_9 (shr_zero (by omega)) ?_
  exact V.iret X d_JS_length_10 rfl rfl
set_option maxHeartbeats 4000000 in
theorem c_JP_checkIndex {l : Launch} {z : Zt} {ws : va_W} (h : Nat) {i n : Nat} {v : Value} (hv : v = .null ∨ ∃ t, v = .ref t) (hi : i < n) (hn : n < 2 ^ 31) : XC l (Gz z) h y_JP_checkIndex b_JP_checkIndex 3 (some .int) [.int (nI i), .int (nI n), v] ws (.inl (some (.int (nI i)))) ws := by
  rcases hv with rfl | ⟨t, rfl⟩
  · refine XC.ofVF (by decide +kernel) rfl ?_
    intro p e s m below meth c X hnm
    refine V.lvs (lv' := [(0, .int (nI i)), (1, .int (nI n)), (2, .null)]) rfl ?_
    refine V.iload_n X d_JP_checkIndex_0 rfl ?_
    refine V.ifN_lt (tgt := 9) X d_JP_checkIndex_1 (by decide) (by omega) ?_
    refine V.iload_n X d_JP_checkIndex_4 rfl ?_
    refine V.iload_n X d_JP_checkIndex_5 rfl ?_
    refine V.cmpN_lt (tgt := 16) X d_JP_checkIndex_6 (by decide) (by omega) (by omega) (fun _ => ?_) (fun h => absurd h (by omega))
    refine V.iload_n X d_JP_checkIndex_16 rfl ?_
    exact V.iret X d_JP_checkIndex_17 rfl rfl
  · refine XC.ofVF (by decide +kernel) rfl ?_
    intro p e s m below meth c X hnm
    refine V.lvs (lv' := [(0, .int (nI i)), (1, .int (nI n)), (2, .ref t)]) rfl ?_
    refine V.iload_n X d_JP_checkIndex_0 rfl ?_
    refine V.ifN_lt (tgt := 9) X d_JP_checkIndex_1 (by decide) (by omega) ?_
    refine V.iload_n X d_JP_checkIndex_4 rfl ?_
    refine V.iload_n X d_JP_checkIndex_5 rfl ?_
    refine V.cmpN_lt (tgt := 16) X d_JP_checkIndex_6 (by decide) (by omega) (by omega) (fun _ => ?_) (fun h => absurd h (by omega))
    refine V.iload_n X d_JP_checkIndex_16 rfl ?_
    exact V.iret X d_JP_checkIndex_17 rfl rfl
set_option maxHeartbeats 4000000 in
theorem c_JS_checkIndex {l : Launch} {z : Zt} {ws : va_W} (h : Nat) {i n : Nat} (hi : i < n) (hn : n < 2 ^ 31) : XC l (Gz z) (h + 1) y_JS_checkIndex b_JS_checkIndex 2 none [.int (nI i), .int (nI n)] ws (.inl none) ws := by
  refine XC.ofVF (by decide +kernel) rfl ?_
  intro p e s m below meth c X hnm
  refine V.lvs (lv' := [(0, .int (nI i)), (1, .int (nI n))]) rfl ?_
  refine V.iload_n X d_JS_checkIndex_0 rfl ?_
  refine V.iload_n X d_JS_checkIndex_1 rfl ?_
  refine V.getFmt X k_JS_1053 d_JS_checkIndex_2 (fun v hv => ?_)
  refine V.callS1 X (c_JP_checkIndex h hv hi hn) Y_JP_checkIndex k_JS_1059 rfl rfl rfl (Rok.lt (by omega)) d_JS_checkIndex_5 ?_
  refine V.pop X d_JS_checkIndex_8 rfl ?_
  exact V.vret X d_JS_checkIndex_9 rfl rfl
theorem and_255 {x : Nat} (h : x < 128) : nI x &&& nI 255 = nI x := by
  rw [pk_andN (by omega) 8 (by decide +kernel), Nat.mod_eq_of_lt (by omega)]
theorem i2c_nI {x : Nat} (h : x < 65536) : ((nI x).toUInt32 % 65536).toInt32 = nI x := by
  rw [pk_char, pk_tn (by omega), Nat.mod_eq_of_lt h]
set_option maxHeartbeats 4000000 in
theorem c_JL_charAt {l : Launch} {z : Zt} {ws : va_W} (h : Nat) {k j : Nat} (hk : k < 29) (hj : j < (spl k).length) : XC l (Gz z) (h + 2) y_JL_charAt b_JL_charAt 2 (some .char) [.ref (sv z k), .int (nI j)] ws (.inl (some (.int (nI ((spl k).getD j 0))))) ws := by
  have hsm := (spl_small k hk).1
  have hb := (spl_small k hk).2 j hj
  refine XC.ofVF (by decide +kernel) rfl ?_
  intro p e s m below meth c X hnm
  refine V.lvs (lv' := [(0, .ref (sv z k)), (1, .int (nI j))]) rfl ?_
  refine V.iload_n X d_JL_charAt_0 rfl ?_
  refine V.aload_n X d_JL_charAt_1 rfl ?_
  refine V.lenVal X hk d_JL_charAt_2 ?_
  refine V.callS (v := none) X (c_JS_checkIndex h hj (by omega)) Y_JS_checkIndex k_JL_9 rfl rfl rfl (Rok.lt (by omega)) d_JL_charAt_3 ?_
  refine V.aload_n X d_JL_charAt_6 rfl ?_
  refine V.iload_n X d_JL_charAt_7 rfl ?_
  refine V.ldVal X hk hj d_JL_charAt_8 ?_
  refine V.sipush (v := nI 255) X d_JL_charAt_9 (by decide +kernel) ?_
  refine V.iand X d_JL_charAt_12 (and_255 hb) ?_
  refine V.i2c X d_JL_charAt_13 (i2c_nI (by omega)) ?_
  exact V.tret X d_JL_charAt_14 (pk_charN (by omega)).1 rfl rfl
set_option maxHeartbeats 4000000 in
theorem c_JS_charAt {l : Launch} {z : Zt} {ws : va_W} (h : Nat) {k j : Nat} (hk : k < 29) (hj : j < (spl k).length) : XC l (Gz z) (h + 3) y_JS_charAt b_JS_charAt 2 (some .char) [.ref (sa z k), .int (nI j)] ws (.inl (some (.int (nI ((spl k).getD j 0))))) ws := by
  have hb := (spl_small k hk).2 j hj
  refine XC.ofVF (by decide +kernel) rfl ?_
  intro p e s m below meth c X hnm
  refine V.lvs (lv' := [(0, .ref (sa z k)), (1, .int (nI j))]) rfl ?_
  refine V.aload_n X d_JS_charAt_0 rfl ?_
  refine V.callK X (c_JS_isLatin1 (h + 2) hk) Y_JS_isLatin1 k_JS_492 (kO_str X hk) rfl rfl rfl (Rok.lt (by omega)) d_JS_charAt_1 ?_
  refine V.ifN_eq (tgt := 16) X d_JS_charAt_4 (by decide) (by decide) (fun h => absurd h (by decide)) (fun _ => ?_)
  refine V.aload_n X d_JS_charAt_7 rfl ?_
  refine V.getVal X hk k_JS_9 d_JS_charAt_8 ?_
  refine V.iload_n X d_JS_charAt_11 rfl ?_
  refine V.callS1 X (c_JL_charAt h hk hj) Y_JL_charAt k_JS_495 rfl rfl rfl (Rok.lt (by omega)) d_JS_charAt_12 ?_
  exact V.tret X d_JS_charAt_15 (pk_charN (by omega)).1 rfl rfl
