/-! ===== constructors: contract and walk ===== -/
theorem gt_in (y : MethodName) {cc : ByteArray} {n : Nat} (h : Cond.code y cc n none ∈ gt) : GoodIn gt (Cond.code y cc n none :: gt) := by
  intro w hw
  have hw' : w ∈ gt := by
    rcases List.mem_cons.mp hw with e | e
    · rw [e]; exact h
    · exact e
  exact ⟨hw', gt_good w hw'⟩
section NX
variable {l : Launch} {D : va_G} {tys : List (ClassId × FieldType)}
theorem NC.of {fr lo mc ms : Nat} {y : MethodName} {cc : ByteArray} {ci : Nat} {fs : List Value} {mk : Nat → (Nat → Nat) → va_W} (hy : plainName y.cls = true) (hyn : y.name = "<init>")
    (body : ∀ (p : Program) (e : Env) (s : State) (m : MethodId) (below : List Frame) (meth : Method) (c : Code) (b : Nat), CN p s m [Value.ref b].toArray meth c D tys (va_A [(b, .inr (ci, fs))] s.heap.size) cc 1 y.cls → VN p l e { frames := fr, cells := mc, slots := ms, locals := lo } s m [Value.ref b].toArray below meth c D (va_A [(b, .inr (ci, fs))] s.heap.size) 1 0 0 (MQ below (va_Qv (fun _ : Nat → Nat => True) (fun f t => va_P D classes (mk b f) t.heap ∧ va_D (va_A [(b, .inr (ci, fs))] s.heap.size) (mk b f)) (va_A [(b, .inr (ci, fs))] s.heap.size)) [Value.ref b].toArray s mc ms (va_A [(b, .inr (ci, fs))] s.heap.size)) [(b, .inr (ci, fs))] 0 [(0, .ref b)] []) :
    NC l D tys fr lo mc ms y cc ci fs mk := by
  intro b sz
  refine Met.ofW (cc := cc) (maxL := 1) (ret := none) hy rfl ?_
  intro p e s m args below meth c s₁ B hml hv
  obtain ⟨rfl, hsz, hP, hK, hAO, hD0⟩ := hv
  subst hsz
  have hts0 := atoms_spec (ws := Cond.code y cc 1 none :: gt) B.pre
  have hD := hD0.self (sz := s.heap.size)
  have hA : ∀ q : Nat, s.heap.size ≤ q → va_A [(b, (.inr (ci, fs) : va_E))] s.heap.size q := fun q h => Or.inr h
  have hl := lv_entry ([.ref b]) (n := 1) (Nat.le_of_ble_eq_true rfl)
  rw [lg_entry_eq]
  exact body p e s m below meth c b ⟨B.exec, B.bytes, hml, findClass_of_methodNamed B.named, fun w hw => hts0 w (List.mem_cons_of_mem _ hw), B.returns, B.notSynchronized, (name_of_methodNamed B.named B.method).1.trans hyn, hK, hA, hAO⟩ s.heap [] _ hP hD va_S.rf hl
variable {p : Program} {e : Env} {R : Room} {s : State} {m : MethodId} {args : Array Value} {below : List Frame} {meth : Method} {c : Code} {A : Nat → Prop} {nL cells slots : Nat} {Q : State → Prop} {ws ws' : va_W} {pc : Nat} {lv : List (Nat × Value)} {sk : List Value} {cc : ByteArray} {own : String}
theorem VN.vret (C : CN p s m args meth c D tys A cc nL own) {mk : (Nat → Nat) → va_W} (f : Nat → Nat) (hws : ws = mk f) (hd : decode cc pc = .ok (.return_, 1)) : VN p l e R s m args below meth c D A nL cells slots (MQ below (va_Qv (fun _ : Nat → Nat => True) (fun f t => va_P D classes (mk f) t.heap ∧ va_D A (mk f)) A) args s cells slots A) ws pc lv [] := by
  obtain ⟨hx, hb, hml, hown, hts, hr, hlk, hin2, hK, hA, -⟩ := C
  subst hws
  intro H locs ls h1 h2 h3 hl
  exact W.vret hx hb hr (fun t ht hW => ⟨⟨f, rfl, trivial, by rw [ht]; exact h1, h2⟩, h3.F ht⟩) h3.2.2 hd hlk
theorem VN.callI (C : CN p s m args meth c D tys A cc nL own) {fr lo mc ms : Nat} {y : MethodName} {ccY : ByteArray} {ci : Nat} {fs : List Value} {mk : Nat → (Nat → Nat) → va_W} (hM : NC l D tys fr lo mc ms y ccY ci fs mk) (hc : Cond.code y ccY 1 none ∈ gt) (hi : Cond.initialized y.cls ∈ gt) {i : Nat} {host : String} (hl : (own, i, y, host) ∈ nstL) (hin : Cond.instanceMethod y ∈ gt) (hy : y.name = "<init>") (hyd : y.cls ≠ "java/lang/invoke/MethodHandle" ∧ y.cls ≠ "java/lang/invoke/VarHandle" ∧ (parseMethodDescriptor y.desc).map (fun d => d.parameters.length) = some 0) {q : Nat} {rest : List Value} {wr : va_W} (isC isR : List Nat) (hC : isC.map (fun i => ws[i]?) = [(q, (.inr (ci, fs) : va_E))].map some) (hR : isR.map (fun i => ws[i]?) = wr.map some) (hn : va_nd isR = true) (hdis : ∀ i ∈ isR, i ∉ isC)
    (hroom : fr + 1 ≤ R.frames ∧ 8 + (1 + 11) + lo ≤ R.locals) (hcs : cells + mc ≤ R.cells ∧ slots + ms ≤ R.slots) (hW : Nat.ble (rest.map fun v => v.category).sum 8 = true) (hd : decode cc pc = .ok (.invokespecial i, 3))
    (kk : ∀ f : Nat → Nat, VN p l e R s m args below meth c D A nL (cells + mc) (slots + ms) Q (wr ++ mk q f) (pc + 3) lv rest) : VN p l e R s m args below meth c D A nL cells slots Q ws pc lv (.ref q :: rest) := by
  obtain ⟨hx, hb, hml, hown, hts, hr, hlk, hin2, hK, hA, hAO⟩ := C
  intro H locs ls hP hD hS hlv
  have hat : ∀ (k : Nat) (x : Nat × va_E), [(q, (.inr (ci, fs) : va_E))][k]? = some x → ∃ j : Nat, ws[j]? = some x := by
    intro k x hx
    have h1 : (isC.map (fun i => ws[i]?))[k]? = some (some x) := by rw [hC, List.getElem?_map, hx]; rfl
    rw [List.getElem?_map] at h1
    obtain ⟨j, -, h2⟩ := Option.map_eq_some_iff.mp h1
    exact ⟨j, h2⟩
  have hPc : va_P D classes [(q, .inr (ci, fs))] H := fun k x hx => by obtain ⟨j, hj⟩ := hat k x hx; exact hP j x hj
  have hDc : va_D (fun _ => True) [(q, (.inr (ci, fs) : va_E))] := by
    refine ⟨fun i j p q h1 h2 _ => ?_, fun _ _ _ => trivial⟩
    have a1 : i < 1 := (List.getElem?_eq_some_iff.mp h1).1
    have a2 : j < 1 := (List.getElem?_eq_some_iff.mp h2).1
    omega
  have hFc := va_free (wc := [(q, .inr (ci, fs))]) hD hS hA isC hC
  refine va_callv (va_runIN (As := []) (rest := rest) ⟨hx, hb, hml, hown, hts⟩ (hM q H.size) ⟨va_cnB 0 hts (gt_in y hc) rfl rfl rfl (hAO.2 _ hl) (hts _ hi) hyd hroom, hy, hts _ hin⟩ ⟨fun a U g mk q => by obtain ⟨q0, q1, qP, qK, qA, qD⟩ := q; exact ⟨q0, q1, qP, va_K.moved (u := U) (U := U.calling g mk a) (Vm.Alike.refl U.vm) qK, NSt.same (u := U) (U := U.calling g mk a) rfl qA, qD⟩, fun U hU hW => ⟨rfl, by rw [hU], by rw [hU]; exact hPc, va_K.moved hW.alike hK, NSt.warm hW hAO, hDc⟩⟩ rfl rfl hlv.1 rfl (lv_room (Nat.le_of_ble_eq_true hW)) hd hcs) hS (fun q _ h => hFc q h) hFc (fun u t H1 locs ht hvm hw hB hz1 hk1 hS1 => ?_)
  obtain ⟨hP1, hD1⟩ := hB
  rw [ht] at hP1
  obtain ⟨hP2, hD2⟩ := va_join hP hD isC isR hC hR hn hdis hk1 hFc hP1 hD1
  exact kk u H1 locs ls hP2 hD2 hS1 hlv
end NX
