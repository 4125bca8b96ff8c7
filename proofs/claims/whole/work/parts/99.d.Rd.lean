/-! ===== the law's calls ===== -/
theorem KI.frame {G : Gm} {ws : va_W} {U : State} {H H1 : Heap} {B : Nat → Prop} (h : KI G ws U H) (hk : ∀ q : Nat, q < H.size → ¬ B q → H1[q]? = H[q]?) (hB : ∀ q, G.2.2.1 q → ¬ B q) : KI G ws U H1 :=
  ⟨h.1, h.2.1.kept (fun k x hx => hk x.1 ((h.2.1 k x hx).lt) (hB _ (h.2.2.1.2 k x hx))), h.2.2⟩
/-- what stands fast in the law -/
def LX (p : Program) (l : Launch) (s : State) (m : MethodId) (args : Array Value) (c : Code) (zc zm : Zt) (o : Nat) : Prop :=
  (p.tables.exec = Jvm.exec ∧ c.code = b_Lw_law ∧ c.maxLocals = 7 ∧ s.vm.findClass "PascalMachineLaw" = some m.cls ∧ (∀ w ∈ gt, w.before args s = true)) ∧
  (zm.1 = zc.1 ∧ zm.2.1 = zc.2.1) ∧ ((∀ q : Nat, zc.2.2.1 q → s.heap.size ≤ q) ∧ (∀ q : Nat, zm.2.2.1 q → s.heap.size ≤ q) ∧ s.heap.size ≤ o ∧ (∀ q : Nat, zc.2.2.1 q → ¬ zm.2.2.1 q) ∧ ¬ zc.2.2.1 o ∧ ¬ zm.2.2.1 o) ∧ KK zc.2.2.1 zc.2.2.2 s s.heap ∧ KK zm.2.2.1 zm.2.2.2 s s.heap ∧ NCs s
/-- the law's heap: the class's cells, the Model's, the row of one long -/
def LI (s : State) (zc zm : Zt) (a b : Nat → Nat) (o : Nat) (S : CST) (X : MS) (g : Nat → Int64) (H : Heap) : Prop := KI (Gz zc) (cwT zc a S) s H ∧ KI (Gz zm) (mw zm b X) s H ∧ va_at zc.1 classes (o, outE zc g) H
abbrev NF (s : State) : Nat → Prop := fun q => s.heap.size ≤ q
section RD
variable {p : Program} {l : Launch} {e : Env} {R : Room} {s : State} {m : MethodId} {args : Array Value} {below : List Frame} {meth : Method} {c : Code} {zc zm : Zt} {a b : Nat → Nat} {o : Nat} {S S' : CST} {X X' : MS} {g : Nat → Int64} {H : Heap} {locs : List Loc} {cells slots : Nat} {Q : State → Prop} {pc : Nat} {ls : Array Slot} {rest : List Value}
/-- a helper is called -/
theorem WcallL (L0 : LX p l s m args c zc zm o) (hI : LI s zc zm a b o S X g H) (hS : va_S (NF s) s.heap H locs) {y : MethodName} {ccY : ByteArray} {nLY : Nat} {hh : List (Nat × Nat × Nat × Nat)} {As : List Value} {k n i : Nat} {r : Int64} (hM : LC l zc 63 y ccY nLY hh As (cwT zc a S) o k r (cwT zc a S')) (hcw : Cond.codeWith y ccY nLY (some .int) hh ∈ gt) (hst : Cond.static y ∈ gt) (hini : Cond.initialized y.cls ∈ gt) (hyd : y.cls ≠ "java/lang/invoke/MethodHandle" ∧ y.cls ≠ "java/lang/invoke/VarHandle") (hyn : (parseMethodDescriptor y.desc).map (fun d => d.parameters.length) = some n) (hn : As.length = n) (hnL : nLY ≤ 21) (hl : Cond.methodLink "PascalMachineLaw" i y ∈ gt) (hsz : ls.size = 7) (hW : Nat.ble (rest.map fun v => v.category).sum 8 = true) (hd : decode b_Lw_law pc = .ok (.invokestatic i, 3)) (hc : cells + 1 ≤ room_1.cells) (hs : slots + 6 ≤ room_1.slots)
    (kk : ∀ (H1 : Heap) (locs1 : List Loc) (g1 : Nat → Int64), LI s zc zm a b o S' X g1 H1 → (k = 0 → g1 0 = r) → va_S (NF s) s.heap H1 locs1 → W p l e room_1 s m args below meth c H1 locs1 (cells + 1) (slots + 6) Q (F0 m (pc + 3) ls (.int (nI k) :: rest))) : W p l e room_1 s m args below meth c H locs cells slots Q (F0 m pc ls (As.reverse ++ rest)) := by
  obtain ⟨⟨hx, hb, hml, hown, hts⟩, hz, ⟨z1, z2, z3, z4, z5, z6⟩, hKc, hKm, hnc⟩ := L0
  obtain ⟨hIc, hIm, ho⟩ := hI
  have hwords : ∀ w ∈ Cond.codeWith y ccY nLY (some .int) hh :: gt, ∀ (a' : Array Value) (U : State), s.WarmedH U.vm → w.before a' U = true := by
    intro w hw a' U hW
    have hw' : w ∈ gt := by
      rcases List.mem_cons.mp hw with h | h
      · rw [h]; exact hcw
      · exact h
    exact word_at hW (gt_good w hw') (hts w hw')
  intro T hT X0
  have hK : Back l room_1 p e below s args y 3 8 (PreOf room_1 1 6 (va_Pc As (LPr zc o (cwT zc a S)))) (PostOf (LQ zc o k r (cwT zc a S')) 1 6 (LA zc o)) := by
    refine va_backW (hh := hh) (bytes := ccY) (maxL := nLY) (ret := some .int) hM ?_ rfl rfl (by decide) (by show 8 + (nLY + 11) + (40 * 63 + 200) ≤ 84000; omega) hwords List.mem_cons_self (fun a' U hW => word_at hW (gt_good _ hini) (hts _ hini))
    intro a' U g mk ⟨q0, q1, q2, q3, q4⟩
    exact ⟨q0, q1.blind g mk _, q2, q3, NCs.same (u := U) rfl q4⟩
  obtain ⟨mk, methM, cM, hnamed, hmethM, -, -, -, -, -, -, hsigM⟩ := Cond.codeWith_spec (hts _ hcw)
  have hstatic : methM.isStatic = true := Cond.static_spec hnamed hmethM (hts _ hst)
  obtain ⟨kP, hkP, -⟩ := className_of_methodNamed hnamed
  have hinitP : kP.init = .initialized := Cond.initialized_spec (findClass_of_methodNamed hnamed) hkP (hts _ hini)
  obtain ⟨vm₁, X₁, hstep₁⟩ := X0.invokestatic hx hown (hts _ hl) hnamed hmethM hstatic hkP hinitP hyd (g := F0 m pc ls (As.reverse ++ rest)) rfl (argsL := As) (rest := rest) (by rw [hsigM] at hyn; exact hn.trans (Option.some.inj hyn).symm) rfl (by rw [hb]; exact hd)
  have hpre : LPr zc o (cwT zc a S) (T.setVm vm₁) := by
    refine ⟨XP.at (Gz_ok zc) hKc hIc (fun q q1 _ => hS.2.1 q q1 (by show ¬ s.heap.size ≤ q; omega)) hT X₁.warmed, ⟨g, ?_⟩, z5, hnc.warm X₁.warmed⟩
    show va_at zc.1 classes (o, outE zc g) T.heap
    rw [hT]; exact ho
  obtain ⟨v, B, X', hpost, hsteps⟩ := hK m meth c ⟨T.setVm vm₁, locs, cells, slots⟩ (F0 m pc ls rest) (.invokestatic i) mk As.toArray X₁ rfl (by rw [hml]; exact hsz) (by rw [hb]; exact hd) (lv_room (Nat.le_of_ble_eq_true hW)) (X₁.named hnamed) ⟨hc, hs, rfl, hpre⟩
  obtain ⟨B1, B2, B3, B4⟩ := B
  obtain ⟨g', mk', t, L, e1, e2, ⟨q1, q2, ⟨g1, q3, q4⟩, q5⟩, e3, e4, e5, e6⟩ := hpost
  dsimp only [Pt.U, Pt.locs, Pt.cells, Pt.slots] at X' e1 e2 e3 e5 e6 hsteps
  subst e3; subst e5; subst e6
  cases q1
  have f1 : H.size ≤ B1.heap.size := by rw [e1, ← hT]; exact q5.1
  have f2 : ∀ q : Nat, q < H.size → ¬ LA zc o q → B1.heap[q]? = H[q]? := by
    intro q h1 h2
    rw [e1, ← hT]
    exact q5.2 q (by show q < T.heap.size; rw [hT]; exact h1) h2
  have hIm1 : KI (Gz zm) (mw zm b X) s B1.heap := hIm.frame f2 (fun q hq => by
    rintro (h | h)
    · exact z4 q h hq
    · rw [h] at hq; exact z6 hq)
  have hIc1 : KI (Gz zc) (cwT zc a S') s B1.heap := by
    rw [e1]
    have : KI (Gz zc) (cwT zc a S') t t.heap := q2
    exact this.moved (by rw [← e2]; exact X'.warmed.alike.symm)
  have ho1 : va_at zc.1 classes (o, outE zc g1) B1.heap := by rw [e1]; exact q3
  have hS1 : va_S (NF s) s.heap B1.heap (locs ++ L) := by
    refine ⟨Nat.le_trans hS.1 f1, fun q h1 h2 => ?_, fun q hq => ?_⟩
    · rw [f2 q (Nat.lt_of_lt_of_le h1 hS.1) (by rintro (h | h); exact h2 (z1 q h); exact h2 (by rw [h]; exact z3))]
      exact hS.2.1 q h1 h2
    · rcases List.mem_append.mp hq with h | h
      · exact hS.2.2 q h
      · rcases e4 q h with h | h
        · exact z1 _ h
        · show s.heap.size ≤ q.base; rw [h]; exact z3
  obtain ⟨t2, a1, b1⟩ := kk B1.heap (locs ++ L) g1 ⟨hIc1, hIm1, ho1⟩ q4 hS1 B1 rfl X'
  exact ⟨t2, hstep₁ _ fun acts => by rw [doInvoke_state]; exact hsteps.trans a1, b1⟩
/-- a method of the Model is called -/
theorem WcallM (L0 : LX p l s m args c zc zm o) (hI : LI s zc zm a b o S X g H) (hS : va_S (NF s) s.heap H locs) {y : MethodName} {ccY : ByteArray} {nLY n i : Nat} {As : List Value} {v : Int32} (hM : XC l (Gz zm) 62 y ccY nLY (some .int) (.ref (b 0) :: As) (mw zm b X) (.inl (some (.int v))) (mw zm b X')) (Y : Yw y ccY nLY (some .int) n) (hcl : classes[6]? = some (y.cls, F_Mo, 59)) (hn : As.length = n) (hl : Cond.methodLink "PascalMachineLaw" i y ∈ gt) (hsz : ls.size = 7) (hW : Nat.ble (rest.map fun v => v.category).sum 8 = true) (hd : decode b_Lw_law pc = .ok (.invokevirtual i, 3)) (hc : cells + 1 ≤ room_1.cells) (hs : slots + 6 ≤ room_1.slots)
    (kk : ∀ (H1 : Heap) (locs1 : List Loc), LI s zc zm a b o S X' g H1 → va_S (NF s) s.heap H1 locs1 → W p l e room_1 s m args below meth c H1 locs1 cells slots Q (F0 m (pc + 3) ls (.int v :: rest))) : W p l e room_1 s m args below meth c H locs cells slots Q (F0 m pc ls (As.reverse ++ .ref (b 0) :: rest)) := by
  obtain ⟨⟨hx, hb, hml, hown, hts⟩, hz, ⟨z1, z2, z3, z4, z5, z6⟩, hKc, hKm, hnc⟩ := L0
  obtain ⟨hIc, hIm, ho⟩ := hI
  refine WcallV hx hb hml hown hts hM Y hl (va_recv hIm.1 hIm.2.1 (ci := 6) (q0 := 0) hcl rfl) (fun T vm₁ hT hW => XP.at (Gz_ok zm) hKm hIm (fun q q1 _ => hS.2.1 q q1 (by show ¬ s.heap.size ≤ q; omega)) hT hW) hn hsz rfl (Nat.le_of_ble_eq_true hW) ⟨by show 62 + 9 ≤ 2048; decide, by show 40 * 62 + 240 ≤ 84000; decide, hc, hs⟩ hd (fun H1 L k1 k2 k3 k4 => ?_)
  refine kk H1 _ ⟨hIc.frame k3 (fun q hq => z4 q hq), k1, ?_⟩ ⟨Nat.le_trans hS.1 k2, fun q h1 h2 => ?_, fun q hq => ?_⟩
  · have h1 : H[o]? = some (vp_cell zc.2.1.2.1 (1, .inr (.inl g))) := ho
    show H1[o]? = _
    rw [k3 o (Array.getElem?_eq_some_iff.mp h1).1 z6]
    exact h1
  · rw [k3 q (Nat.lt_of_lt_of_le h1 hS.1) (fun h => h2 (z2 q h))]
    exact hS.2.1 q h1 h2
  · rcases List.mem_append.mp hq with h | h
    · exact hS.2.2 q h
    · exact z2 _ (k4 q h)
/-- the class's fault() is called -/
theorem WcallF (L0 : LX p l s m args c zc zm o) (hI : LI s zc zm a b o S X g H) (hS : va_S (NF s) s.heap H locs) {y : MethodName} {ccY : ByteArray} {nLY n i : Nat} {As : List Value} {v : Int32} (hM : XC l (Gz zc) 62 y ccY nLY (some .int) (.ref (a 0) :: As) (cwT zc a S) (.inl (some (.int v))) (cwT zc a S')) (Y : Yw y ccY nLY (some .int) n) (hcl : classes[5]? = some (y.cls, F_PM, 5)) (hn : As.length = n) (hl : Cond.methodLink "PascalMachineLaw" i y ∈ gt) (hsz : ls.size = 7) (hW : Nat.ble (rest.map fun v => v.category).sum 8 = true) (hd : decode b_Lw_law pc = .ok (.invokevirtual i, 3)) (hc : cells + 1 ≤ room_1.cells) (hs : slots + 6 ≤ room_1.slots)
    (kk : ∀ (H1 : Heap) (locs1 : List Loc), LI s zc zm a b o S' X g H1 → va_S (NF s) s.heap H1 locs1 → W p l e room_1 s m args below meth c H1 locs1 cells slots Q (F0 m (pc + 3) ls (.int v :: rest))) : W p l e room_1 s m args below meth c H locs cells slots Q (F0 m pc ls (As.reverse ++ .ref (a 0) :: rest)) := by
  obtain ⟨⟨hx, hb, hml, hown, hts⟩, hz, ⟨z1, z2, z3, z4, z5, z6⟩, hKc, hKm, hnc⟩ := L0
  obtain ⟨hIc, hIm, ho⟩ := hI
  refine WcallV hx hb hml hown hts hM Y hl (va_recv hIc.1 hIc.2.1 (ci := 5) (q0 := 0) hcl rfl) (fun T vm₁ hT hW => XP.at (Gz_ok zc) hKc hIc (fun q q1 _ => hS.2.1 q q1 (by show ¬ s.heap.size ≤ q; omega)) hT hW) hn hsz rfl (Nat.le_of_ble_eq_true hW) ⟨by show 62 + 9 ≤ 2048; decide, by show 40 * 62 + 240 ≤ 84000; decide, hc, hs⟩ hd (fun H1 L k1 k2 k3 k4 => ?_)
  refine kk H1 _ ⟨k1, hIm.frame k3 (fun q hq h => z4 q h hq), ?_⟩ ⟨Nat.le_trans hS.1 k2, fun q h1 h2 => ?_, fun q hq => ?_⟩
  · have h1 : H[o]? = some (vp_cell zc.2.1.2.1 (1, .inr (.inl g))) := ho
    show H1[o]? = _
    rw [k3 o (Array.getElem?_eq_some_iff.mp h1).1 z5]
    exact h1
  · rw [k3 q (Nat.lt_of_lt_of_le h1 hS.1) (fun h => h2 (z1 q h))]
    exact hS.2.1 q h1 h2
  · rcases List.mem_append.mp hq with h | h
    · exact hS.2.2 q h
    · exact z1 _ (k4 q h)
end RD
