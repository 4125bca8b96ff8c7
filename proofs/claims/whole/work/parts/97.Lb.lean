/-! ===== a helper's call ===== -/
section LB
variable {l : Launch} {z : Zt} {p : Program} {e : Env} {s : State} {m : MethodId} {args : Array Value} {below : List Frame} {meth : Method} {c : Code} {ws ws1 : va_W} {pc : Nat} {ls : Array Slot} {cc : ByteArray} {nL o : Nat} {hh : List (Nat × Nat × Nat × Nat)}
variable {h h' : Nat} {y : MethodName} {ccY : ByteArray} {nLY n i b : Nat} {As : List Value} {fs : List Value} {g : Nat → Int64} {r : Int32}
theorem at_kept {H H1 : Heap} (ho : va_at z.1 classes (o, outE z g) H) (hn : ¬ z.2.2.1 o) (hk : ∀ q : Nat, q < H.size → ¬ z.2.2.1 q → H1[q]? = H[q]?) : va_at z.1 classes (o, outE z g) H1 := by
  have h1 : H[o]? = some (vp_cell z.2.1.2.1 (1, .inr (.inl g))) := ho
  have h2 : o < H.size := (Array.getElem?_eq_some_iff.mp h1).1
  show H1[o]? = _
  rw [hk o h2 hn]
  exact h1
theorem hl_call (C : HC p s m args meth c z cc nL hh o) (hI : KI (Gz z) ws s s.heap) (ho : va_at z.1 classes (o, outE z g) s.heap) (hM : XC l (Gz z) h y ccY nLY (some .int) (.ref b :: As) ws (.inl (some (.int r))) ws1) (Y : Yw y ccY nLY (some .int) n) (hl : Cond.methodLink "PascalMachineLaw" i y ∈ gt) (hc : classes[5]? = some (y.cls, F_PM, 5)) (he : ws[0]? = some (b, .inr (5, fs))) (hn : As.length = n) (hsz : ls.size = nL) (hh1 : h < h') (hd : decode cc pc = .ok (.invokevirtual i, 3))
    {off : Int} {tgt : Nat} (d1 : decode cc (pc + 3) = .ok (.i2l, 1)) (d2 : decode cc (pc + 3 + 1) = .ok (.lastore, 1)) (d3 : decode cc (pc + 3 + 1 + 1) = .ok (.goto off, 3)) (ht : ((pc + 3 + 1 + 1 : Nat) : Int) + off = (tgt : Int)) (d4 : decode cc tgt = .ok (.iconst 0, 1)) (d5 : decode cc (tgt + 1) = .ok (.ireturn, 1)) : W p l e (Rm h') s m args below meth c s.heap [] 0 0 (MQ below (LQ z o 0 r.toInt64 ws1) args s 1 6 (LA z o)) (F0 m pc ls (As.reverse ++ .ref b :: [.int (nI 0), .ref o])) := by
  have C' := C
  obtain ⟨hx, hb, hml, hown, hts, hr, hlk, htab, hK, hno, hnc⟩ := C
  refine WcallV hx hb hml hown hts hM Y hl (va_recv hI.1 hI.2.1 (ci := 5) (q0 := 0) hc he) (fun T vm₁ hT hW => XP.at (Gz_ok z) hK hI (fun q _ _ => rfl) hT hW) hn hsz rfl (Nat.le_of_ble_eq_true rfl) (Rok.lt hh1) hd (fun H1 L k1 k2 k3 k4 => ?_)
  exact hl_ok C' k1 (at_kept ho hno k3) ⟨k2, fun q q1 q2 => k3 q q1 (fun hq => q2 (Or.inl hq)), fun q hq => Or.inl (k4 q hq)⟩ (by decide) (by decide) d1 d2 d3 ht d4 d5
theorem hl_callX (C : HC p s m args meth c z cc nL hh o) (hI : KI (Gz z) ws s s.heap) (ho : va_at z.1 classes (o, outE z g) s.heap) {E : String} {ret : Option FieldType} (hM : XC l (Gz z) h y ccY nLY ret (.ref b :: As) ws (.inr E) ws1) (Y : Yw y ccY nLY ret n) (hl : Cond.methodLink "PascalMachineLaw" i y ∈ gt) (hc : classes[5]? = some (y.cls, F_PM, 5)) (he : ws[0]? = some (b, .inr (5, fs))) (hn : As.length = n) (hsz : ls.size = nL) (hh1 : h < h') (hd : decode cc pc = .ok (.invokevirtual i, 3))
    {x : ExceptionTableEntry} {pre post : List ExceptionTableEntry} {nm : Nat → String} {Q : State → Prop} (htb : c.exceptionTable.toList = pre ++ x :: post) (hpre : ∀ y ∈ pre, covers y pc = true ∧ Hpass "PascalMachineLaw" E args s nm y) (hfit : Hfit "PascalMachineLaw" E args s nm x) (hcv : covers x pc = true)
    (k : ∀ (H1 : Heap) (locs1 : List Loc) (q : Nat), KI (Gz z) ws1 s H1 → va_at z.1 classes (o, outE z g) H1 → va_S (LA z o) s.heap H1 locs1 → W p l e (Rm h') s m args below meth c H1 locs1 1 6 Q (F0 m x.handlerPc ls [.ref q])) : W p l e (Rm h') s m args below meth c s.heap [] 0 0 Q (F0 m pc ls (As.reverse ++ .ref b :: [.int (nI 0), .ref o])) := by
  obtain ⟨hx, hb, hml, hown, hts, hr, hlk, htab, hK, hno, hnc⟩ := C
  refine WcallVX hx hb hml hown hts hM Y hl (va_recv hI.1 hI.2.1 (ci := 5) (q0 := 0) hc he) (fun T vm₁ hT hW => XP.at (Gz_ok z) hK hI (fun q _ _ => rfl) hT hW) hn hsz rfl (Nat.le_of_ble_eq_true rfl) (Rok.lt hh1) hd (fun H1 L q ce k1 k2 k3 k4 k5 k6 k7 => ?_)
  refine VT.catch hown htb hpre hfit hcv k5 k6 k7 ?_
  exact k H1 _ q k1 (at_kept ho hno k3) ⟨k2, fun q q1 q2 => k3 q q1 (fun hq => q2 (Or.inl hq)), fun q hq => Or.inl (k4 q (by simpa using hq))⟩
/-- the table as entries -/
def ent (q : Nat × Nat × Nat × Nat) : ExceptionTableEntry := ⟨q.1, q.2.1, q.2.2.1, q.2.2.2⟩
theorem tab_ent {t : List ExceptionTableEntry} {hh : List (Nat × Nat × Nat × Nat)} (h : t.map (fun h => (h.startPc, h.endPc, h.handlerPc, h.catchType)) = hh) : t = hh.map ent := by
  subst h
  rw [List.map_map]
  have : (ent ∘ fun h : ExceptionTableEntry => (h.startPc, h.endPc, h.handlerPc, h.catchType)) = id := by
    funext x; rfl
  rw [this, List.map_id]
def exNm (i : Nat) : String := if i = 13 then IAE else if i = 15 then ISE else if i = 28 then NSE else if i = 30 then ARE else IOE
theorem exNm_link (i : Nat) (h : i = 13 ∨ i = 15 ∨ i = 28 ∨ i = 30 ∨ i = 32) : Cond.classLink "PascalMachineLaw" i (exNm i) ∈ gt ∧ exNm i ∈ exN ∧ i ≠ 0 := by
  rcases h with rfl | rfl | rfl | rfl | rfl
  · exact ⟨k_Lw_13, by decide +kernel, by decide⟩
  · exact ⟨k_Lw_15, by decide +kernel, by decide⟩
  · exact ⟨k_Lw_28, by decide +kernel, by decide⟩
  · exact ⟨k_Lw_30, by decide +kernel, by decide⟩
  · exact ⟨k_Lw_32, by decide +kernel, by decide⟩
theorem hpass {E : String} {a b c d : Nat} (hts : ∀ w ∈ gt, w.before args s = true) (hnc : NCs s) (hE : E ∈ exN) (hd : d = 13 ∨ d = 15 ∨ d = 28 ∨ d = 30 ∨ d = 32) (hne : E ≠ exNm d) : Hpass "PascalMachineLaw" E args s exNm (ent (a, b, c, d)) := by
  obtain ⟨h1, h2, h3⟩ := exNm_link d hd
  exact ⟨h3, hts _ h1, (hnc E hE).2 _ h2 hne⟩
theorem hfit {E : String} {a b c d : Nat} (hts : ∀ w ∈ gt, w.before args s = true) (hnc : NCs s) (hE : E ∈ exN) (hd : d = 13 ∨ d = 15 ∨ d = 28 ∨ d = 30 ∨ d = 32) (he : exNm d = E) : Hfit "PascalMachineLaw" E args s exNm (ent (a, b, c, d)) := by
  obtain ⟨h1, h2, h3⟩ := exNm_link d hd
  exact ⟨h3, hts _ h1, he, (hnc E hE).1⟩
end LB
