/-! ===== the beginning ===== -/
section RG1
variable {D : va_G} {cl : List vw_C} {A : Nat → Prop} {ws w w1 w2 : va_W} {H : Heap}
theorem sub_at {is : List Nat} (h : is.map (fun i => ws[i]?) = w.map some) {k : Nat} {x : Nat × va_E} (hx : w[k]? = some x) : ∃ i, is[k]? = some i ∧ ws[i]? = some x := by
  have h1 : (is.map (fun i => ws[i]?))[k]? = some (some x) := by rw [h, List.getElem?_map, hx]; rfl
  rw [List.getElem?_map] at h1
  exact Option.map_eq_some_iff.mp h1
theorem sub_P (hP : va_P D cl ws H) {is : List Nat} (h : is.map (fun i => ws[i]?) = w.map some) : va_P D cl w H := fun k x hx => by
  obtain ⟨i, -, hi⟩ := sub_at h hx
  exact hP i x hi
/-- the addresses of a list of cells -/
def adr (w : va_W) : Nat → Prop := fun q => ∃ (k : Nat) (en : va_E), w[k]? = some (q, en)
theorem sub_D (hD : va_D A ws) {is : List Nat} (hn : is.Nodup) (h : is.map (fun i => ws[i]?) = w.map some) : va_D (adr w) w := by
  refine ⟨fun i j x y hi hj hxy => ?_, fun k x hx => ⟨k, x.2, hx⟩⟩
  obtain ⟨i', i1, i2⟩ := sub_at h hi
  obtain ⟨j', j1, j2⟩ := sub_at h hj
  have e := hD.1 i' j' x y i2 j2 hxy
  subst e
  exact (List.getElem?_inj (List.getElem?_eq_some_iff.mp i1).1 hn).mp (i1.trans j1.symm)
theorem sub_in (hD : va_D A ws) {is : List Nat} (h : is.map (fun i => ws[i]?) = w.map some) : ∀ q, adr w q → A q := by
  intro q ⟨k, en, hk⟩
  obtain ⟨i, -, hi⟩ := sub_at h hk
  exact hD.2 i _ hi
theorem sub_apart (hD : va_D A ws) {is1 is2 : List Nat} (h1 : is1.map (fun i => ws[i]?) = w1.map some) (h2 : is2.map (fun i => ws[i]?) = w2.map some) (hd : ∀ i ∈ is1, i ∉ is2) : ∀ q, adr w1 q → ¬ adr w2 q := by
  intro q ⟨k, en, hk⟩ ⟨k2, en2, hk2⟩
  obtain ⟨i, a1, a2⟩ := sub_at h1 hk
  obtain ⟨j, b1, b2⟩ := sub_at h2 hk2
  have e := hD.1 i j _ _ a2 b2 rfl
  subst e
  exact hd i (List.mem_of_getElem? a1) (List.mem_of_getElem? b1)
theorem KI.of {tys : List (ClassId × FieldType)} {Kp : State → Heap → Prop} {s : State} (hK : va_K D classes tys s) (hP : va_P D classes ws H) (hD : va_D A ws) {is : List Nat} (hn : is.Nodup) (h : is.map (fun i => ws[i]?) = w.map some) : KI (D, tys, adr w, Kp) w s H :=
  ⟨hK, sub_P hP h, sub_D hD hn h, fun _ hq => hq⟩
end RG1
section RG2
variable {p : Program} {l : Launch} {e : Env} {R : Room} {s : State} {m : MethodId} {args : Array Value} {below : List Frame} {meth : Method} {c : Code} {D : va_G} {tys : List (ClassId × FieldType)} {A : Nat → Prop} {nL cells slots : Nat} {Q : State → Prop} {ws wr : va_W} {pc : Nat} {cc : ByteArray} {own : String} {H : Heap} {locs : List Loc} {ls : Array Slot}
theorem WcallN (hx : p.tables.exec = Jvm.exec) (hb : c.code = cc) (hml : c.maxLocals = nL) (hown : s.vm.findClass own = some m.cls) (hts : ∀ w ∈ gt, w.before args s = true) (hNS : NSt s) (hA : ∀ q : Nat, s.heap.size ≤ q → A q) {fr lo mc ms : Nat} {y : MethodName} {ccY : ByteArray} {ci : Nat} {fs : List Value} {mk : Nat → (Nat → Nat) → va_W} (hM : NC l D tys fr lo mc ms y ccY ci fs mk) (hc : Cond.code y ccY 1 none ∈ gt) (hi : Cond.initialized y.cls ∈ gt) {i : Nat} (hl : Cond.methodLink own i y ∈ gt) (hin : Cond.instanceMethod y ∈ gt) (hy : y.name = "<init>") (hyd : y.cls ≠ "java/lang/invoke/MethodHandle" ∧ y.cls ≠ "java/lang/invoke/VarHandle" ∧ (parseMethodDescriptor y.desc).map (fun d => d.parameters.length) = some 0) (hK : va_K D classes tys s) (hP : va_P D classes ws H) (hD : va_D A ws) (hS : va_S A s.heap H locs) {q : Nat} {rest : List Value} (isC isR : List Nat) (hC : isC.map (fun i => ws[i]?) = [(q, (.inr (ci, fs) : va_E))].map some) (hR : isR.map (fun i => ws[i]?) = wr.map some) (hn : va_nd isR = true) (hdis : ∀ i ∈ isR, i ∉ isC)
    (hroom : fr + 1 ≤ R.frames ∧ 8 + (1 + 11) + lo ≤ R.locals) (hcs : cells + mc ≤ R.cells ∧ slots + ms ≤ R.slots) (hsz : ls.size = nL) (hW : Nat.ble (rest.map fun v => v.category).sum 8 = true) (hd : decode cc pc = .ok (.invokespecial i, 3))
    (kk : ∀ (f : Nat → Nat) (H1 : Heap) (locs1 : List Loc), va_P D classes (wr ++ mk q f) H1 → va_D A (wr ++ mk q f) → va_S A s.heap H1 locs1 → W p l e R s m args below meth c H1 locs1 (cells + mc) (slots + ms) Q (F0 m (pc + 3) ls rest)) : W p l e R s m args below meth c H locs cells slots Q (F0 m pc ls (.ref q :: rest)) := by
  have hPc : va_P D classes [(q, .inr (ci, fs))] H := sub_P hP hC
  have hDc : va_D (fun _ => True) [(q, (.inr (ci, fs) : va_E))] := by
    refine ⟨fun i j p q h1 h2 _ => ?_, fun _ _ _ => trivial⟩
    have a1 : i < 1 := (List.getElem?_eq_some_iff.mp h1).1
    have a2 : j < 1 := (List.getElem?_eq_some_iff.mp h2).1
    omega
  have hFc := va_free (wc := [(q, .inr (ci, fs))]) hD hS hA isC hC
  refine va_callv (va_runI (As := []) (rest := rest) ⟨hx, hb, hml, hown, hts⟩ (hM q H.size) (cwI 0 hts (gt_in y hc) rfl rfl rfl (hts _ hi) (hts _ hl) (hts _ hin) hy hyd hroom) ⟨fun a U g mk q => by obtain ⟨q0, q1, qP, qK, qA, qD⟩ := q; exact ⟨q0, q1, qP, va_K.moved (u := U) (U := U.calling g mk a) (Vm.Alike.refl U.vm) qK, NSt.same (u := U) (U := U.calling g mk a) rfl qA, qD⟩, fun U hU hW => ⟨rfl, by rw [hU], by rw [hU]; exact hPc, va_K.moved hW.alike hK, NSt.warm hW hNS, hDc⟩⟩ rfl rfl hsz rfl (lv_room (Nat.le_of_ble_eq_true hW)) hd hcs) hS (fun q _ h => hFc q h) hFc (fun u t H1 locs ht hvm hw hB hz1 hk1 hS1 => ?_)
  obtain ⟨hP1, hD1⟩ := hB
  rw [ht] at hP1
  obtain ⟨hP2, hD2⟩ := va_join hP hD isC isR hC hR hn hdis hk1 hFc hP1 hD1
  exact kk u H1 locs hP2 hD2 hS1
end RG2
theorem arr_of {args : Array Value} {s : State} {ty : FieldType} (h : (Cond.arrayClass ty).before args s = true) (hr : ∀ c, s.vm.findClass ("[" ++ ty.toString) = some c → va_RA s c ty) : ∃ c : ClassId, ArrOfT s c ty ∧ va_RA s c ty := by
  obtain ⟨c, k, comp, h1, h2, h3⟩ := Cond.arrayClass_spec h
  exact ⟨c, fun N z => ⟨(fun k h => by cases h), k, h2, comp, h3⟩, hr c h1⟩
theorem arr_ofK {s : State} (h : va_AO R_Kd s) : ∃ c : ClassId, ArrOfT s c (.object R_Kd) ∧ va_RA s c (.object R_Kd) := by
  obtain ⟨comp, c, k, h1, -, h2, h3, h4⟩ := Cond.arrayOver_spec h
  exact ⟨c, fun N z => ⟨(fun k h => by cases h), k, h2, comp, h3⟩, k, comp, h2, h3, h1, h4⟩
