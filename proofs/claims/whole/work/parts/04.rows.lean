/-! ===== an instruction, a row, over V ===== -/
/-- a truth as the machine has it -/
def bI (b : Bool) : Int32 := if b then nI 1 else nI 0
section VS
variable {p : Program} {l : Launch} {e : Env} {R : Room} {s : State} {m : MethodId} {args : Array Value} {below : List Frame} {meth : Method} {c : Code} {G : Gm} {nL cells slots : Nat} {Q : State → Prop} {ws ws' : va_W} {pc : Nat} {lv lv' : List (Nat × Value)} {sk rest : List Value}
variable {cc : ByteArray} {ret : Option FieldType} {own : String}
theorem V.iconst (C : Cx p s m args meth c G cc nL ret own) {n : Int} {v : Int32} (hd : decode cc pc = .ok (.iconst n, 1)) (hv : Int32.ofInt n = v) (kk : V p l e R s m args below meth c G nL cells slots Q ws (pc + 1) lv (.int v :: sk)) : V p l e R s m args below meth c G nL cells slots Q ws pc lv (sk) := by
  obtain ⟨hx, hb, hml, hown, hts, hr, hlk, hE, hk, hK, hns⟩ := C
  intro H locs ls hI hS hl
  exact lv_iconst hx hb hd hv (kk H locs ls hI hS hl)
theorem V.bipush (C : Cx p s m args meth c G cc nL ret own) {n : Int} {v : Int32} (hd : decode cc pc = .ok (.bipush n, 2)) (hv : (Int8.ofInt n).toInt32 = v) (kk : V p l e R s m args below meth c G nL cells slots Q ws (pc + 2) lv (.int v :: sk)) : V p l e R s m args below meth c G nL cells slots Q ws pc lv (sk) := by
  obtain ⟨hx, hb, hml, hown, hts, hr, hlk, hE, hk, hK, hns⟩ := C
  intro H locs ls hI hS hl
  exact lv_bipush hx hb hd hv (kk H locs ls hI hS hl)
theorem V.sipush (C : Cx p s m args meth c G cc nL ret own) {n : Int} {v : Int32} (hd : decode cc pc = .ok (.sipush n, 3)) (hv : (Int16.ofInt n).toInt32 = v) (kk : V p l e R s m args below meth c G nL cells slots Q ws (pc + 3) lv (.int v :: sk)) : V p l e R s m args below meth c G nL cells slots Q ws pc lv (sk) := by
  obtain ⟨hx, hb, hml, hown, hts, hr, hlk, hE, hk, hK, hns⟩ := C
  intro H locs ls hI hS hl
  exact lv_sipush hx hb hd hv (kk H locs ls hI hS hl)
theorem V.lconst (C : Cx p s m args meth c G cc nL ret own) {n : Fin 2} {v : Int64} (hd : decode cc pc = .ok (.lconst n, 1)) (hv : Int64.ofNat (n : Nat) = v) (kk : V p l e R s m args below meth c G nL cells slots Q ws (pc + 1) lv (.long v :: sk)) : V p l e R s m args below meth c G nL cells slots Q ws pc lv (sk) := by
  obtain ⟨hx, hb, hml, hown, hts, hr, hlk, hE, hk, hK, hns⟩ := C
  intro H locs ls hI hS hl
  exact lv_lconst hx hb hd hv (kk H locs ls hI hS hl)
theorem V.ldc (C : Cx p s m args meth c G cc nL ret own) {i : Nat} {v : Int32} (hd : decode cc pc = .ok (.ldc i, 2)) (hw : Cond.constant own i v ∈ gt) (kk : V p l e R s m args below meth c G nL cells slots Q ws (pc + 2) lv (.int v :: sk)) : V p l e R s m args below meth c G nL cells slots Q ws pc lv (sk) := by
  obtain ⟨hx, hb, hml, hown, hts, hr, hlk, hE, hk, hK, hns⟩ := C
  intro H locs ls hI hS hl
  exact lv_ldc hx hb hown (hts _ hw) hd (kk H locs ls hI hS hl)
theorem V.ldc2 (C : Cx p s m args meth c G cc nL ret own) {i : Nat} {v : Int64} (hd : decode cc pc = .ok (.ldc2_w i, 3)) (hw : Cond.constantLong own i v ∈ gt) (kk : V p l e R s m args below meth c G nL cells slots Q ws (pc + 3) lv (.long v :: sk)) : V p l e R s m args below meth c G nL cells slots Q ws pc lv (sk) := by
  obtain ⟨hx, hb, hml, hown, hts, hr, hlk, hE, hk, hK, hns⟩ := C
  intro H locs ls hI hS hl
  exact lv_ldc2 hx hb hown (hts _ hw) hd (kk H locs ls hI hS hl)
theorem V.iload_n (C : Cx p s m args meth c G cc nL ret own) {k : Fin 4} {x : Int32} (hd : decode cc pc = .ok (.iload_n k, 1)) (hv : lk lv k = some (.int x)) (kk : V p l e R s m args below meth c G nL cells slots Q ws (pc + 1) lv (.int x :: sk)) : V p l e R s m args below meth c G nL cells slots Q ws pc lv (sk) := by
  obtain ⟨hx, hb, hml, hown, hts, hr, hlk, hE, hk, hK, hns⟩ := C
  intro H locs ls hI hS hl
  exact lv_iload_n hx hb hd rfl (lv_lk hl hv) (kk H locs ls hI hS hl)
theorem V.iload (C : Cx p s m args meth c G cc nL ret own) {i : Nat} {x : Int32} (hd : decode cc pc = .ok (.iload i, 2)) (hv : lk lv i = some (.int x)) (kk : V p l e R s m args below meth c G nL cells slots Q ws (pc + 2) lv (.int x :: sk)) : V p l e R s m args below meth c G nL cells slots Q ws pc lv (sk) := by
  obtain ⟨hx, hb, hml, hown, hts, hr, hlk, hE, hk, hK, hns⟩ := C
  intro H locs ls hI hS hl
  exact lv_iload hx hb hd (lv_lk hl hv) (kk H locs ls hI hS hl)
theorem V.istore_n (C : Cx p s m args meth c G cc nL ret own) {k : Fin 4} {x : Int32} (hd : decode cc pc = .ok (.istore_n k, 1)) (hn : (k : Nat) < nL) (hv : pt k (.int x) lv = lv') (kk : V p l e R s m args below meth c G nL cells slots Q ws (pc + 1) lv' (sk)) : V p l e R s m args below meth c G nL cells slots Q ws pc lv (.int x :: sk) := by
  obtain ⟨hx, hb, hml, hown, hts, hr, hlk, hE, hk, hK, hns⟩ := C
  intro H locs ls hI hS hl
  subst hv
  exact lv_istore_n hx hb hd rfl hl hn rfl (fun ls' hl' => kk H locs ls' hI hS (lv_pt hl'))
theorem V.istore (C : Cx p s m args meth c G cc nL ret own) {i : Nat} {x : Int32} (hd : decode cc pc = .ok (.istore i, 2)) (hn : i < nL) (hv : pt i (.int x) lv = lv') (kk : V p l e R s m args below meth c G nL cells slots Q ws (pc + 2) lv' (sk)) : V p l e R s m args below meth c G nL cells slots Q ws pc lv (.int x :: sk) := by
  obtain ⟨hx, hb, hml, hown, hts, hr, hlk, hE, hk, hK, hns⟩ := C
  intro H locs ls hI hS hl
  subst hv
  exact lv_istore hx hb hd hl hn rfl (fun ls' hl' => kk H locs ls' hI hS (lv_pt hl'))
theorem V.lload_n (C : Cx p s m args meth c G cc nL ret own) {k : Fin 4} {x : Int64} (hd : decode cc pc = .ok (.lload_n k, 1)) (hv : lk lv k = some (.long x)) (kk : V p l e R s m args below meth c G nL cells slots Q ws (pc + 1) lv (.long x :: sk)) : V p l e R s m args below meth c G nL cells slots Q ws pc lv (sk) := by
  obtain ⟨hx, hb, hml, hown, hts, hr, hlk, hE, hk, hK, hns⟩ := C
  intro H locs ls hI hS hl
  exact lv_lload_n hx hb hd rfl (lv_lk hl hv) (kk H locs ls hI hS hl)
theorem V.lload (C : Cx p s m args meth c G cc nL ret own) {i : Nat} {x : Int64} (hd : decode cc pc = .ok (.lload i, 2)) (hv : lk lv i = some (.long x)) (kk : V p l e R s m args below meth c G nL cells slots Q ws (pc + 2) lv (.long x :: sk)) : V p l e R s m args below meth c G nL cells slots Q ws pc lv (sk) := by
  obtain ⟨hx, hb, hml, hown, hts, hr, hlk, hE, hk, hK, hns⟩ := C
  intro H locs ls hI hS hl
  exact lv_lload hx hb hd (lv_lk hl hv) (kk H locs ls hI hS hl)
theorem V.lstore_n (C : Cx p s m args meth c G cc nL ret own) {k : Fin 4} {x : Int64} (hd : decode cc pc = .ok (.lstore_n k, 1)) (hn : (k : Nat) + 1 < nL) (hv : pt2 k (.long x) lv = lv') (kk : V p l e R s m args below meth c G nL cells slots Q ws (pc + 1) lv' (sk)) : V p l e R s m args below meth c G nL cells slots Q ws pc lv (.long x :: sk) := by
  obtain ⟨hx, hb, hml, hown, hts, hr, hlk, hE, hk, hK, hns⟩ := C
  intro H locs ls hI hS hl
  subst hv
  exact lv_lstore_n hx hb hd rfl hl hn rfl (fun ls' hl' => kk H locs ls' hI hS (lv_pt hl'))
theorem V.lstore (C : Cx p s m args meth c G cc nL ret own) {i : Nat} {x : Int64} (hd : decode cc pc = .ok (.lstore i, 2)) (hn : i + 1 < nL) (hv : pt2 i (.long x) lv = lv') (kk : V p l e R s m args below meth c G nL cells slots Q ws (pc + 2) lv' (sk)) : V p l e R s m args below meth c G nL cells slots Q ws pc lv (.long x :: sk) := by
  obtain ⟨hx, hb, hml, hown, hts, hr, hlk, hE, hk, hK, hns⟩ := C
  intro H locs ls hI hS hl
  subst hv
  exact lv_lstore hx hb hd hl hn rfl (fun ls' hl' => kk H locs ls' hI hS (lv_pt hl'))
theorem V.aload_n (C : Cx p s m args meth c G cc nL ret own) {k : Fin 4} {x : Nat} (hd : decode cc pc = .ok (.aload_n k, 1)) (hv : lk lv k = some (.ref x)) (kk : V p l e R s m args below meth c G nL cells slots Q ws (pc + 1) lv (.ref x :: sk)) : V p l e R s m args below meth c G nL cells slots Q ws pc lv (sk) := by
  obtain ⟨hx, hb, hml, hown, hts, hr, hlk, hE, hk, hK, hns⟩ := C
  intro H locs ls hI hS hl
  exact lv_aload_n hx hb hd rfl (lv_lk hl hv) (kk H locs ls hI hS hl)
theorem V.aload (C : Cx p s m args meth c G cc nL ret own) {i : Nat} {x : Nat} (hd : decode cc pc = .ok (.aload i, 2)) (hv : lk lv i = some (.ref x)) (kk : V p l e R s m args below meth c G nL cells slots Q ws (pc + 2) lv (.ref x :: sk)) : V p l e R s m args below meth c G nL cells slots Q ws pc lv (sk) := by
  obtain ⟨hx, hb, hml, hown, hts, hr, hlk, hE, hk, hK, hns⟩ := C
  intro H locs ls hI hS hl
  exact lv_aload hx hb hd (lv_lk hl hv) (kk H locs ls hI hS hl)
theorem V.astore_n (C : Cx p s m args meth c G cc nL ret own) {k : Fin 4} {x : Nat} (hd : decode cc pc = .ok (.astore_n k, 1)) (hn : (k : Nat) < nL) (hv : pt k (.ref x) lv = lv') (kk : V p l e R s m args below meth c G nL cells slots Q ws (pc + 1) lv' (sk)) : V p l e R s m args below meth c G nL cells slots Q ws pc lv (.ref x :: sk) := by
  obtain ⟨hx, hb, hml, hown, hts, hr, hlk, hE, hk, hK, hns⟩ := C
  intro H locs ls hI hS hl
  subst hv
  exact lv_astore_n hx hb hd rfl hl hn rfl (fun ls' hl' => kk H locs ls' hI hS (lv_pt hl'))
theorem V.astore (C : Cx p s m args meth c G cc nL ret own) {i : Nat} {x : Nat} (hd : decode cc pc = .ok (.astore i, 2)) (hn : i < nL) (hv : pt i (.ref x) lv = lv') (kk : V p l e R s m args below meth c G nL cells slots Q ws (pc + 2) lv' (sk)) : V p l e R s m args below meth c G nL cells slots Q ws pc lv (.ref x :: sk) := by
  obtain ⟨hx, hb, hml, hown, hts, hr, hlk, hE, hk, hK, hns⟩ := C
  intro H locs ls hI hS hl
  subst hv
  exact lv_astore hx hb hd hl hn rfl (fun ls' hl' => kk H locs ls' hI hS (lv_pt hl'))
theorem V.iinc (C : Cx p s m args meth c G cc nL ret own) {i : Nat} {n : Int} {x v : Int32} (hd : decode cc pc = .ok (.iinc i n, 3)) (hv0 : lk lv i = some (.int x)) (hv1 : x + Int32.ofInt n = v) (hn : i < nL) (hv : pt i (.int v) lv = lv') (kk : V p l e R s m args below meth c G nL cells slots Q ws (pc + 3) lv' (sk)) : V p l e R s m args below meth c G nL cells slots Q ws pc lv (sk) := by
  obtain ⟨hx, hb, hml, hown, hts, hr, hlk, hE, hk, hK, hns⟩ := C
  intro H locs ls hI hS hl
  subst hv
  obtain ⟨k, hk⟩ := List.getElem?_of_mem (lk_mem hv0)
  exact lv_iinc hx hb hd hl hk hv1 hn rfl (fun ls' hl' => kk H locs ls' hI hS (lv_pt hl'))
theorem V.iadd (C : Cx p s m args meth c G cc nL ret own) {x y v : Int32} (hd : decode cc pc = .ok (.iadd, 1)) (hv : x + y = v) (kk : V p l e R s m args below meth c G nL cells slots Q ws (pc + 1) lv (.int v :: sk)) : V p l e R s m args below meth c G nL cells slots Q ws pc lv (.int y :: .int x :: sk) := by
  obtain ⟨hx, hb, hml, hown, hts, hr, hlk, hE, hk, hK, hns⟩ := C
  intro H locs ls hI hS hl
  subst hv
  exact lv_iadd hx hb hd (kk H locs ls hI hS hl)
theorem V.isub (C : Cx p s m args meth c G cc nL ret own) {x y v : Int32} (hd : decode cc pc = .ok (.isub, 1)) (hv : x - y = v) (kk : V p l e R s m args below meth c G nL cells slots Q ws (pc + 1) lv (.int v :: sk)) : V p l e R s m args below meth c G nL cells slots Q ws pc lv (.int y :: .int x :: sk) := by
  obtain ⟨hx, hb, hml, hown, hts, hr, hlk, hE, hk, hK, hns⟩ := C
  intro H locs ls hI hS hl
  subst hv
  exact lv_isub hx hb hd (kk H locs ls hI hS hl)
theorem V.imul (C : Cx p s m args meth c G cc nL ret own) {x y v : Int32} (hd : decode cc pc = .ok (.imul, 1)) (hv : x * y = v) (kk : V p l e R s m args below meth c G nL cells slots Q ws (pc + 1) lv (.int v :: sk)) : V p l e R s m args below meth c G nL cells slots Q ws pc lv (.int y :: .int x :: sk) := by
  obtain ⟨hx, hb, hml, hown, hts, hr, hlk, hE, hk, hK, hns⟩ := C
  intro H locs ls hI hS hl
  subst hv
  exact lv_imul hx hb hd (kk H locs ls hI hS hl)
theorem V.iand (C : Cx p s m args meth c G cc nL ret own) {x y v : Int32} (hd : decode cc pc = .ok (.iand, 1)) (hv : x &&& y = v) (kk : V p l e R s m args below meth c G nL cells slots Q ws (pc + 1) lv (.int v :: sk)) : V p l e R s m args below meth c G nL cells slots Q ws pc lv (.int y :: .int x :: sk) := by
  obtain ⟨hx, hb, hml, hown, hts, hr, hlk, hE, hk, hK, hns⟩ := C
  intro H locs ls hI hS hl
  subst hv
  exact lv_iand hx hb hd (kk H locs ls hI hS hl)
theorem V.ior (C : Cx p s m args meth c G cc nL ret own) {x y v : Int32} (hd : decode cc pc = .ok (.ior, 1)) (hv : x ||| y = v) (kk : V p l e R s m args below meth c G nL cells slots Q ws (pc + 1) lv (.int v :: sk)) : V p l e R s m args below meth c G nL cells slots Q ws pc lv (.int y :: .int x :: sk) := by
  obtain ⟨hx, hb, hml, hown, hts, hr, hlk, hE, hk, hK, hns⟩ := C
  intro H locs ls hI hS hl
  subst hv
  exact lv_ior hx hb hd (kk H locs ls hI hS hl)
theorem V.ishl (C : Cx p s m args meth c G cc nL ret own) {x y v : Int32} (hd : decode cc pc = .ok (.ishl, 1)) (hv : x <<< (y &&& 31) = v) (kk : V p l e R s m args below meth c G nL cells slots Q ws (pc + 1) lv (.int v :: sk)) : V p l e R s m args below meth c G nL cells slots Q ws pc lv (.int y :: .int x :: sk) := by
  obtain ⟨hx, hb, hml, hown, hts, hr, hlk, hE, hk, hK, hns⟩ := C
  intro H locs ls hI hS hl
  subst hv
  exact lv_ishl hx hb hd (kk H locs ls hI hS hl)
theorem V.ishr (C : Cx p s m args meth c G cc nL ret own) {x y v : Int32} (hd : decode cc pc = .ok (.ishr, 1)) (hv : x >>> (y &&& 31) = v) (kk : V p l e R s m args below meth c G nL cells slots Q ws (pc + 1) lv (.int v :: sk)) : V p l e R s m args below meth c G nL cells slots Q ws pc lv (.int y :: .int x :: sk) := by
  obtain ⟨hx, hb, hml, hown, hts, hr, hlk, hE, hk, hK, hns⟩ := C
  intro H locs ls hI hS hl
  subst hv
  exact lv_ishr hx hb hd (kk H locs ls hI hS hl)
theorem V.idiv (C : Cx p s m args meth c G cc nL ret own) {x y v : Int32} (hd : decode cc pc = .ok (.idiv, 1)) (hne : ¬ y = 0) (hv : x / y = v) (kk : V p l e R s m args below meth c G nL cells slots Q ws (pc + 1) lv (.int v :: sk)) : V p l e R s m args below meth c G nL cells slots Q ws pc lv (.int y :: .int x :: sk) := by
  obtain ⟨hx, hb, hml, hown, hts, hr, hlk, hE, hk, hK, hns⟩ := C
  intro H locs ls hI hS hl
  subst hv
  exact lv_idiv hx hb hd hne (kk H locs ls hI hS hl)
theorem V.irem (C : Cx p s m args meth c G cc nL ret own) {x y v : Int32} (hd : decode cc pc = .ok (.irem, 1)) (hne : ¬ y = 0) (hv : x - x / y * y = v) (kk : V p l e R s m args below meth c G nL cells slots Q ws (pc + 1) lv (.int v :: sk)) : V p l e R s m args below meth c G nL cells slots Q ws pc lv (.int y :: .int x :: sk) := by
  obtain ⟨hx, hb, hml, hown, hts, hr, hlk, hE, hk, hK, hns⟩ := C
  intro H locs ls hI hS hl
  subst hv
  exact lv_irem hx hb hd hne (kk H locs ls hI hS hl)
theorem V.ineg (C : Cx p s m args meth c G cc nL ret own) {x v : Int32} (hd : decode cc pc = .ok (.ineg, 1)) (hv : -x = v) (kk : V p l e R s m args below meth c G nL cells slots Q ws (pc + 1) lv (.int v :: sk)) : V p l e R s m args below meth c G nL cells slots Q ws pc lv (.int x :: sk) := by
  obtain ⟨hx, hb, hml, hown, hts, hr, hlk, hE, hk, hK, hns⟩ := C
  intro H locs ls hI hS hl
  subst hv
  exact lv_ineg hx hb hd (kk H locs ls hI hS hl)
theorem V.ladd (C : Cx p s m args meth c G cc nL ret own) {x y v : Int64} (hd : decode cc pc = .ok (.ladd, 1)) (hv : x + y = v) (kk : V p l e R s m args below meth c G nL cells slots Q ws (pc + 1) lv (.long v :: sk)) : V p l e R s m args below meth c G nL cells slots Q ws pc lv (.long y :: .long x :: sk) := by
  obtain ⟨hx, hb, hml, hown, hts, hr, hlk, hE, hk, hK, hns⟩ := C
  intro H locs ls hI hS hl
  subst hv
  exact lv_ladd hx hb hd (kk H locs ls hI hS hl)
theorem V.lsub (C : Cx p s m args meth c G cc nL ret own) {x y v : Int64} (hd : decode cc pc = .ok (.lsub, 1)) (hv : x - y = v) (kk : V p l e R s m args below meth c G nL cells slots Q ws (pc + 1) lv (.long v :: sk)) : V p l e R s m args below meth c G nL cells slots Q ws pc lv (.long y :: .long x :: sk) := by
  obtain ⟨hx, hb, hml, hown, hts, hr, hlk, hE, hk, hK, hns⟩ := C
  intro H locs ls hI hS hl
  subst hv
  exact lv_lsub hx hb hd (kk H locs ls hI hS hl)
theorem V.lmul (C : Cx p s m args meth c G cc nL ret own) {x y v : Int64} (hd : decode cc pc = .ok (.lmul, 1)) (hv : x * y = v) (kk : V p l e R s m args below meth c G nL cells slots Q ws (pc + 1) lv (.long v :: sk)) : V p l e R s m args below meth c G nL cells slots Q ws pc lv (.long y :: .long x :: sk) := by
  obtain ⟨hx, hb, hml, hown, hts, hr, hlk, hE, hk, hK, hns⟩ := C
  intro H locs ls hI hS hl
  subst hv
  exact lv_lmul hx hb hd (kk H locs ls hI hS hl)
theorem V.land (C : Cx p s m args meth c G cc nL ret own) {x y v : Int64} (hd : decode cc pc = .ok (.land, 1)) (hv : x &&& y = v) (kk : V p l e R s m args below meth c G nL cells slots Q ws (pc + 1) lv (.long v :: sk)) : V p l e R s m args below meth c G nL cells slots Q ws pc lv (.long y :: .long x :: sk) := by
  obtain ⟨hx, hb, hml, hown, hts, hr, hlk, hE, hk, hK, hns⟩ := C
  intro H locs ls hI hS hl
  subst hv
  exact lv_land hx hb hd (kk H locs ls hI hS hl)
theorem V.lor (C : Cx p s m args meth c G cc nL ret own) {x y v : Int64} (hd : decode cc pc = .ok (.lor, 1)) (hv : x ||| y = v) (kk : V p l e R s m args below meth c G nL cells slots Q ws (pc + 1) lv (.long v :: sk)) : V p l e R s m args below meth c G nL cells slots Q ws pc lv (.long y :: .long x :: sk) := by
  obtain ⟨hx, hb, hml, hown, hts, hr, hlk, hE, hk, hK, hns⟩ := C
  intro H locs ls hI hS hl
  subst hv
  exact lv_lor hx hb hd (kk H locs ls hI hS hl)
theorem V.lshl (C : Cx p s m args meth c G cc nL ret own) {x v : Int64} {y : Int32} (hd : decode cc pc = .ok (.lshl, 1)) (hv : x <<< (y.toInt64 &&& 63) = v) (kk : V p l e R s m args below meth c G nL cells slots Q ws (pc + 1) lv (.long v :: sk)) : V p l e R s m args below meth c G nL cells slots Q ws pc lv (.int y :: .long x :: sk) := by
  obtain ⟨hx, hb, hml, hown, hts, hr, hlk, hE, hk, hK, hns⟩ := C
  intro H locs ls hI hS hl
  exact lv_lshl hx hb hd hv (kk H locs ls hI hS hl)
theorem V.lshr (C : Cx p s m args meth c G cc nL ret own) {x v : Int64} {y : Int32} (hd : decode cc pc = .ok (.lshr, 1)) (hv : x >>> (y.toInt64 &&& 63) = v) (kk : V p l e R s m args below meth c G nL cells slots Q ws (pc + 1) lv (.long v :: sk)) : V p l e R s m args below meth c G nL cells slots Q ws pc lv (.int y :: .long x :: sk) := by
  obtain ⟨hx, hb, hml, hown, hts, hr, hlk, hE, hk, hK, hns⟩ := C
  intro H locs ls hI hS hl
  exact lv_lshr hx hb hd hv (kk H locs ls hI hS hl)
theorem V.lushr (C : Cx p s m args meth c G cc nL ret own) {x v : Int64} {y : Int32} (hd : decode cc pc = .ok (.lushr, 1)) (hv : (x.toUInt64 >>> (y.toInt64.toUInt64 &&& Int64.toUInt64 63)).toInt64 = v) (kk : V p l e R s m args below meth c G nL cells slots Q ws (pc + 1) lv (.long v :: sk)) : V p l e R s m args below meth c G nL cells slots Q ws pc lv (.int y :: .long x :: sk) := by
  obtain ⟨hx, hb, hml, hown, hts, hr, hlk, hE, hk, hK, hns⟩ := C
  intro H locs ls hI hS hl
  exact lv_lushr hx hb hd hv (kk H locs ls hI hS hl)
theorem V.i2l (C : Cx p s m args meth c G cc nL ret own) {x : Int32} {v : Int64} (hd : decode cc pc = .ok (.i2l, 1)) (hv : x.toInt64 = v) (kk : V p l e R s m args below meth c G nL cells slots Q ws (pc + 1) lv (.long v :: sk)) : V p l e R s m args below meth c G nL cells slots Q ws pc lv (.int x :: sk) := by
  obtain ⟨hx, hb, hml, hown, hts, hr, hlk, hE, hk, hK, hns⟩ := C
  intro H locs ls hI hS hl
  exact lv_i2l hx hb hd hv (kk H locs ls hI hS hl)
theorem V.l2i (C : Cx p s m args meth c G cc nL ret own) {x : Int64} {v : Int32} (hd : decode cc pc = .ok (.l2i, 1)) (hv : x.toInt32 = v) (kk : V p l e R s m args below meth c G nL cells slots Q ws (pc + 1) lv (.int v :: sk)) : V p l e R s m args below meth c G nL cells slots Q ws pc lv (.long x :: sk) := by
  obtain ⟨hx, hb, hml, hown, hts, hr, hlk, hE, hk, hK, hns⟩ := C
  intro H locs ls hI hS hl
  exact lv_l2i hx hb hd hv (kk H locs ls hI hS hl)
theorem V.i2c (C : Cx p s m args meth c G cc nL ret own) {x v : Int32} (hd : decode cc pc = .ok (.i2c, 1)) (hv : (x.toUInt32 % 65536).toInt32 = v) (kk : V p l e R s m args below meth c G nL cells slots Q ws (pc + 1) lv (.int v :: sk)) : V p l e R s m args below meth c G nL cells slots Q ws pc lv (.int x :: sk) := by
  obtain ⟨hx, hb, hml, hown, hts, hr, hlk, hE, hk, hK, hns⟩ := C
  intro H locs ls hI hS hl
  exact lv_i2c hx hb hd hv (kk H locs ls hI hS hl)
theorem V.lcmp (C : Cx p s m args meth c G cc nL ret own) {x y : Int64} {v : Int32} (hd : decode cc pc = .ok (.lcmp, 1)) (hv : lg_cmp x y = v) (kk : V p l e R s m args below meth c G nL cells slots Q ws (pc + 1) lv (.int v :: sk)) : V p l e R s m args below meth c G nL cells slots Q ws pc lv (.long y :: .long x :: sk) := by
  obtain ⟨hx, hb, hml, hown, hts, hr, hlk, hE, hk, hK, hns⟩ := C
  intro H locs ls hI hS hl
  subst hv
  exact W.lcmp hx hb hd (kk H locs ls hI hS hl)
theorem V.dup (C : Cx p s m args meth c G cc nL ret own) {a : Value} (hd : decode cc pc = .ok (.dup, 1)) (ha : a.category = 1) (kk : V p l e R s m args below meth c G nL cells slots Q ws (pc + 1) lv (a :: a :: sk)) : V p l e R s m args below meth c G nL cells slots Q ws pc lv (a :: sk) := by
  obtain ⟨hx, hb, hml, hown, hts, hr, hlk, hE, hk, hK, hns⟩ := C
  intro H locs ls hI hS hl
  exact lv_dup hx hb hd ha (kk H locs ls hI hS hl)
theorem V.pop (C : Cx p s m args meth c G cc nL ret own) {a : Value} (hd : decode cc pc = .ok (.pop, 1)) (ha : a.category = 1) (kk : V p l e R s m args below meth c G nL cells slots Q ws (pc + 1) lv (sk)) : V p l e R s m args below meth c G nL cells slots Q ws pc lv (a :: sk) := by
  obtain ⟨hx, hb, hml, hown, hts, hr, hlk, hE, hk, hK, hns⟩ := C
  intro H locs ls hI hS hl
  exact lv_pop hx hb hd ha (kk H locs ls hI hS hl)
theorem V.dup2 (C : Cx p s m args meth c G cc nL ret own) {a b : Value} (hd : decode cc pc = .ok (.dup2, 1)) (ha : a.category = 1) (hb0 : b.category = 1) (kk : V p l e R s m args below meth c G nL cells slots Q ws (pc + 1) lv (a :: b :: a :: b :: sk)) : V p l e R s m args below meth c G nL cells slots Q ws pc lv (a :: b :: sk) := by
  obtain ⟨hx, hb, hml, hown, hts, hr, hlk, hE, hk, hK, hns⟩ := C
  intro H locs ls hI hS hl
  exact lv_dup2_11 hx hb hd ha hb0 (kk H locs ls hI hS hl)
theorem V.goto (C : Cx p s m args meth c G cc nL ret own) {off : Int} {tgt : Nat} (hd : decode cc pc = .ok (.goto off, 3)) (ht : (pc : Int) + off = (tgt : Int)) (kk : V p l e R s m args below meth c G nL cells slots Q ws tgt lv sk) : V p l e R s m args below meth c G nL cells slots Q ws pc lv sk := by
  obtain ⟨hx, hb, hml, hown, hts, hr, hlk, hE, hk, hK, hns⟩ := C
  intro H locs ls hI hS hl
  exact lv_goto hx hb hd ht (kk H locs ls hI hS hl)
theorem V.if_eq (C : Cx p s m args meth c G cc nL ret own) {x : Int32} {off : Int} {tgt : Nat} (hd : decode cc pc = .ok (.ifCond .eq off, 3)) (ht : (pc : Int) + off = (tgt : Int)) (kt : x = 0 → V p l e R s m args below meth c G nL cells slots Q ws tgt lv sk) (kf : ¬ x = 0 → V p l e R s m args below meth c G nL cells slots Q ws (pc + 3) lv sk) : V p l e R s m args below meth c G nL cells slots Q ws pc lv (.int x :: sk) := by
  obtain ⟨hx, hb, hml, hown, hts, hr, hlk, hE, hk, hK, hns⟩ := C
  intro H locs ls hI hS hl
  exact lv_if_eq hx hb hd ht (fun h => kt h H locs ls hI hS hl) (fun h => kf h H locs ls hI hS hl)
theorem V.icmp_eq (C : Cx p s m args meth c G cc nL ret own) {x y : Int32} {off : Int} {tgt : Nat} (hd : decode cc pc = .ok (.if_icmp .eq off, 3)) (ht : (pc : Int) + off = (tgt : Int)) (kt : x = y → V p l e R s m args below meth c G nL cells slots Q ws tgt lv sk) (kf : ¬ x = y → V p l e R s m args below meth c G nL cells slots Q ws (pc + 3) lv sk) : V p l e R s m args below meth c G nL cells slots Q ws pc lv (.int y :: .int x :: sk) := by
  obtain ⟨hx, hb, hml, hown, hts, hr, hlk, hE, hk, hK, hns⟩ := C
  intro H locs ls hI hS hl
  exact lv_icmp_eq hx hb hd ht (fun h => kt h H locs ls hI hS hl) (fun h => kf h H locs ls hI hS hl)
theorem V.cmpN_eq (C : Cx p s m args meth c G cc nL ret own) {a b : Nat} {off : Int} {tgt : Nat} (hd : decode cc pc = .ok (.if_icmp .eq off, 3)) (ht : (pc : Int) + off = (tgt : Int)) (ha : a < 2 ^ 31) (hb0 : b < 2 ^ 31) (kt : a = b → V p l e R s m args below meth c G nL cells slots Q ws tgt lv sk) (kf : a ≠ b → V p l e R s m args below meth c G nL cells slots Q ws (pc + 3) lv sk) : V p l e R s m args below meth c G nL cells slots Q ws pc lv (.int (nI b) :: .int (nI a) :: sk) :=
  V.icmp_eq C hd ht (fun h => kt ((nI_eq ha hb0).mp h)) (fun h => kf (fun q => h ((nI_eq ha hb0).mpr q)))
theorem V.if_ne (C : Cx p s m args meth c G cc nL ret own) {x : Int32} {off : Int} {tgt : Nat} (hd : decode cc pc = .ok (.ifCond .ne off, 3)) (ht : (pc : Int) + off = (tgt : Int)) (kt : ¬ x = 0 → V p l e R s m args below meth c G nL cells slots Q ws tgt lv sk) (kf : x = 0 → V p l e R s m args below meth c G nL cells slots Q ws (pc + 3) lv sk) : V p l e R s m args below meth c G nL cells slots Q ws pc lv (.int x :: sk) := by
  obtain ⟨hx, hb, hml, hown, hts, hr, hlk, hE, hk, hK, hns⟩ := C
  intro H locs ls hI hS hl
  exact lv_if_ne hx hb hd ht (fun h => kt h H locs ls hI hS hl) (fun h => kf h H locs ls hI hS hl)
theorem V.icmp_ne (C : Cx p s m args meth c G cc nL ret own) {x y : Int32} {off : Int} {tgt : Nat} (hd : decode cc pc = .ok (.if_icmp .ne off, 3)) (ht : (pc : Int) + off = (tgt : Int)) (kt : ¬ x = y → V p l e R s m args below meth c G nL cells slots Q ws tgt lv sk) (kf : x = y → V p l e R s m args below meth c G nL cells slots Q ws (pc + 3) lv sk) : V p l e R s m args below meth c G nL cells slots Q ws pc lv (.int y :: .int x :: sk) := by
  obtain ⟨hx, hb, hml, hown, hts, hr, hlk, hE, hk, hK, hns⟩ := C
  intro H locs ls hI hS hl
  exact lv_icmp_ne hx hb hd ht (fun h => kt h H locs ls hI hS hl) (fun h => kf h H locs ls hI hS hl)
theorem V.cmpN_ne (C : Cx p s m args meth c G cc nL ret own) {a b : Nat} {off : Int} {tgt : Nat} (hd : decode cc pc = .ok (.if_icmp .ne off, 3)) (ht : (pc : Int) + off = (tgt : Int)) (ha : a < 2 ^ 31) (hb0 : b < 2 ^ 31) (kt : a ≠ b → V p l e R s m args below meth c G nL cells slots Q ws tgt lv sk) (kf : a = b → V p l e R s m args below meth c G nL cells slots Q ws (pc + 3) lv sk) : V p l e R s m args below meth c G nL cells slots Q ws pc lv (.int (nI b) :: .int (nI a) :: sk) :=
  V.icmp_ne C hd ht (fun h => kt (fun q => h ((nI_eq ha hb0).mpr q))) (fun h => kf ((nI_eq ha hb0).mp h))
theorem V.if_lt (C : Cx p s m args meth c G cc nL ret own) {x : Int32} {off : Int} {tgt : Nat} (hd : decode cc pc = .ok (.ifCond .lt off, 3)) (ht : (pc : Int) + off = (tgt : Int)) (kt : x < 0 → V p l e R s m args below meth c G nL cells slots Q ws tgt lv sk) (kf : ¬ x < 0 → V p l e R s m args below meth c G nL cells slots Q ws (pc + 3) lv sk) : V p l e R s m args below meth c G nL cells slots Q ws pc lv (.int x :: sk) := by
  obtain ⟨hx, hb, hml, hown, hts, hr, hlk, hE, hk, hK, hns⟩ := C
  intro H locs ls hI hS hl
  exact lv_if_lt hx hb hd ht (fun h => kt h H locs ls hI hS hl) (fun h => kf h H locs ls hI hS hl)
theorem V.icmp_lt (C : Cx p s m args meth c G cc nL ret own) {x y : Int32} {off : Int} {tgt : Nat} (hd : decode cc pc = .ok (.if_icmp .lt off, 3)) (ht : (pc : Int) + off = (tgt : Int)) (kt : x < y → V p l e R s m args below meth c G nL cells slots Q ws tgt lv sk) (kf : ¬ x < y → V p l e R s m args below meth c G nL cells slots Q ws (pc + 3) lv sk) : V p l e R s m args below meth c G nL cells slots Q ws pc lv (.int y :: .int x :: sk) := by
  obtain ⟨hx, hb, hml, hown, hts, hr, hlk, hE, hk, hK, hns⟩ := C
  intro H locs ls hI hS hl
  exact lv_icmp_lt hx hb hd ht (fun h => kt h H locs ls hI hS hl) (fun h => kf h H locs ls hI hS hl)
theorem V.cmpN_lt (C : Cx p s m args meth c G cc nL ret own) {a b : Nat} {off : Int} {tgt : Nat} (hd : decode cc pc = .ok (.if_icmp .lt off, 3)) (ht : (pc : Int) + off = (tgt : Int)) (ha : a < 2 ^ 31) (hb0 : b < 2 ^ 31) (kt : a < b → V p l e R s m args below meth c G nL cells slots Q ws tgt lv sk) (kf : b ≤ a → V p l e R s m args below meth c G nL cells slots Q ws (pc + 3) lv sk) : V p l e R s m args below meth c G nL cells slots Q ws pc lv (.int (nI b) :: .int (nI a) :: sk) :=
  V.icmp_lt C hd ht (fun h => kt ((nI_ltI ha hb0).mp h)) (fun h => kf (Nat.not_lt.mp fun q => h ((nI_ltI ha hb0).mpr q)))
theorem V.if_ge (C : Cx p s m args meth c G cc nL ret own) {x : Int32} {off : Int} {tgt : Nat} (hd : decode cc pc = .ok (.ifCond .ge off, 3)) (ht : (pc : Int) + off = (tgt : Int)) (kt : 0 ≤ x → V p l e R s m args below meth c G nL cells slots Q ws tgt lv sk) (kf : ¬ 0 ≤ x → V p l e R s m args below meth c G nL cells slots Q ws (pc + 3) lv sk) : V p l e R s m args below meth c G nL cells slots Q ws pc lv (.int x :: sk) := by
  obtain ⟨hx, hb, hml, hown, hts, hr, hlk, hE, hk, hK, hns⟩ := C
  intro H locs ls hI hS hl
  exact lv_if_ge hx hb hd ht (fun h => kt h H locs ls hI hS hl) (fun h => kf h H locs ls hI hS hl)
theorem V.icmp_ge (C : Cx p s m args meth c G cc nL ret own) {x y : Int32} {off : Int} {tgt : Nat} (hd : decode cc pc = .ok (.if_icmp .ge off, 3)) (ht : (pc : Int) + off = (tgt : Int)) (kt : y ≤ x → V p l e R s m args below meth c G nL cells slots Q ws tgt lv sk) (kf : ¬ y ≤ x → V p l e R s m args below meth c G nL cells slots Q ws (pc + 3) lv sk) : V p l e R s m args below meth c G nL cells slots Q ws pc lv (.int y :: .int x :: sk) := by
  obtain ⟨hx, hb, hml, hown, hts, hr, hlk, hE, hk, hK, hns⟩ := C
  intro H locs ls hI hS hl
  exact lv_icmp_ge hx hb hd ht (fun h => kt h H locs ls hI hS hl) (fun h => kf h H locs ls hI hS hl)
theorem V.cmpN_ge (C : Cx p s m args meth c G cc nL ret own) {a b : Nat} {off : Int} {tgt : Nat} (hd : decode cc pc = .ok (.if_icmp .ge off, 3)) (ht : (pc : Int) + off = (tgt : Int)) (ha : a < 2 ^ 31) (hb0 : b < 2 ^ 31) (kt : b ≤ a → V p l e R s m args below meth c G nL cells slots Q ws tgt lv sk) (kf : a < b → V p l e R s m args below meth c G nL cells slots Q ws (pc + 3) lv sk) : V p l e R s m args below meth c G nL cells slots Q ws pc lv (.int (nI b) :: .int (nI a) :: sk) :=
  V.icmp_ge C hd ht (fun h => kt ((nI_leI hb0 ha).mp h)) (fun h => kf (Nat.not_le.mp fun q => h ((nI_leI hb0 ha).mpr q)))
theorem V.if_gt (C : Cx p s m args meth c G cc nL ret own) {x : Int32} {off : Int} {tgt : Nat} (hd : decode cc pc = .ok (.ifCond .gt off, 3)) (ht : (pc : Int) + off = (tgt : Int)) (kt : 0 < x → V p l e R s m args below meth c G nL cells slots Q ws tgt lv sk) (kf : ¬ 0 < x → V p l e R s m args below meth c G nL cells slots Q ws (pc + 3) lv sk) : V p l e R s m args below meth c G nL cells slots Q ws pc lv (.int x :: sk) := by
  obtain ⟨hx, hb, hml, hown, hts, hr, hlk, hE, hk, hK, hns⟩ := C
  intro H locs ls hI hS hl
  exact lv_if_gt hx hb hd ht (fun h => kt h H locs ls hI hS hl) (fun h => kf h H locs ls hI hS hl)
theorem V.icmp_gt (C : Cx p s m args meth c G cc nL ret own) {x y : Int32} {off : Int} {tgt : Nat} (hd : decode cc pc = .ok (.if_icmp .gt off, 3)) (ht : (pc : Int) + off = (tgt : Int)) (kt : y < x → V p l e R s m args below meth c G nL cells slots Q ws tgt lv sk) (kf : ¬ y < x → V p l e R s m args below meth c G nL cells slots Q ws (pc + 3) lv sk) : V p l e R s m args below meth c G nL cells slots Q ws pc lv (.int y :: .int x :: sk) := by
  obtain ⟨hx, hb, hml, hown, hts, hr, hlk, hE, hk, hK, hns⟩ := C
  intro H locs ls hI hS hl
  exact lv_icmp_gt hx hb hd ht (fun h => kt h H locs ls hI hS hl) (fun h => kf h H locs ls hI hS hl)
theorem V.cmpN_gt (C : Cx p s m args meth c G cc nL ret own) {a b : Nat} {off : Int} {tgt : Nat} (hd : decode cc pc = .ok (.if_icmp .gt off, 3)) (ht : (pc : Int) + off = (tgt : Int)) (ha : a < 2 ^ 31) (hb0 : b < 2 ^ 31) (kt : b < a → V p l e R s m args below meth c G nL cells slots Q ws tgt lv sk) (kf : a ≤ b → V p l e R s m args below meth c G nL cells slots Q ws (pc + 3) lv sk) : V p l e R s m args below meth c G nL cells slots Q ws pc lv (.int (nI b) :: .int (nI a) :: sk) :=
  V.icmp_gt C hd ht (fun h => kt ((nI_ltI hb0 ha).mp h)) (fun h => kf (Nat.not_lt.mp fun q => h ((nI_ltI hb0 ha).mpr q)))
theorem V.if_le (C : Cx p s m args meth c G cc nL ret own) {x : Int32} {off : Int} {tgt : Nat} (hd : decode cc pc = .ok (.ifCond .le off, 3)) (ht : (pc : Int) + off = (tgt : Int)) (kt : x ≤ 0 → V p l e R s m args below meth c G nL cells slots Q ws tgt lv sk) (kf : ¬ x ≤ 0 → V p l e R s m args below meth c G nL cells slots Q ws (pc + 3) lv sk) : V p l e R s m args below meth c G nL cells slots Q ws pc lv (.int x :: sk) := by
  obtain ⟨hx, hb, hml, hown, hts, hr, hlk, hE, hk, hK, hns⟩ := C
  intro H locs ls hI hS hl
  exact lv_if_le hx hb hd ht (fun h => kt h H locs ls hI hS hl) (fun h => kf h H locs ls hI hS hl)
theorem V.icmp_le (C : Cx p s m args meth c G cc nL ret own) {x y : Int32} {off : Int} {tgt : Nat} (hd : decode cc pc = .ok (.if_icmp .le off, 3)) (ht : (pc : Int) + off = (tgt : Int)) (kt : x ≤ y → V p l e R s m args below meth c G nL cells slots Q ws tgt lv sk) (kf : ¬ x ≤ y → V p l e R s m args below meth c G nL cells slots Q ws (pc + 3) lv sk) : V p l e R s m args below meth c G nL cells slots Q ws pc lv (.int y :: .int x :: sk) := by
  obtain ⟨hx, hb, hml, hown, hts, hr, hlk, hE, hk, hK, hns⟩ := C
  intro H locs ls hI hS hl
  exact lv_icmp_le hx hb hd ht (fun h => kt h H locs ls hI hS hl) (fun h => kf h H locs ls hI hS hl)
theorem V.cmpN_le (C : Cx p s m args meth c G cc nL ret own) {a b : Nat} {off : Int} {tgt : Nat} (hd : decode cc pc = .ok (.if_icmp .le off, 3)) (ht : (pc : Int) + off = (tgt : Int)) (ha : a < 2 ^ 31) (hb0 : b < 2 ^ 31) (kt : a ≤ b → V p l e R s m args below meth c G nL cells slots Q ws tgt lv sk) (kf : b < a → V p l e R s m args below meth c G nL cells slots Q ws (pc + 3) lv sk) : V p l e R s m args below meth c G nL cells slots Q ws pc lv (.int (nI b) :: .int (nI a) :: sk) :=
  V.icmp_le C hd ht (fun h => kt ((nI_leI ha hb0).mp h)) (fun h => kf (Nat.not_le.mp fun q => h ((nI_leI ha hb0).mpr q)))
theorem V.ifB_eq (C : Cx p s m args meth c G cc nL ret own) {b : Bool} {off : Int} {tgt : Nat} (hd : decode cc pc = .ok (.ifCond .eq off, 3)) (ht : (pc : Int) + off = (tgt : Int)) (kt : b = false → V p l e R s m args below meth c G nL cells slots Q ws tgt lv sk) (kf : b = true → V p l e R s m args below meth c G nL cells slots Q ws (pc + 3) lv sk) : V p l e R s m args below meth c G nL cells slots Q ws pc lv (.int (bI b) :: sk) := by
  refine V.if_eq C hd ht (fun h => kt ?_) (fun h => kf ?_)
  · cases b
    · rfl
    · exact absurd h (by decide +kernel)
  · cases b
    · exact absurd (by decide +kernel) h
    · rfl
theorem V.ifB_ne (C : Cx p s m args meth c G cc nL ret own) {b : Bool} {off : Int} {tgt : Nat} (hd : decode cc pc = .ok (.ifCond .ne off, 3)) (ht : (pc : Int) + off = (tgt : Int)) (kt : b = true → V p l e R s m args below meth c G nL cells slots Q ws tgt lv sk) (kf : b = false → V p l e R s m args below meth c G nL cells slots Q ws (pc + 3) lv sk) : V p l e R s m args below meth c G nL cells slots Q ws pc lv (.int (bI b) :: sk) := by
  refine V.if_ne C hd ht (fun h => kt ?_) (fun h => kf ?_)
  · cases b
    · exact absurd (by decide +kernel) h
    · rfl
  · cases b
    · rfl
    · exact absurd h (by decide +kernel)
theorem V.ifN_eq (C : Cx p s m args meth c G cc nL ret own) {a : Nat} {off : Int} {tgt : Nat} (hd : decode cc pc = .ok (.ifCond .eq off, 3)) (ht : (pc : Int) + off = (tgt : Int)) (ha : a < 2 ^ 31) (kt : a = 0 → V p l e R s m args below meth c G nL cells slots Q ws tgt lv sk) (kf : a ≠ 0 → V p l e R s m args below meth c G nL cells slots Q ws (pc + 3) lv sk) : V p l e R s m args below meth c G nL cells slots Q ws pc lv (.int (nI a) :: sk) :=
  V.if_eq C hd ht (fun h => kt (Nat.eq_zero_of_not_pos fun q => nI_ne0 q ha h)) (fun h => kf (fun q => h (by rw [q]; exact nI_0)))
theorem V.ifN_ne (C : Cx p s m args meth c G cc nL ret own) {a : Nat} {off : Int} {tgt : Nat} (hd : decode cc pc = .ok (.ifCond .ne off, 3)) (ht : (pc : Int) + off = (tgt : Int)) (ha : a < 2 ^ 31) (kt : a ≠ 0 → V p l e R s m args below meth c G nL cells slots Q ws tgt lv sk) (kf : a = 0 → V p l e R s m args below meth c G nL cells slots Q ws (pc + 3) lv sk) : V p l e R s m args below meth c G nL cells slots Q ws pc lv (.int (nI a) :: sk) :=
  V.if_ne C hd ht (fun h => kt (fun q => h (by rw [q]; exact nI_0))) (fun h => kf (Nat.eq_zero_of_not_pos fun q => nI_ne0 q ha h))
theorem V.ifN_le (C : Cx p s m args meth c G cc nL ret own) {a : Nat} {off : Int} {tgt : Nat} (hd : decode cc pc = .ok (.ifCond .le off, 3)) (ht : (pc : Int) + off = (tgt : Int)) (ha : a < 2 ^ 31) (kt : a = 0 → V p l e R s m args below meth c G nL cells slots Q ws tgt lv sk) (kf : a ≠ 0 → V p l e R s m args below meth c G nL cells slots Q ws (pc + 3) lv sk) : V p l e R s m args below meth c G nL cells slots Q ws pc lv (.int (nI a) :: sk) :=
  V.if_le C hd ht (fun h => kt (Nat.eq_zero_of_not_pos fun q => nI_nle q ha h)) (fun h => kf (fun q => h (by rw [q]; decide +kernel)))
theorem V.ifN_gt (C : Cx p s m args meth c G cc nL ret own) {a : Nat} {off : Int} {tgt : Nat} (hd : decode cc pc = .ok (.ifCond .gt off, 3)) (ht : (pc : Int) + off = (tgt : Int)) (ha : a < 2 ^ 31) (kt : a ≠ 0 → V p l e R s m args below meth c G nL cells slots Q ws tgt lv sk) (kf : a = 0 → V p l e R s m args below meth c G nL cells slots Q ws (pc + 3) lv sk) : V p l e R s m args below meth c G nL cells slots Q ws pc lv (.int (nI a) :: sk) :=
  V.if_gt C hd ht (fun h => kt (fun q => absurd h (by rw [q]; decide +kernel))) (fun h => kf (Nat.eq_zero_of_not_pos fun q => h (by have := nI_lt q ha; rw [nI_0] at this; exact this)))
theorem V.ifN_lt (C : Cx p s m args meth c G cc nL ret own) {a : Nat} {off : Int} {tgt : Nat} (hd : decode cc pc = .ok (.ifCond .lt off, 3)) (ht : (pc : Int) + off = (tgt : Int)) (ha : a < 2 ^ 31) (kf : V p l e R s m args below meth c G nL cells slots Q ws (pc + 3) lv sk) : V p l e R s m args below meth c G nL cells slots Q ws pc lv (.int (nI a) :: sk) :=
  V.if_lt C hd ht (fun h => absurd h (nI_pos ha)) (fun h => kf)
theorem V.ifN_ge (C : Cx p s m args meth c G cc nL ret own) {a : Nat} {off : Int} {tgt : Nat} (hd : decode cc pc = .ok (.ifCond .ge off, 3)) (ht : (pc : Int) + off = (tgt : Int)) (ha : a < 2 ^ 31) (kt : V p l e R s m args below meth c G nL cells slots Q ws tgt lv sk) : V p l e R s m args below meth c G nL cells slots Q ws pc lv (.int (nI a) :: sk) :=
  V.if_ge C hd ht (fun h => kt) (fun h => absurd (nI_pos' ha) h)
-- kit: rx = ry / ¬ rx = ry
theorem V.acmp_eq (C : Cx p s m args meth c G cc nL ret own) {x y : Nat} {off : Int} {tgt : Nat} (hd : decode cc pc = .ok (.if_acmp .eq off, 3)) (ht : (pc : Int) + off = (tgt : Int)) (kt : x = y → V p l e R s m args below meth c G nL cells slots Q ws tgt lv sk) (kf : x ≠ y → V p l e R s m args below meth c G nL cells slots Q ws (pc + 3) lv sk) : V p l e R s m args below meth c G nL cells slots Q ws pc lv (.ref y :: .ref x :: sk) := by
  obtain ⟨hx, hb, hml, hown, hts, hr, hlk, hE, hk, hK, hns⟩ := C
  intro H locs ls hI hS hl
  exact lv_acmp_eq (rx := some x) (ry := some y) hx hb hd ht (fun h => kt (by simpa using h) H locs ls hI hS hl) (fun h => kf (by simpa using h) H locs ls hI hS hl)
-- kit: ¬ rx = ry / rx = ry
theorem V.acmp_ne (C : Cx p s m args meth c G cc nL ret own) {x y : Nat} {off : Int} {tgt : Nat} (hd : decode cc pc = .ok (.if_acmp .ne off, 3)) (ht : (pc : Int) + off = (tgt : Int)) (kt : x ≠ y → V p l e R s m args below meth c G nL cells slots Q ws tgt lv sk) (kf : x = y → V p l e R s m args below meth c G nL cells slots Q ws (pc + 3) lv sk) : V p l e R s m args below meth c G nL cells slots Q ws pc lv (.ref y :: .ref x :: sk) := by
  obtain ⟨hx, hb, hml, hown, hts, hr, hlk, hE, hk, hK, hns⟩ := C
  intro H locs ls hI hS hl
  exact lv_acmp_ne (rx := some x) (ry := some y) hx hb hd ht (fun h => kt (by simpa using h) H locs ls hI hS hl) (fun h => kf (by simpa using h) H locs ls hI hS hl)
theorem V.tableOut (C : Cx p s m args meth c G cc nL ret own) {dflt lo hi : Int} {offs : Array Int} {len : Nat} {x : Int32} {tgt : Nat} (hd : decode cc pc = .ok (.tableswitch dflt lo hi offs, len)) (h : x.toInt < lo ∨ hi < x.toInt) (ht : (pc : Int) + dflt = (tgt : Int)) (kk : V p l e R s m args below meth c G nL cells slots Q ws (tgt) lv (sk)) : V p l e R s m args below meth c G nL cells slots Q ws pc lv (.int x :: sk) := by
  obtain ⟨hx, hb, hml, hown, hts, hr, hlk, hE, hk, hK, hns⟩ := C
  intro H locs ls hI hS hl
  exact lv_tableOut hx hb hd h ht (kk H locs ls hI hS hl)
theorem V.tableIn (C : Cx p s m args meth c G cc nL ret own) {dflt lo hi : Int} {offs : Array Int} {len : Nat} {x : Int32} {off : Int} {tgt : Nat} (hd : decode cc pc = .ok (.tableswitch dflt lo hi offs, len)) (h1 : ¬ x.toInt < lo) (h2 : ¬ hi < x.toInt) (ho : offs[(x.toInt - lo).toNat]? = some off) (ht : (pc : Int) + off = (tgt : Int)) (kk : V p l e R s m args below meth c G nL cells slots Q ws (tgt) lv (sk)) : V p l e R s m args below meth c G nL cells slots Q ws pc lv (.int x :: sk) := by
  obtain ⟨hx, hb, hml, hown, hts, hr, hlk, hE, hk, hK, hns⟩ := C
  intro H locs ls hI hS hl
  exact lv_tableIn hx hb hd h1 h2 ho ht (kk H locs ls hI hS hl)
theorem V.lookup (C : Cx p s m args meth c G cc nL ret own) {dflt : Int} {ps : Array (Int × Int)} {len : Nat} {x : Int32} {off : Int} {tgt : Nat} (hd : decode cc pc = .ok (.lookupswitch dflt ps, len)) (hp : (ps.toList.zip (ps.toList.drop 1)).all (fun (a, next) => a.1 < next.1) = true) (ho : Op.lookupswitch.offset ps.toList dflt x.toInt = off) (ht : (pc : Int) + off = (tgt : Int)) (kk : V p l e R s m args below meth c G nL cells slots Q ws (tgt) lv (sk)) : V p l e R s m args below meth c G nL cells slots Q ws pc lv (.int x :: sk) := by
  obtain ⟨hx, hb, hml, hown, hts, hr, hlk, hE, hk, hK, hns⟩ := C
  intro H locs ls hI hS hl
  exact lv_lookup hx hb hd hp ho ht (kk H locs ls hI hS hl)
theorem V.get (C : Cx p s m args meth c G cc nL ret own) {CN : String} {T : u_T} {N i : Nat} {a ci : Nat} {fs : List Value} {v : Value} (hin : ∀ w ∈ u_ws CN T N, w ∈ gt) (q0 : Nat) (he : ws[q0]? = some (a, .inr (ci, fs))) (hc : classes[ci]? = some (CN, T, N)) (k : Nat) (hkN : k < N) (hw : Cond.fieldLink own i (T k).1 (T k).2.1 (T k).2.2.1 ∈ gt) (hv : fs[k]? = some v) (hd : decode cc pc = .ok (.getfield i, 3))
    (kk : V p l e R s m args below meth c G nL cells slots Q ws (pc + 3) lv (v :: sk)) : V p l e R s m args below meth c G nL cells slots Q ws pc lv (.ref a :: sk) := by
  obtain ⟨hx, hb, hml, hown, hts, hr, hlk, hE, hk, hK, hns⟩ := C
  intro H locs ls hI hS hl
  exact va_get (D := G.1) (cl := classes) hx hb hts hin hown hI.1 hI.2.1 q0 he hc k hkN (hts _ hw) (fun _ h => h) hv hd (kk H locs ls hI hS hl)
theorem V.put (C : Cx p s m args meth c G cc nL ret own) {CN : String} {T : u_T} {N i : Nat} {a ci : Nat} {fs : List Value} {v : Value} {ty : FieldType} (hin : ∀ w ∈ u_ws CN T N, w ∈ gt) (ty0 : Nat → FieldType) (hty : ∀ k, k < N → parseFieldDescriptor (T k).2.2.1 = some (ty0 k)) (hnm : ∀ a, a < N → ∀ b, b < N → a ≠ b → (T a).2.1 ≠ (T b).2.1) (q0 : Nat) (he : ws[q0]? = some (a, .inr (ci, fs))) (hc : classes[ci]? = some (CN, T, N)) (k : Nat) (hkN : k < N) (hw : Cond.fieldLink own i (T k).1 (T k).2.1 (T k).2.2.1 ∈ gt) (hfin : (T k).2.2.2 = false) (hde : parseFieldDescriptor (T k).2.2.1 = some ty) (hn : narrow ty v = v) (hfit : fits ty v = true) (hl0 : k < fs.length) (hws : ws.set q0 (a, .inr (ci, fs.set k v)) = ws') (hd : decode cc pc = .ok (.putfield i, 3))
    (kk : V p l e R s m args below meth c G nL cells slots Q ws' (pc + 3) lv sk) : V p l e R s m args below meth c G nL cells slots Q ws pc lv (v :: .ref a :: sk) := by
  obtain ⟨hx, hb, hml, hown, hts, hr, hlk, hE, hk, hK, hns⟩ := C
  subst hws
  intro H locs ls hI hS hl
  exact va_put (D := G.1) (cl := classes) hx hb hts hin ty0 hty hnm hown hI.1 hI.2.1 hI.2.2.1 hS q0 he hc k hkN (hts _ hw) (fun _ h => h) hfin hde hn hfit hl0 hd (fun H1 locs1 hP hD hS1 => kk H1 locs1 ls ⟨hI.1, hP, hD, hI.2.2.2.set he⟩ hS1 hl)
theorem V.iald (C : Cx p s m args meth c G cc nL ret own) {a n k : Nat} {cA : ClassId} {f : Nat → Int32} (q0 t0 : Nat) (ha : ws[q0]? = some (a, .inl (cA, n, .inl f))) (ht : G.2.1[t0]? = some (cA, .int)) (hk0 : k < n) (hn : n < 2 ^ 31) (hd : decode cc pc = .ok (.iaload, 1))
    (kk : V p l e R s m args below meth c G nL cells slots Q ws (pc + 1) lv (.int (f k) :: sk)) : V p l e R s m args below meth c G nL cells slots Q ws pc lv (.int (nI k) :: .ref a :: sk) := by
  obtain ⟨hx, hb, hml, hown, hts, hr, hlk, hE, hk, hK, hns⟩ := C
  intro H locs ls hI hS hl
  refine va_iald (D := G.1) (cl := classes) hx hb hI.1 hI.2.1 q0 t0 ha ht (vp_in_nI hk0 hn) hd ?_
  rw [nI_clamp (by omega)]
  exact kk H locs ls hI hS hl
theorem V.lald (C : Cx p s m args meth c G cc nL ret own) {a n k : Nat} {cA : ClassId} {f : Nat → Int64} (q0 t0 : Nat) (ha : ws[q0]? = some (a, .inl (cA, n, .inr (.inl f)))) (ht : G.2.1[t0]? = some (cA, .long)) (hk0 : k < n) (hn : n < 2 ^ 31) (hd : decode cc pc = .ok (.laload, 1))
    (kk : V p l e R s m args below meth c G nL cells slots Q ws (pc + 1) lv (.long (f k) :: sk)) : V p l e R s m args below meth c G nL cells slots Q ws pc lv (.int (nI k) :: .ref a :: sk) := by
  obtain ⟨hx, hb, hml, hown, hts, hr, hlk, hE, hk, hK, hns⟩ := C
  intro H locs ls hI hS hl
  refine va_lald (D := G.1) (cl := classes) hx hb hI.1 hI.2.1 q0 t0 ha ht (vp_in_nI hk0 hn) hd ?_
  rw [nI_clamp (by omega)]
  exact kk H locs ls hI hS hl
theorem V.cald (C : Cx p s m args meth c G cc nL ret own) {a n k : Nat} {cA : ClassId} {f : Nat → Int32} (q0 t0 : Nat) (ha : ws[q0]? = some (a, .inl (cA, n, .inl f))) (ht : G.2.1[t0]? = some (cA, .char)) (hk0 : k < n) (hn : n < 2 ^ 31) (hd : decode cc pc = .ok (.caload, 1))
    (kk : V p l e R s m args below meth c G nL cells slots Q ws (pc + 1) lv (.int (f k) :: sk)) : V p l e R s m args below meth c G nL cells slots Q ws pc lv (.int (nI k) :: .ref a :: sk) := by
  obtain ⟨hx, hb, hml, hown, hts, hr, hlk, hE, hk, hK, hns⟩ := C
  intro H locs ls hI hS hl
  refine va_cald (D := G.1) (cl := classes) hx hb hI.1 hI.2.1 q0 t0 ha ht (vp_in_nI hk0 hn) hd ?_
  rw [nI_clamp (by omega)]
  exact kk H locs ls hI hS hl
theorem V.aald (C : Cx p s m args meth c G cc nL ret own) {a n k : Nat} {cA : ClassId} {CN : String} {f : Nat → Option Nat} (q0 t0 : Nat) (ha : ws[q0]? = some (a, .inl (cA, n, .inr (.inr (.inr (.inr f)))))) (ht : G.2.1[t0]? = some (cA, .object CN)) (hk0 : k < n) (hn : n < 2 ^ 31) (hd : decode cc pc = .ok (.aaload, 1))
    (kk : V p l e R s m args below meth c G nL cells slots Q ws (pc + 1) lv (va_rf (f k) :: sk)) : V p l e R s m args below meth c G nL cells slots Q ws pc lv (.int (nI k) :: .ref a :: sk) := by
  obtain ⟨hx, hb, hml, hown, hts, hr, hlk, hE, hk, hK, hns⟩ := C
  intro H locs ls hI hS hl
  refine va_aldq (D := G.1) (cl := classes) hx hb hI.1 hI.2.1 q0 t0 ha ht (vp_in_nI hk0 hn) hd ?_
  rw [nI_clamp (by omega)]
  exact kk H locs ls hI hS hl
theorem V.iast (C : Cx p s m args meth c G cc nL ret own) {a n k : Nat} {cA : ClassId} {f : Nat → Int32} {x : Int32} (q0 t0 : Nat) (ha : ws[q0]? = some (a, .inl (cA, n, .inl f))) (ht : G.2.1[t0]? = some (cA, .int)) (hk0 : k < n) (hn : n < 2 ^ 31) (hws : ws.set q0 (a, .inl (cA, n, .inl (upd f k x))) = ws') (hd : decode cc pc = .ok (.iastore, 1))
    (kk : V p l e R s m args below meth c G nL cells slots Q ws' (pc + 1) lv sk) : V p l e R s m args below meth c G nL cells slots Q ws pc lv (.int x :: .int (nI k) :: .ref a :: sk) := by
  obtain ⟨hx, hb, hml, hown, hts, hr, hlk, hE, hk, hK, hns⟩ := C
  subst hws
  intro H locs ls hI hS hl
  refine va_iast (D := G.1) (cl := classes) hx hb hI.1 hI.2.1 hI.2.2.1 hS q0 t0 ha ht (vp_in_nI hk0 hn) hd ?_
  rw [nI_clamp (by omega)]
  exact fun H1 locs1 hP hD hS1 => kk H1 locs1 ls ⟨hI.1, hP, hD, hI.2.2.2.set ha⟩ hS1 hl
theorem up_nI (f : Nat → Nat) (k v : Nat) : upd (fun j => nI (f j)) k (nI v) = fun j => nI (va_up f k v j) := by
  funext j
  unfold upd va_up
  split <;> rfl
theorem V.iastN (C : Cx p s m args meth c G cc nL ret own) {a n k x : Nat} {cA : ClassId} {f : Nat → Nat} (q0 t0 : Nat) (ha : ws[q0]? = some (a, .inl (cA, n, .inl (fun j => nI (f j))))) (ht : G.2.1[t0]? = some (cA, .int)) (hk0 : k < n) (hn : n < 2 ^ 31) (hws : ws.set q0 (a, .inl (cA, n, .inl (fun j => nI (va_up f k x j)))) = ws') (hd : decode cc pc = .ok (.iastore, 1))
    (kk : V p l e R s m args below meth c G nL cells slots Q ws' (pc + 1) lv sk) : V p l e R s m args below meth c G nL cells slots Q ws pc lv (.int (nI x) :: .int (nI k) :: .ref a :: sk) :=
  V.iast C q0 t0 ha ht hk0 hn (by rw [up_nI]; exact hws) hd kk
theorem V.last (C : Cx p s m args meth c G cc nL ret own) {a n k : Nat} {cA : ClassId} {f : Nat → Int64} {x : Int64} (q0 t0 : Nat) (ha : ws[q0]? = some (a, .inl (cA, n, .inr (.inl f)))) (ht : G.2.1[t0]? = some (cA, .long)) (hk0 : k < n) (hn : n < 2 ^ 31) (hws : ws.set q0 (a, .inl (cA, n, .inr (.inl (va_up f k x)))) = ws') (hd : decode cc pc = .ok (.lastore, 1))
    (kk : V p l e R s m args below meth c G nL cells slots Q ws' (pc + 1) lv sk) : V p l e R s m args below meth c G nL cells slots Q ws pc lv (.long x :: .int (nI k) :: .ref a :: sk) := by
  obtain ⟨hx, hb, hml, hown, hts, hr, hlk, hE, hk, hK, hns⟩ := C
  subst hws
  intro H locs ls hI hS hl
  refine va_last (D := G.1) (cl := classes) hx hb hI.1 hI.2.1 hI.2.2.1 hS q0 t0 ha ht (vp_in_nI hk0 hn) hd ?_
  rw [nI_clamp (by omega)]
  exact fun H1 locs1 hP hD hS1 => kk H1 locs1 ls ⟨hI.1, hP, hD, hI.2.2.2.set ha⟩ hS1 hl
theorem nar_nI {x : Nat} (h : x < 65536) : vp_nar .char (nI x) = nI x := by
  unfold vp_nar
  rw [(pk_charN h).1]
theorem V.castN (C : Cx p s m args meth c G cc nL ret own) {a n k x : Nat} {cA : ClassId} {f : Nat → Nat} (q0 t0 : Nat) (ha : ws[q0]? = some (a, .inl (cA, n, .inl (fun j => nI (f j))))) (ht : G.2.1[t0]? = some (cA, .char)) (hk0 : k < n) (hn : n < 2 ^ 31) (hx0 : x < 65536) (hws : ws.set q0 (a, .inl (cA, n, .inl (fun j => nI (va_up f k x j)))) = ws') (hd : decode cc pc = .ok (.castore, 1))
    (kk : V p l e R s m args below meth c G nL cells slots Q ws' (pc + 1) lv sk) : V p l e R s m args below meth c G nL cells slots Q ws pc lv (.int (nI x) :: .int (nI k) :: .ref a :: sk) := by
  obtain ⟨hx, hb, hml, hown, hts, hr, hlk, hE, hk, hK, hns⟩ := C
  subst hws
  intro H locs ls hI hS hl
  refine va_cast (D := G.1) (cl := classes) hx hb hI.1 hI.2.1 hI.2.2.1 hS q0 t0 ha ht (vp_in_nI hk0 hn) hd ?_
  rw [nI_clamp (by omega), nar_nI hx0, up_nI]
  exact fun H1 locs1 hP hD hS1 => kk H1 locs1 ls ⟨hI.1, hP, hD, hI.2.2.2.set ha⟩ hS1 hl
theorem V.alen (C : Cx p s m args meth c G cc nL ret own) {a : Nat} {cA : ClassId} {x : vp_A} {ty : FieldType} (q0 t0 : Nat) (ha : ws[q0]? = some (a, .inl (cA, x))) (ht : G.2.1[t0]? = some (cA, ty)) (hd : decode cc pc = .ok (.arraylength, 1))
    (kk : V p l e R s m args below meth c G nL cells slots Q ws (pc + 1) lv (.int (nI x.1) :: sk)) : V p l e R s m args below meth c G nL cells slots Q ws pc lv (.ref a :: sk) := by
  obtain ⟨hx, hb, hml, hown, hts, hr, hlk, hE, hk, hK, hns⟩ := C
  intro H locs ls hI hS hl
  exact va_alen (D := G.1) (cl := classes) hx hb hI.1 hI.2.1 q0 t0 ha ht rfl hd (kk H locs ls hI hS hl)
end VS
