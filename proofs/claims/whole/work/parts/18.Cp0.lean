/-! ===== the Compiler's states; its methods as functions that go on or refuse ===== -/
/-- current, names, code -/
abbrev CS : Type := Nat × Nm × Co
/-- refused at a place, or a value; then the state -/
abbrev CR : Type := (Nat ⊕ Nat) × CS
def bd (x : CS → CR) (f : Nat → CS → CR) (S : CS) : CR := match x S with
  | (.inl q, S1) => (.inl q, S1)
  | (.inr v, S1) => f v S1
theorem bd_no {x : CS → CR} {f : Nat → CS → CR} {S S1 : CS} {q : Nat} (h : x S = (.inl q, S1)) : bd x f S = (.inl q, S1) := by rw [bd, h]
theorem bd_ok {x : CS → CR} {f : Nat → CS → CR} {S S1 : CS} {v : Nat} (h : x S = (.inr v, S1)) : bd x f S = f v S1 := by rw [bd, h]
def cret (v : Nat) (S : CS) : CR := (.inr v, S)
def oc (val : Nat → Option Value) : Nat ⊕ Nat → Oc
  | .inl _ => .inr IAE
  | .inr v => .inl (val v)
def fF (F : Int32) : Nat ⊕ Nat → Int32
  | .inl q => nI q
  | .inr _ => F
abbrev vV : Nat → Option Value := fun _ => none
abbrev vI : Nat → Option Value := fun v => some (.int (nI v))
abbrev Wc (z : Zt) (a u w : Nat → Nat) (P : Pm) (F : Int32) (T : Tk) (D : Co) (M : Mc) (S : CS) : va_W := cw z a u w P F (tk_at T S.1) S.2.1 S.2.2 D M
abbrev Wr (z : Zt) (a u w : Nat → Nat) (P : Pm) (F : Int32) (T : Tk) (D : Co) (M : Mc) (R : CR) : va_W := cw z a u w P (fF F R.1) (tk_at T R.2.1) R.2.2.1 R.2.2.2 D M
section VB
variable {p : Program} {l : Launch} {e : Env} {R : Room} {s : State} {m : MethodId} {args : Array Value} {below : List Frame} {meth : Method} {c : Code} {nL : Nat} {pc : Nat} {lv : List (Nat × Value)} {sk rest : List Value}
variable {cc : ByteArray} {ret : Option FieldType} {own : String} {z : Zt} {a u w : Nat → Nat} {P : Pm} {F : Int32} {T : Tk} {D : Co} {M : Mc}
theorem V.bd {x : CS → CR} {f : Nat → CS → CR} {S : CS} {Rr : CR} {val val' : Nat → Option Value} {h : Nat} {y : MethodName} {ccY : ByteArray} {nLY n i : Nat} {retY : Option FieldType} {As : List Value} (X : Cx p s m args meth c (Gz z) cc nL ret own) (hres : bd x f S = Rr)
    (hM : XC l (Gz z) h y ccY nLY retY (.ref (a 2) :: As) (Wc z a u w P F T D M S) (oc val (x S).1) (Wr z a u w P F T D M (x S))) (Y : Yw y ccY nLY retY n) (hl : Cond.methodLink own i y ∈ gt) {N9 : Nat} {T9 : u_T} (hc : classes[1]? = some (y.cls, T9, N9)) (hn : As.length = n) (hstk : sk = As.reverse ++ .ref (a 2) :: rest) (hW : Nat.ble (rest.map fun v => v.category).sum 8 = true) (hR : Rok R h 0 0) (hd : decode cc pc = .ok (.invokevirtual i, 3))
    (kk : ∀ (v : Nat) (S1 : CS), x S = (.inr v, S1) → f v S1 = Rr → V p l e R s m args below meth c (Gz z) nL 0 0 (XE below (Gz z) (oc val' Rr.1) (Wr z a u w P F T D M Rr) args s) (Wc z a u w P F T D M S1) (pc + 3) lv ((val v).toList ++ rest)) :
    V p l e R s m args below meth c (Gz z) nL 0 0 (XE below (Gz z) (oc val' Rr.1) (Wr z a u w P F T D M Rr) args s) (Wc z a u w P F T D M S) pc lv sk := by
  rcases hx : x S with ⟨q | v, S1⟩
  · rw [hx] at hM
    rw [bd_no hx] at hres
    subst hres
    exact V.callVX X hM Y hl 2 rfl hc hn hstk hW hR hd rfl rfl
  · rw [hx] at hM
    rw [bd_ok hx] at hres
    exact V.callV X hM Y hl 2 rfl hc hn hstk hW hR hd (kk v S1 hx hres)
end VB
/-! tokens -/
def kd (T : Tk) (i : Nat) : Nat := (T.1 i).getD 0
def TkOk (T : Tk) (m : Nat) : Prop := m ≤ 150 ∧ (∀ i, i ≤ m → ∃ k, T.1 i = some k ∧ k < 29) ∧ (kd T m = 27 ∨ kd T m = 28)
def NmOk (N : Nm) : Prop := N.2.2.2.2.2.1 ≤ N.2.2.2.2.2.2.2.1 + N.2.2.2.2.2.2.2.2 ∧ N.2.2.2.2.2.2.2.1 ≤ 12 ∧ N.2.2.2.2.2.2.2.2 ≤ 6 ∧ N.2.2.2.2.2.2.1 < 4 ∧ (∀ i, N.2.2.1 i < 4) ∧ (∀ i, N.2.1 i ≤ 2) ∧ (∀ i, N.2.1 i = 2 → N.2.2.2.1 i < 6) ∧ (∀ i j, i ≤ j → j < N.2.2.2.2.2.1 → N.2.2.1 i ≤ N.2.2.1 j) ∧ ∀ i, i < N.2.2.2.2.2.1 → N.2.2.1 i ≤ N.2.2.2.2.2.2.1
def CoOk (C : Co) : Prop := C.2.2.2.2.2.2.1 ≤ 300 ∧ (∀ i, C.1 i ≤ 20) ∧ (∀ i, C.2.2.2.2.2.1 i < 8) ∧ ∀ i, C.2.2.2.2.1 i ≤ 3
def Ok (m : Nat) (S : CS) : Prop := S.1 ≤ m ∧ NmOk S.2.1 ∧ CoOk S.2.2
theorem TkOk.some {T : Tk} {m i : Nat} (h : TkOk T m) (hi : i ≤ m) : T.1 i = some (kd T i) ∧ kd T i < 29 := by
  obtain ⟨k, h1, h2⟩ := h.2.1 i hi
  unfold kd
  rw [h1]
  exact ⟨rfl, h2⟩
theorem TkOk.lt {T : Tk} {m i q : Nat} (h : TkOk T m) (hi : i ≤ m) (hk : kd T i = q) (hq : q < 27) : i < m := by
  rcases Nat.lt_or_ge i m with h1 | h1
  · exact h1
  · have : i = m := Nat.le_antisymm hi h1
    subst this
    rcases h.2.2 with h2 | h2 <;> omega
def adv (S : CS) : CS := (tk_adv S.1, S.2)
def cadd (S : CS) (x f t : Nat) : CS := (S.1, S.2.1, co_add S.2.2 x f t)
def cjmp (S : CS) (k : Nat) : CS := (S.1, S.2.1, co_jump S.2.2 k)
def cadr (S : CS) (k : Nat) : CS := (S.1, S.2.1, co_addr S.2.2 k)
theorem ok_adv {T : Tk} {m q : Nat} {S : CS} (t : TkOk T m) (o : Ok m S) (hk : kd T S.1 = q) (hq : q < 27) : Ok m (adv S) := by
  have h := t.lt o.1 hk hq
  have := t.1
  refine ⟨?_, o.2⟩
  show tk_adv S.1 ≤ m
  unfold tk_adv
  split <;> omega
theorem adv_1 {T : Tk} {m q : Nat} {S : CS} (t : TkOk T m) (o : Ok m S) (hk : kd T S.1 = q) (hq : q < 27) : (adv S).1 = S.1 + 1 := by
  have h := t.lt o.1 hk hq
  have := t.1
  show tk_adv S.1 = _
  unfold tk_adv
  split <;> omega
theorem coOk_add {C : Co} (h : CoOk C) {x f t : Nat} (hx : x ≤ 20) : CoOk (co_add C x f t) := by
  obtain ⟨h1, h2, h3, h4⟩ := h
  unfold co_add
  split
  · exact ⟨h1, h2, h3, h4⟩
  · refine ⟨by dsimp only; omega, fun i => ?_, h3, h4⟩
    dsimp only [va_up]
    split
    · exact hx
    · exact h2 i
theorem coOk_jump {C : Co} (h : CoOk C) {k : Nat} : CoOk (co_jump C k) := by
  obtain ⟨h1, h2, h3, h4⟩ := h
  unfold co_jump
  split
  · exact ⟨h1, h2, h3, h4⟩
  · exact ⟨h1, h2, h3, h4⟩
theorem coOk_addr {C : Co} (h : CoOk C) {k : Nat} : CoOk (co_addr C k) := by
  obtain ⟨h1, h2, h3, h4⟩ := h
  unfold co_addr
  split
  · exact ⟨h1, h2, h3, h4⟩
  · refine ⟨h1, fun i => ?_, h3, h4⟩
    dsimp only [va_up]
    split
    · split <;> omega
    · exact h2 i
theorem ok_add {m : Nat} {S : CS} (o : Ok m S) {x f t : Nat} (hx : x ≤ 20) : Ok m (cadd S x f t) := ⟨o.1, o.2.1, coOk_add o.2.2 hx⟩
theorem ok_jmp {m : Nat} {S : CS} (o : Ok m S) {k : Nat} : Ok m (cjmp S k) := ⟨o.1, o.2.1, coOk_jump o.2.2⟩
theorem ok_adr {m : Nat} {S : CS} (o : Ok m S) {k : Nat} : Ok m (cadr S k) := ⟨o.1, o.2.1, coOk_addr o.2.2⟩
theorem nmOk_add {N : Nm} (h : NmOk N) {v : Int64} {k : Nat} (hk : k ≤ 2) (hf : nm_full N k = false) : NmOk (nm_add N v k) := by
  obtain ⟨h1, h2, h3, h4, h5, h6, h7, h8, h9⟩ := h
  unfold nm_full at hf
  have hlev : ∀ i j, i ≤ j → j < N.2.2.2.2.2.1 + 1 → va_up N.2.2.1 N.2.2.2.2.2.1 N.2.2.2.2.2.2.1 i ≤ va_up N.2.2.1 N.2.2.2.2.2.1 N.2.2.2.2.2.2.1 j := by
    intro i j hij hj
    unfold va_up
    split
    · split
      · omega
      · omega
    · split
      · exact h9 i (by have : i ≠ N.2.2.2.2.2.1 := by assumption
                       have : i < N.2.2.2.2.2.1 := by omega
                       exact this)
      · exact h8 i j hij (by have : j ≠ N.2.2.2.2.2.1 := by assumption
                             have : j < N.2.2.2.2.2.1 := by omega
                             exact this)
  have hlev2 : ∀ i, i < N.2.2.2.2.2.1 + 1 → va_up N.2.2.1 N.2.2.2.2.2.1 N.2.2.2.2.2.2.1 i ≤ N.2.2.2.2.2.2.1 := by
    intro i hi
    unfold va_up
    split
    · omega
    · exact h9 i (by have : i ≠ N.2.2.2.2.2.1 := by assumption
                     have : i < N.2.2.2.2.2.1 := by omega
                     exact this)
  have hl4 : ∀ i, va_up N.2.2.1 N.2.2.2.2.2.1 N.2.2.2.2.2.2.1 i < 4 := by
    intro i
    unfold va_up
    split
    · exact h4
    · exact h5 i
  have hk2 : ∀ i, va_up N.2.1 N.2.2.2.2.2.1 k i ≤ 2 := by
    intro i
    unfold va_up
    split
    · exact hk
    · exact h6 i
  unfold nm_add
  split
  · rename_i hk9
    rw [if_pos hk9] at hf
    have hp := of_decide_eq_false hf
    refine ⟨by dsimp only; omega, h2, by dsimp only; omega, h4, hl4, hk2, fun i hi => ?_, hlev, hlev2⟩
    dsimp only [va_up] at hi ⊢
    split
    · omega
    · rw [if_neg (by assumption)] at hi
      exact h7 i hi
  · rename_i hk9
    rw [if_neg hk9] at hf
    have hp := of_decide_eq_false hf
    refine ⟨by dsimp only; omega, by dsimp only; omega, h3, h4, hl4, hk2, fun i hi => ?_, hlev, hlev2⟩
    dsimp only [va_up] at hi ⊢
    split
    · rw [if_pos (by assumption)] at hi
      exact absurd hi hk9
    · rw [if_neg (by assumption)] at hi
      exact h7 i hi
theorem nmOk_declare {N : Nm} (h : NmOk N) {v : Int64} {k : Nat} (hk : k ≤ 2) : NmOk (nm_declare N v k).2 := by
  unfold nm_declare
  split
  · exact h
  · rename_i hf
    refine nmOk_add h hk ?_
    cases hq : nm_full N k with
    | false => rfl
    | true => rw [hq, Bool.or_true] at hf; exact absurd rfl hf
theorem nmOk_open {N : Nm} (h : NmOk N) : NmOk (nm_open N) := by
  obtain ⟨h1, h2, h3, h4, h5, h6, h7, h8, h9⟩ := h
  unfold nm_open
  split
  · exact ⟨h1, h2, h3, h4, h5, h6, h7, h8, h9⟩
  · refine ⟨h1, h2, h3, by dsimp only; omega, h5, h6, h7, h8, fun i hi => ?_⟩
    have := h9 i hi
    dsimp only
    omega
theorem nm_cut_le {N : Nm} : ∀ k, nm_cut N k ≤ k ∧ ((∀ i j, i ≤ j → j < k → N.2.2.1 i ≤ N.2.2.1 j) → (∀ i, i < k → N.2.2.1 i ≤ N.2.2.2.2.2.2.1) → ∀ i, i < nm_cut N k → N.2.2.1 i + 1 ≤ N.2.2.2.2.2.2.1) := by
  intro k
  induction k with
  | zero => exact ⟨Nat.le_refl _, fun _ _ i hi => absurd hi (Nat.not_lt_zero _)⟩
  | succ k ih =>
    unfold nm_cut
    split
    · refine ⟨by omega, fun a b i hi => ih.2 (fun i j x y => a i j x (by omega)) (fun i x => b i (by omega)) i hi⟩
    · rename_i hne
      refine ⟨Nat.le_refl _, fun a b i hi => ?_⟩
      have x1 := a i k (by omega) (by omega)
      have x2 := b k (by omega)
      omega
theorem nmOk_close {N : Nm} (h : NmOk N) : NmOk (nm_close N) := by
  obtain ⟨h1, h2, h3, h4, h5, h6, h7, h8, h9⟩ := h
  have hc := nm_cut_le (N := N) N.2.2.2.2.2.1
  have q := hc.2 h8 h9
  refine ⟨Nat.le_trans hc.1 h1, h2, h3, ?_, h5, h6, h7, fun i j hij hj => h8 i j hij (Nat.lt_of_lt_of_le hj hc.1), fun i hi => ?_⟩
  · show N.2.2.2.2.2.2.1 - 1 < 4
    omega
  · have := q i hi
    show N.2.2.1 i ≤ N.2.2.2.2.2.2.1 - 1
    omega
theorem nm_level_declare {N : Nm} {v : Int64} {k : Nat} : (nm_declare N v k).2.2.2.2.2.2.2.1 = N.2.2.2.2.2.2.1 := by
  unfold nm_declare nm_add
  split
  · rfl
  · split <;> rfl
theorem nm_level_open {N : Nm} (h : N.2.2.2.2.2.2.1 < 3) : (nm_open N).2.2.2.2.2.2.1 = N.2.2.2.2.2.2.1 + 1 := by
  unfold nm_open
  rw [if_neg (by omega)]
theorem k_kind {l : Launch} {z : Zt} {a u w : Nat → Nat} {P : Pm} {F : Int32} {T : Tk} {m : Nat} {D : Co} {M : Mc} {S : CS} (h : Nat) (t : TkOk T m) (o : Ok m S) : XC l (Gz z) (h) y_Tk_kind b_Tk_kind 1 (some (.object "PascalMachine$Kind")) [.ref (a 3)] (Wc z a u w P F T D M S) (.inl (some (.ref (ek z (kd T S.1))))) (Wc z a u w P F T D M S) := c_Tk_kind (T := tk_at T S.1) h (Nat.lt_succ_of_le (Nat.le_trans o.1 t.1)) (t.some o.1).1
theorem k_place {l : Launch} {z : Zt} {a u w : Nat → Nat} {P : Pm} {F : Int32} {T : Tk} {m : Nat} {D : Co} {M : Mc} {S : CS} (h : Nat) (t : TkOk T m) (o : Ok m S) : XC l (Gz z) (h) y_Tk_place b_Tk_place 1 (some .int) [.ref (a 3)] (Wc z a u w P F T D M S) (.inl (some (.int (nI (T.2.1 S.1))))) (Wc z a u w P F T D M S) := c_Tk_place (T := tk_at T S.1) h (Nat.lt_succ_of_le (Nat.le_trans o.1 t.1))
theorem k_content {l : Launch} {z : Zt} {a u w : Nat → Nat} {P : Pm} {F : Int32} {T : Tk} {m : Nat} {D : Co} {M : Mc} {S : CS} (h : Nat) (t : TkOk T m) (o : Ok m S) : XC l (Gz z) (h) y_Tk_content b_Tk_content 1 (some .long) [.ref (a 3)] (Wc z a u w P F T D M S) (.inl (some (.long (T.2.2.1 S.1)))) (Wc z a u w P F T D M S) := c_Tk_content (T := tk_at T S.1) h (Nat.lt_succ_of_le (Nat.le_trans o.1 t.1))
theorem k_advance {l : Launch} {z : Zt} {a u w : Nat → Nat} {P : Pm} {F : Int32} {T : Tk} {m : Nat} {D : Co} {M : Mc} {S : CS} (h : Nat) (t : TkOk T m) (o : Ok m S) : XC l (Gz z) (h) y_Tk_advance b_Tk_advance 1 none [.ref (a 3)] (Wc z a u w P F T D M S) (.inl none) (Wc z a u w P F T D M (adv S)) := c_Tk_advance (T := tk_at T S.1) h (Nat.lt_succ_of_le (Nat.le_trans o.1 t.1))
theorem k_accept_t {l : Launch} {z : Zt} {a u w : Nat → Nat} {P : Pm} {F : Int32} {T : Tk} {m : Nat} {D : Co} {M : Mc} {S : CS} (h : Nat) (t : TkOk T m) (o : Ok m S) {q : Nat} (hq : q < 29) (hk : kd T S.1 = q) : XC l (Gz z) (h + 1) y_Tk_accept b_Tk_accept 2 (some .boolean) [.ref (a 3), .ref (ek z q)] (Wc z a u w P F T D M S) (.inl (some (.int (bI (decide (kd T S.1 = q)))))) (Wc z a u w P F T D M (adv S)) := by
  have := c_Tk_accept (l := l) (z := z) (a := a) (u := u) (w := w) (P := P) (F := F) (N := S.2.1) (C := S.2.2) (D := D) (M := M) (T := tk_at T S.1) h (k := kd T S.1) (q := q) (Nat.lt_succ_of_le (Nat.le_trans o.1 t.1)) (t.some o.1).1 (t.some o.1).2 hq
  rw [if_pos hk] at this
  exact this
theorem k_accept_f {l : Launch} {z : Zt} {a u w : Nat → Nat} {P : Pm} {F : Int32} {T : Tk} {m : Nat} {D : Co} {M : Mc} {S : CS} (h : Nat) (t : TkOk T m) (o : Ok m S) {q : Nat} (hq : q < 29) (hk : ¬ kd T S.1 = q) : XC l (Gz z) (h + 1) y_Tk_accept b_Tk_accept 2 (some .boolean) [.ref (a 3), .ref (ek z q)] (Wc z a u w P F T D M S) (.inl (some (.int (bI (decide (kd T S.1 = q)))))) (Wc z a u w P F T D M S) := by
  have := c_Tk_accept (l := l) (z := z) (a := a) (u := u) (w := w) (P := P) (F := F) (N := S.2.1) (C := S.2.2) (D := D) (M := M) (T := tk_at T S.1) h (k := kd T S.1) (q := q) (Nat.lt_succ_of_le (Nat.le_trans o.1 t.1)) (t.some o.1).1 (t.some o.1).2 hq
  rw [if_neg hk] at this
  exact this
theorem k_isBefore {l : Launch} {z : Zt} {a u w : Nat → Nat} {P : Pm} {F : Int32} {T : Tk} {m : Nat} {D : Co} {M : Mc} {S : CS} (h : Nat) (t : TkOk T m) (o : Ok m S) (hk : kd T S.1 = 25) {q : Nat} (hq : q < 29) : XC l (Gz z) (h) y_Tk_isBefore b_Tk_isBefore 2 (some .boolean) [.ref (a 3), .ref (ek z q)] (Wc z a u w P F T D M S) (.inl (some (.int (bI (decide (kd T (S.1 + 1) = q)))))) (Wc z a u w P F T D M S) := c_Tk_isBefore (T := tk_at T S.1) h (Nat.lt_of_lt_of_le (t.lt o.1 hk (by decide)) t.1) (t.some (t.lt o.1 hk (by decide))).1 (t.some (t.lt o.1 hk (by decide))).2 hq
theorem k_find_none {l : Launch} {z : Zt} {a u w : Nat → Nat} {P : Pm} {F : Int32} {T : Tk} {m : Nat} {D : Co} {M : Mc} {S : CS} (h : Nat) (o : Ok m S) {v : Int64} (hf : nm_find S.2.1 v = none) : XC l (Gz z) (h) y_Nm_find b_Nm_find 4 (some .int) [.ref (a 7), .long v] (Wc z a u w P F T D M S) (.inl (some (.int (-1)))) (Wc z a u w P F T D M S) := c_Nm_find_none h (by have h1 := o.2.1.1; have h2 := o.2.1.2.1; have h3 := o.2.1.2.2.1; omega) hf
theorem k_find_some {l : Launch} {z : Zt} {a u w : Nat → Nat} {P : Pm} {F : Int32} {T : Tk} {m : Nat} {D : Co} {M : Mc} {S : CS} (h : Nat) (o : Ok m S) {v : Int64} {i : Nat} (hf : nm_find S.2.1 v = some i) : XC l (Gz z) (h) y_Nm_find b_Nm_find 4 (some .int) [.ref (a 7), .long v] (Wc z a u w P F T D M S) (.inl (some (.int (nI i)))) (Wc z a u w P F T D M S) := c_Nm_find_some h (by have h1 := o.2.1.1; have h2 := o.2.1.2.1; have h3 := o.2.1.2.2.1; omega) hf
theorem fnd18 {m : Nat} {S : CS} (o : Ok m S) {v : Int64} {i : Nat} (hf : nm_find S.2.1 v = some i) : i < 18 ∧ S.2.1.levels i ≤ S.2.1.level := by
  have h0 := (nm_find_lt hf).1
  have h1 := o.2.1.1; have h2 := o.2.1.2.1; have h3 := o.2.1.2.2.1
  exact ⟨by omega, o.2.1.2.2.2.2.2.2.2.2 i h0⟩
theorem k_isProcedure {l : Launch} {z : Zt} {a u w : Nat → Nat} {P : Pm} {F : Int32} {T : Tk} {m : Nat} {D : Co} {M : Mc} {S : CS} (h : Nat) (o : Ok m S) {i : Nat} (hi : i < 18) : XC l (Gz z) (h) y_Nm_isProcedure b_Nm_isProcedure 2 (some .boolean) [.ref (a 7), .int (nI i)] (Wc z a u w P F T D M S) (.inl (some (.int (bI (decide (S.2.1.kinds i = 2)))))) (Wc z a u w P F T D M S) := c_Nm_isProcedure h hi (by have := o.2.1.2.2.2.2.2.1 i; omega)
theorem k_isReference {l : Launch} {z : Zt} {a u w : Nat → Nat} {P : Pm} {F : Int32} {T : Tk} {m : Nat} {D : Co} {M : Mc} {S : CS} (h : Nat) (o : Ok m S) {i : Nat} (hi : i < 18) : XC l (Gz z) (h) y_Nm_isReference b_Nm_isReference 2 (some .boolean) [.ref (a 7), .int (nI i)] (Wc z a u w P F T D M S) (.inl (some (.int (bI (decide (S.2.1.kinds i = 1)))))) (Wc z a u w P F T D M S) := c_Nm_isReference h hi (by have := o.2.1.2.2.2.2.2.1 i; omega)
theorem k_hops {l : Launch} {z : Zt} {a u w : Nat → Nat} {P : Pm} {F : Int32} {T : Tk} {m : Nat} {D : Co} {M : Mc} {S : CS} (h : Nat) (o : Ok m S) {i : Nat} (hi : i < 18) (hl : S.2.1.levels i ≤ S.2.1.level) : XC l (Gz z) (h) y_Nm_hops b_Nm_hops 2 (some .int) [.ref (a 7), .int (nI i)] (Wc z a u w P F T D M S) (.inl (some (.int (nI (S.2.1.level - S.2.1.levels i))))) (Wc z a u w P F T D M S) := c_Nm_hops h hi hl
theorem k_number {l : Launch} {z : Zt} {a u w : Nat → Nat} {P : Pm} {F : Int32} {T : Tk} {m : Nat} {D : Co} {M : Mc} {S : CS} (h : Nat) {i : Nat} (hi : i < 18) : XC l (Gz z) (h) y_Nm_number b_Nm_number 2 (some .int) [.ref (a 7), .int (nI i)] (Wc z a u w P F T D M S) (.inl (some (.int (nI (S.2.1.numbers i))))) (Wc z a u w P F T D M S) := c_Nm_number h hi
theorem k_declared {l : Launch} {z : Zt} {a u w : Nat → Nat} {P : Pm} {F : Int32} {T : Tk} {m : Nat} {D : Co} {M : Mc} {S : CS} (h : Nat)  : XC l (Gz z) (h) y_Nm_declared b_Nm_declared 1 (some .int) [.ref (a 7)] (Wc z a u w P F T D M S) (.inl (some (.int (nI (S.2.1.variables + S.2.1.procedures))))) (Wc z a u w P F T D M S) := c_Nm_declared h
theorem k_lastProcedure {l : Launch} {z : Zt} {a u w : Nat → Nat} {P : Pm} {F : Int32} {T : Tk} {m : Nat} {D : Co} {M : Mc} {S : CS} (h : Nat) (hp : 1 ≤ S.2.1.procedures) : XC l (Gz z) (h) y_Nm_lastProcedure b_Nm_lastProcedure 1 (some .int) [.ref (a 7)] (Wc z a u w P F T D M S) (.inl (some (.int (nI (S.2.1.procedures - 1))))) (Wc z a u w P F T D M S) := c_Nm_lastProcedure h hp
theorem k_open {l : Launch} {z : Zt} {a u w : Nat → Nat} {P : Pm} {F : Int32} {T : Tk} {m : Nat} {D : Co} {M : Mc} {S : CS} (h : Nat) (o : Ok m S) : XC l (Gz z) (h) y_Nm_open b_Nm_open 1 none [.ref (a 7)] (Wc z a u w P F T D M S) (.inl none) (Wc z a u w P F T D M (S.1, nm_open S.2.1, S.2.2)) := c_Nm_open h (by have := o.2.1.2.2.2.1; omega)
theorem k_close {l : Launch} {z : Zt} {a u w : Nat → Nat} {P : Pm} {F : Int32} {T : Tk} {m : Nat} {D : Co} {M : Mc} {S : CS} (h : Nat) (o : Ok m S) (hl : 1 ≤ S.2.1.level) : XC l (Gz z) (h) y_Nm_close b_Nm_close 1 none [.ref (a 7)] (Wc z a u w P F T D M S) (.inl none) (Wc z a u w P F T D M (S.1, nm_close S.2.1, S.2.2)) := c_Nm_close h (by have h1 := o.2.1.1; have h2 := o.2.1.2.1; have h3 := o.2.1.2.2.1; omega) (fun i => by have := o.2.1.2.2.2.2.1 i; omega) hl (by have := o.2.1.2.2.2.1; omega)
theorem k_declare {l : Launch} {z : Zt} {a u w : Nat → Nat} {P : Pm} {F : Int32} {T : Tk} {m : Nat} {D : Co} {M : Mc} {S : CS} (h : Nat) (o : Ok m S) {v : Int64} {k : Nat} (hk : k ≤ 2) : XC l (Gz z) (h + 1) y_Nm_declare b_Nm_declare 6 (some .boolean) [.ref (a 7), .long v, .int (nI k)] (Wc z a u w P F T D M S) (.inl (some (.int (bI (nm_declare S.2.1 v k).1)))) (Wc z a u w P F T D M (S.1, (nm_declare S.2.1 v k).2, S.2.2)) := c_Nm_declare h (by omega) o.2.1.1 o.2.1.2.1 o.2.1.2.2.1 o.2.1.2.2.2.1 (fun i => by have := o.2.1.2.2.2.2.1 i; omega)
theorem k_add {l : Launch} {z : Zt} {a u w : Nat → Nat} {P : Pm} {F : Int32} {T : Tk} {m : Nat} {D : Co} {M : Mc} {S : CS} (h : Nat) (o : Ok m S) {x f t : Nat} : XC l (Gz z) (h) y_Co_add b_Co_add 5 (some .int) [.ref (u 0), .int (nI x), .int (nI f), .int (nI t)] (Wc z a u w P F T D M S) (.inl (some (.int (nI S.2.2.size)))) (Wc z a u w P F T D M (cadd S x f t)) := c_Co_add h (by have := o.2.2.1; omega)
theorem k_isRef {l : Launch} {z : Zt} {a u w : Nat → Nat} {P : Pm} {F : Int32} {T : Tk} {m : Nat} {D : Co} {M : Mc} {S : CS} (h : Nat) (o : Ok m S) {x k : Nat} (hx : x < 6) (hk : k < 2 ^ 31) : XC l (Gz z) (h) y_Co_isReference b_Co_isReference 3 (some .boolean) [.ref (u 0), .int (nI x), .int (nI k)] (Wc z a u w P F T D M S) (.inl (some (.int (bI (co_isRef S.2.2 x k))))) (Wc z a u w P F T D M S) := c_Co_isReference h hx hk (by have := o.2.2.2.2.1 x; omega)
theorem k_jump {l : Launch} {z : Zt} {a u w : Nat → Nat} {P : Pm} {F : Int32} {T : Tk} {m : Nat} {D : Co} {M : Mc} {S : CS} (h : Nat) (o : Ok m S) {k : Nat} (hk : k < 2 ^ 31) : XC l (Gz z) (h) y_Co_jumpToEnd b_Co_jumpToEnd 2 none [.ref (u 0), .int (nI k)] (Wc z a u w P F T D M S) (.inl none) (Wc z a u w P F T D M (cjmp S k)) := c_Co_jumpToEnd h hk o.2.2.1
theorem k_addr {l : Launch} {z : Zt} {a u w : Nat → Nat} {P : Pm} {F : Int32} {T : Tk} {m : Nat} {D : Co} {M : Mc} {S : CS} (h : Nat) (o : Ok m S) {k : Nat} (hk : k < 2 ^ 31) : XC l (Gz z) (h) y_Co_takeAddress b_Co_takeAddress 2 none [.ref (u 0), .int (nI k)] (Wc z a u w P F T D M S) (.inl none) (Wc z a u w P F T D M (cadr S k)) := c_Co_takeAddress h hk o.2.2.1 (by have := o.2.2.2.1 k; omega)
