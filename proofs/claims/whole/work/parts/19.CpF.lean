/-! ===== the Compiler's methods as functions ===== -/
def cp_no (T : Tk) (S : CS) : CR := (.inl (T.2.1 S.1), S)
def cp_expect (T : Tk) (q : Nat) (S : CS) : CR := if kd T S.1 = q then (.inr 0, adv S) else cp_no T S
def cp_dec (T : Tk) (k : Nat) (S : CS) : CR := if kd T S.1 = 25 then (if (nm_declare S.2.1 (T.2.2.1 S.1) k).1 = true then (.inr 0, adv (S.1, (nm_declare S.2.1 (T.2.2.1 S.1) k).2, S.2.2)) else cp_no T (S.1, (nm_declare S.2.1 (T.2.2.1 S.1) k).2, S.2.2)) else cp_no T S
/-- while the token is q: it is passed, and then x -/
def cp_rep (T : Tk) (q : Nat) (x : CS → CR) : Nat → CS → CR
  | 0, S => (.inr 0, S)
  | n + 1, S => if kd T S.1 = q then bd x (fun _ => cp_rep T q x n) (adv S) else (.inr 0, S)
def cp_vars (T : Tk) (S : CS) : CR := bd (cp_dec T 0) (fun _ => bd (cp_rep T 12 (cp_dec T 0) 150) (fun _ => cp_expect T 11)) S
def i32n (x : Int32) : Nat := x.toBitVec.toNat
theorem nI_i32n (x : Int32) : nI (i32n x) = x := by
  show Int32.ofNat x.toBitVec.toNat = x
  apply Int32.toBitVec_inj.mp
  show BitVec.ofNat 32 x.toBitVec.toNat = x.toBitVec
  exact BitVec.ofNat_toNat ..
def cp_var (T : Tk) (S : CS) : CR := match nm_find S.2.1 (T.2.2.1 S.1) with
  | none => cp_no T S
  | some i => if S.2.1.2.1 i = 2 then cp_no T S else (.inr 0, adv (cadd S (if S.2.1.2.1 i = 1 then 3 else 2) (S.2.1.2.2.2.2.2.2.1 - S.2.1.2.2.1 i) (S.2.1.2.2.2.1 i)))
/-- a factor; an expression in brackets is read by x -/
def cp_fact (T : Tk) (x : CS → CR) (S : CS) : CR :=
  if kd T S.1 = 26 then (.inr 0, adv (cadd S 1 (i32n (T.2.2.1 S.1).toInt32) 0))
  else if kd T S.1 = 25 then cp_var T S
  else if kd T S.1 = 13 then x S
  else cp_no T S
def mulop (k : Nat) : Option Nat := if k = 21 then some 10 else if k = 22 then some 11 else if k = 23 then some 12 else none
def cmpop (k : Nat) : Option Nat := if k = 16 then some 13 else if k = 17 then some 14 else if k = 18 then some 15 else none
def cp_tl (T : Tk) (f : CS → CR) : Nat → CS → CR
  | 0, S => (.inr 0, S)
  | n + 1, S => match mulop (kd T S.1) with
    | none => (.inr 0, S)
    | some x => bd f (fun _ S1 => cp_tl T f n (cadd S1 x 0 0)) (adv S)
def cp_term (T : Tk) (f : CS → CR) (S : CS) : CR := bd f (fun _ => cp_tl T f 150) S
def cp_sl (T : Tk) (t : CS → CR) : Nat → CS → CR
  | 0, S => (.inr 0, S)
  | n + 1, S => if kd T S.1 = 19 then bd t (fun _ S1 => cp_sl T t n (cadd S1 8 0 0)) (adv S)
    else if kd T S.1 = 20 then bd t (fun _ S1 => cp_sl T t n (cadd S1 9 0 0)) (adv S)
    else (.inr 0, S)
def cp_ex (T : Tk) (t : CS → CR) (S : CS) : CR := if kd T S.1 = 20 then bd t (fun _ S1 => cp_sl T t 150 (cadd S1 7 0 0)) (adv S) else bd t (fun _ => cp_sl T t 150) S
/-- an expression around which 8 - n brackets stand -/
def cp_expr (T : Tk) : Nat → CS → CR
  | 0 => cp_ex T (cp_term T (cp_fact T (cp_no T)))
  | n + 1 => cp_ex T (cp_term T (cp_fact T (fun S => bd (cp_expr T n) (fun _ => cp_expect T 14) (adv S))))
def cp_brk (T : Tk) : Nat → CS → CR
  | 0 => cp_no T
  | n + 1 => fun S => bd (cp_expr T n) (fun _ => cp_expect T 14) (adv S)
theorem cp_expr_eq (T : Tk) (n : Nat) : cp_expr T n = cp_ex T (cp_term T (cp_fact T (cp_brk T n))) := by
  cases n <;> rfl
def cp_cond (T : Tk) (S : CS) : CR := bd (cp_expr T 8) (fun _ S1 => match cmpop (kd T S1.1) with
  | none => cp_no T S1
  | some x => bd (cp_expr T 8) (fun _ S2 => (.inr (cadd S2 x 0 0).2.2.2.2.2.2.2.2.1, cadd (cadd S2 x 0 0) 17 0 0)) (adv S1)) S
def cp_write (T : Tk) (S : CS) : CR := bd (cp_expect T 13) (fun _ => bd (cp_expr T 8) (fun _ => bd (cp_expect T 14) (fun _ S1 => (.inr 0, cadd S1 20 0 0)))) (cadd S 0 0 0)
def cp_assign (T : Tk) (S : CS) : CR := match nm_find S.2.1 (T.2.2.1 S.1) with
  | none => cp_no T S
  | some i => if S.2.1.2.1 i = 2 then cp_no T S else bd (cp_expect T 10) (fun _ => bd (cp_expr T 8) (fun _ S1 => (.inr 0, cadd S1 (if S1.2.1.2.1 i = 1 then 6 else 5) (S1.2.1.2.2.2.2.2.2.1 - S1.2.1.2.2.1 i) (S1.2.1.2.2.2.1 i)))) (adv (cadd S 0 0 0))
def cp_al (T : Tk) (q : Nat) : Nat → Nat → CS → CR
  | 0, r, S => bd (cp_expect T 14) (fun _ => cret r) S
  | n + 1, r, S => bd (cp_expr T 8) (fun _ S1 =>
      if co_isRef S1.2.2 q r = true then
        (if kd T S.1 = 25 ∧ S1.2.2.2.2.2.2.2.2.1 = S.2.2.2.2.2.2.2.2.1 + 1 then
          (if kd T S1.1 = 12 then cp_al T q n (r + 1) (adv (cadr S1 S.2.2.2.2.2.2.2.2.1)) else bd (cp_expect T 14) (fun _ => cret (r + 1)) (cadr S1 S.2.2.2.2.2.2.2.2.1))
        else (.inl (T.2.1 S.1), S1))
      else (if kd T S1.1 = 12 then cp_al T q n (r + 1) (adv S1) else bd (cp_expect T 14) (fun _ => cret (r + 1)) S1)) S
def cp_args (T : Tk) (q : Nat) (S : CS) : CR := if kd T S.1 = 13 then cp_al T q 150 0 (adv S) else (.inr 0, S)
def cp_call (T : Tk) (S : CS) : CR := match nm_find S.2.1 (T.2.2.1 S.1) with
  | none => cp_no T S
  | some i => if S.2.1.2.1 i = 2 then bd (cp_args T (S.2.1.2.2.2.1 i)) (fun v S1 => if v = S1.2.2.2.2.2.2.1 (S.2.1.2.2.2.1 i) then (.inr 0, cadd S1 18 (S1.2.1.2.2.2.2.2.2.1 - S1.2.1.2.2.1 i) (S.2.1.2.2.2.1 i)) else (.inl (T.2.1 S.1), S1)) (adv (cadd S 0 0 0)) else cp_no T S
def cp_if (T : Tk) (s : CS → CR) (S : CS) : CR := bd (cp_cond T) (fun e => bd (cp_expect T 5) (fun _ => bd s (fun _ S1 =>
  if kd T S1.1 = 6 then bd s (fun _ S2 => (.inr 0, cjmp S2 (adv S1).2.2.2.2.2.2.2.2.1)) (cjmp (cadd (adv S1) 16 0 0) e) else (.inr 0, cjmp S1 e)))) (cadd S 0 0 0)
def cp_while (T : Tk) (s : CS → CR) (S : CS) : CR := bd (cp_cond T) (fun e => bd (cp_expect T 8) (fun _ => bd s (fun _ S1 => (.inr 0, cjmp (cadd S1 16 S.2.2.2.2.2.2.2.2.1 0) e)))) (cadd S 0 0 0)
def cp_stmts (T : Tk) (s : CS → CR) (S : CS) : CR := bd s (fun _ => bd (cp_rep T 11 s 150) (fun _ => cp_expect T 3)) S
def cp_st (T : Tk) (x2 x4 x7 : CS → CR) (S : CS) : CR :=
  if kd T S.1 = 25 then (if kd T (S.1 + 1) = 10 then cp_assign T S else cp_call T S)
  else if kd T S.1 = 2 then x2 S
  else if kd T S.1 = 4 then x4 S
  else if kd T S.1 = 7 then x7 S
  else if kd T S.1 = 9 then cp_write T (adv S)
  else (.inr 0, S)
/-- a statement around which 8 - n of begin, if and while stand -/
def cp_stm (T : Tk) : Nat → CS → CR
  | 0 => cp_st T (cp_no T) (cp_no T) (cp_no T)
  | n + 1 => cp_st T (fun S => cp_stmts T (cp_stm T n) (adv S)) (fun S => cp_if T (cp_stm T n) (adv S)) (fun S => cp_while T (cp_stm T n) (adv S))
def cp_par (T : Tk) (q : Nat) (S : CS) : CR :=
  if kd T S.1 = 24 then
    (if S.2.2.2.2.2.2.1 q = 3 then cp_no T (adv S) else bd (cp_dec T 1) (fun _ S1 => (.inr 0, (S1.1, S1.2.1, (S1.2.2.1, S1.2.2.2.1, S1.2.2.2.2.1, S1.2.2.2.2.2.1, va_up S1.2.2.2.2.2.2.1 q (S1.2.2.2.2.2.2.1 q + 1), va_up S1.2.2.2.2.2.2.2.1 q (S1.2.2.2.2.2.2.2.1 q ||| 2 ^ S.2.2.2.2.2.2.1 q), S1.2.2.2.2.2.2.2.2)))) (adv S))
  else
    (if S.2.2.2.2.2.2.1 q = 3 then cp_no T S else bd (cp_dec T 0) (fun _ S1 => (.inr 0, (S1.1, S1.2.1, (S1.2.2.1, S1.2.2.2.1, S1.2.2.2.2.1, S1.2.2.2.2.2.1, va_up S1.2.2.2.2.2.2.1 q (S1.2.2.2.2.2.2.1 q + 1), S1.2.2.2.2.2.2.2.1, S1.2.2.2.2.2.2.2.2)))) S)
def cp_pars (T : Tk) (q : Nat) (S : CS) : CR := bd (cp_par T q) (fun _ => bd (cp_rep T 12 (cp_par T q) 150) (fun _ => cp_expect T 14)) S
/-- the new procedure q stands with no parameter, its block is opened -/
def cp_pOpen (S : CS) : CS := (S.1, nm_open S.2.1, (S.2.2.1, S.2.2.2.1, S.2.2.2.2.1, S.2.2.2.2.2.1, va_up S.2.2.2.2.2.2.1 (S.2.1.2.2.2.2.2.2.2.2 - 1) 0, va_up S.2.2.2.2.2.2.2.1 (S.2.1.2.2.2.2.2.2.2.2 - 1) 0, S.2.2.2.2.2.2.2.2))
def cp_pEntry (q e : Nat) (S : CS) : CS := (S.1, nm_close S.2.1, (S.2.2.1, S.2.2.2.1, S.2.2.2.2.1, va_up S.2.2.2.2.2.1 q e, S.2.2.2.2.2.2))
def cp_pHead (T : Tk) (q : Nat) (S : CS) : CR := if kd T S.1 = 13 then bd (cp_pars T q) (fun _ => cp_expect T 11) (adv S) else cp_expect T 11 S
/-- a procedure, whose block is read by b -/
def cp_pc (T : Tk) (b : CS → CR) (S : CS) : CR := bd (cp_dec T 2) (fun _ S1 => bd (cp_pHead T (S1.2.1.2.2.2.2.2.2.2.2 - 1)) (fun _ => bd b (fun e S2 => cp_expect T 11 (cp_pEntry (S1.2.1.2.2.2.2.2.2.2.2 - 1) e S2))) (cp_pOpen S1)) (adv S)
def cp_ps (T : Tk) (x : CS → CR) : Nat → CS → CR
  | 0, S => (.inr 0, S)
  | n + 1, S => if kd T S.1 = 1 then bd x (fun _ => cp_ps T x n) S else (.inr 0, S)
def cp_body (T : Tk) (S : CS) : CR := bd (cp_expect T 2) (fun _ => bd (cp_stmts T (cp_stm T 8)) (fun _ S1 => (.inr S.2.2.2.2.2.2.2.2.1, cadd S1 19 0 0))) S
def cp_bk (T : Tk) (x : CS → CR) (S : CS) : CR := if kd T S.1 = 0 then bd (cp_vars T) (fun _ => bd (cp_ps T x 150) (fun _ => cp_body T)) (adv S) else bd (cp_ps T x 150) (fun _ => cp_body T) S
/-- a block around which 3 - n others stand; a procedure within such a one -/
def cp_block (T : Tk) : Nat → CS → CR
  | 0 => cp_bk T (cp_no T)
  | n + 1 => cp_bk T (cp_pc T (cp_block T n))
def cp_proc (T : Tk) : Nat → CS → CR
  | 0 => cp_no T
  | n + 1 => cp_pc T (cp_block T n)
theorem cp_block_eq (T : Tk) (n : Nat) : cp_block T n = cp_bk T (cp_proc T n) := by
  cases n <;> rfl
def cp_all (T : Tk) (S : CS) : CR := bd (cp_block T 3) (fun e S1 => bd (cp_expect T 15) (fun _ S2 => if kd T S2.1 = 28 then (.inr (S2.2.1.2.2.2.2.2.2.2.1 + S2.2.1.2.2.2.2.2.2.2.2), S2) else cp_no T S2) (S1.1, S1.2.1, (S1.2.2.1, S1.2.2.2.1, S1.2.2.2.2.1, S1.2.2.2.2.2.1, S1.2.2.2.2.2.2.1, S1.2.2.2.2.2.2.2.1, S1.2.2.2.2.2.2.2.2.1, e))) S
/-! laws of bd -/
theorem bd_assoc (x : CS → CR) (f : Nat → CS → CR) (g : Nat → CS → CR) (S : CS) : bd (bd x f) g S = bd x (fun v => bd (f v) g) S := by
  rcases hx : x S with ⟨q | v, S1⟩
  · rw [bd_no hx, bd_no (f := g) (bd_no hx)]
  · rw [bd_ok hx]
    unfold bd
    rw [hx]
theorem bd_rep_0 {T : Tk} {q : Nat} {x : CS → CR} {f : Nat → CS → CR} {S : CS} : bd (cp_rep T q x 0) f S = f 0 S := rfl
theorem bd_rep_t {T : Tk} {q n : Nat} {x : CS → CR} {f : Nat → CS → CR} {S : CS} (h : kd T S.1 = q) : bd (cp_rep T q x (n + 1)) f S = bd x (fun _ => bd (cp_rep T q x n) f) (adv S) := by
  rw [← bd_assoc]
  show bd _ f S = _
  unfold bd
  rw [cp_rep, if_pos h]
  rfl
theorem bd_rep_f {T : Tk} {q n : Nat} {x : CS → CR} {f : Nat → CS → CR} {S : CS} (h : ¬ kd T S.1 = q) : bd (cp_rep T q x (n + 1)) f S = f 0 S := bd_ok (by rw [cp_rep, if_neg h])
theorem bd_ps_0 {T : Tk} {x : CS → CR} {f : Nat → CS → CR} {S : CS} : bd (cp_ps T x 0) f S = f 0 S := rfl
theorem bd_ps_t {T : Tk} {n : Nat} {x : CS → CR} {f : Nat → CS → CR} {S : CS} (h : kd T S.1 = 1) : bd (cp_ps T x (n + 1)) f S = bd x (fun _ => bd (cp_ps T x n) f) S := by
  rw [← bd_assoc]
  show bd _ f S = _
  unfold bd
  rw [cp_ps, if_pos h]
  rfl
theorem bd_ps_f {T : Tk} {n : Nat} {x : CS → CR} {f : Nat → CS → CR} {S : CS} (h : ¬ kd T S.1 = 1) : bd (cp_ps T x (n + 1)) f S = f 0 S := bd_ok (by rw [cp_ps, if_neg h])
/-! what is kept -/
/-- the order of states by which the names stay as they are -/
def RS (m : Nat) (A B : CS) : Prop := (Ok m A → Ok m B) ∧ B.2.1 = A.2.1
theorem RS.rf {m : Nat} {A : CS} : RS m A A := ⟨id, rfl⟩
theorem RS.tr {m : Nat} {A B C : CS} (h : RS m A B) (k : RS m B C) : RS m A C := ⟨fun o => k.1 (h.1 o), k.2.trans h.2⟩
theorem RS.bd {m : Nat} {x : CS → CR} {f : Nat → CS → CR} {S : CS} (h : RS m S (x S).2) (k : ∀ v S1, x S = (.inr v, S1) → RS m S1 (f v S1).2) : RS m S (bd x f S).2 := by
  rcases hx : x S with ⟨q | v, S1⟩
  · rw [bd_no hx]; rw [hx] at h; exact h
  · rw [bd_ok hx]; rw [hx] at h; exact h.tr (k v S1 hx)
theorem RS.adv {T : Tk} {m q : Nat} {S : CS} (t : TkOk T m) (hk : kd T S.1 = q) (hq : q < 27) : RS m S (adv S) := ⟨fun o => ok_adv t o hk hq, rfl⟩
theorem RS.add {m : Nat} {S : CS} {x f t : Nat} (hx : x ≤ 20) : RS m S (cadd S x f t) := ⟨fun o => ok_add o hx, rfl⟩
theorem RS.jmp {m : Nat} {S : CS} {k : Nat} : RS m S (cjmp S k) := ⟨fun o => ok_jmp o, rfl⟩
theorem RS.adr {m : Nat} {S : CS} {k : Nat} : RS m S (cadr S k) := ⟨fun o => ok_adr o, rfl⟩
theorem rs_expect {T : Tk} {m q : Nat} (t : TkOk T m) (hq : q < 27) (S : CS) : RS m S (cp_expect T q S).2 := by
  unfold cp_expect
  split
  · exact RS.adv t (by assumption) hq
  · exact RS.rf
theorem rs_var {T : Tk} {m : Nat} (t : TkOk T m) (S : CS) (h : kd T S.1 = 25) : RS m S (cp_var T S).2 := by
  unfold cp_var
  split
  · exact RS.rf
  · split
    · exact RS.rf
    · exact RS.tr (RS.add (by split <;> decide)) (RS.adv t (q := 25) h (by decide))
theorem rs_fact {T : Tk} {m : Nat} (t : TkOk T m) {x : CS → CR} (hx : ∀ S, kd T S.1 = 13 → RS m S (x S).2) (S : CS) : RS m S (cp_fact T x S).2 := by
  unfold cp_fact
  split
  · exact RS.tr (RS.add (by decide)) (RS.adv t (q := 26) (by assumption) (by decide))
  · split
    · exact rs_var t S (by assumption)
    · split
      · exact hx S (by assumption)
      · exact RS.rf
theorem mulop_lt {k x : Nat} (h : mulop k = some x) : k < 27 ∧ x ≤ 20 := by
  unfold mulop at h
  repeat' split at h
  all_goals first | (cases h; omega) | cases h
theorem cmpop_lt {k x : Nat} (h : cmpop k = some x) : k < 27 ∧ x ≤ 20 := by
  unfold cmpop at h
  repeat' split at h
  all_goals first | (cases h; omega) | cases h
theorem rs_tl {T : Tk} {m : Nat} (t : TkOk T m) {f : CS → CR} (hf : ∀ S, RS m S (f S).2) : ∀ n S, RS m S (cp_tl T f n S).2 := by
  intro n
  induction n with
  | zero => intro S; exact RS.rf
  | succ n ih =>
    intro S
    unfold cp_tl
    split
    · exact RS.rf
    · rename_i x hx
      exact (RS.adv t rfl (mulop_lt hx).1).tr (RS.bd (hf _) fun v S1 _ => (RS.add (mulop_lt hx).2).tr (ih _))
theorem rs_term {T : Tk} {m : Nat} (t : TkOk T m) {f : CS → CR} (hf : ∀ S, RS m S (f S).2) (S : CS) : RS m S (cp_term T f S).2 := RS.bd (hf S) fun _ S1 _ => rs_tl t hf 150 S1
theorem rs_sl {T : Tk} {m : Nat} (t : TkOk T m) {f : CS → CR} (hf : ∀ S, RS m S (f S).2) : ∀ n S, RS m S (cp_sl T f n S).2 := by
  intro n
  induction n with
  | zero => intro S; exact RS.rf
  | succ n ih =>
    intro S
    unfold cp_sl
    split
    · exact (RS.adv t (q := 19) (by assumption) (by decide)).tr (RS.bd (hf _) fun v S1 _ => (RS.add (by decide)).tr (ih _))
    · split
      · exact (RS.adv t (q := 20) (by assumption) (by decide)).tr (RS.bd (hf _) fun v S1 _ => (RS.add (by decide)).tr (ih _))
      · exact RS.rf
theorem rs_ex {T : Tk} {m : Nat} (t : TkOk T m) {f : CS → CR} (hf : ∀ S, RS m S (f S).2) (S : CS) : RS m S (cp_ex T f S).2 := by
  unfold cp_ex
  split
  · exact (RS.adv t (q := 20) (by assumption) (by decide)).tr (RS.bd (hf _) fun v S1 _ => (RS.add (by decide)).tr (rs_sl t hf 150 _))
  · exact RS.bd (hf S) fun _ S1 _ => rs_sl t hf 150 S1
theorem rs_expr {T : Tk} {m : Nat} (t : TkOk T m) : ∀ n S, RS m S (cp_expr T n S).2 := by
  intro n
  induction n with
  | zero =>
    intro S
    rw [cp_expr_eq]
    exact rs_ex t (rs_term t (rs_fact t fun S _ => RS.rf)) S
  | succ n ih =>
    intro S
    rw [cp_expr_eq]
    exact rs_ex t (rs_term t (rs_fact t fun S h => (RS.adv t h (by decide)).tr (RS.bd (ih _) fun _ S1 _ => rs_expect t (by decide) S1))) S
theorem rs_brk {T : Tk} {m : Nat} (t : TkOk T m) (n : Nat) (S : CS) (h : kd T S.1 = 13) : RS m S (cp_brk T n S).2 := by
  cases n with
  | zero => exact RS.rf
  | succ n => exact (RS.adv t h (by decide)).tr (RS.bd (rs_expr t n _) fun _ S1 _ => rs_expect t (by decide) S1)
theorem rs_cond {T : Tk} {m : Nat} (t : TkOk T m) (S : CS) : RS m S (cp_cond T S).2 := by
  refine RS.bd (rs_expr t 8 S) fun _ S1 _ => ?_
  split
  · exact RS.rf
  · rename_i x hx
    exact (RS.adv t rfl (cmpop_lt hx).1).tr (RS.bd (rs_expr t 8 _) fun _ S2 _ => (RS.add (cmpop_lt hx).2).tr (RS.add (by decide)))
theorem rs_write {T : Tk} {m : Nat} (t : TkOk T m) (S : CS) : RS m S (cp_write T S).2 :=
  (RS.add (by decide)).tr (RS.bd (rs_expect t (by decide) _) fun _ S1 _ => RS.bd (rs_expr t 8 _) fun _ S2 _ => RS.bd (rs_expect t (by decide) _) fun _ S3 _ => RS.add (by decide))
theorem rs_assign {T : Tk} {m : Nat} (t : TkOk T m) (S : CS) (h : kd T S.1 = 25) : RS m S (cp_assign T S).2 := by
  unfold cp_assign
  split
  · exact RS.rf
  · split
    · exact RS.rf
    · exact (RS.add (S := S) (x := 0) (f := 0) (t := 0) (by decide)).tr ((RS.adv (S := cadd S 0 0 0) t (q := 25) h (by decide)).tr (RS.bd (rs_expect t (by decide) _) fun _ S1 _ => RS.bd (rs_expr t 8 _) fun _ S2 _ => RS.add (by split <;> decide)))
theorem rs_al {T : Tk} {m q : Nat} (t : TkOk T m) : ∀ n r S, RS m S (cp_al T q n r S).2 := by
  intro n
  induction n with
  | zero => intro r S; exact RS.bd (rs_expect t (by decide) _) fun _ S1 _ => RS.rf
  | succ n ih =>
    intro r S
    refine RS.bd (rs_expr t 8 S) fun _ S1 _ => ?_
    split
    · split
      · split
        · exact RS.adr.tr ((RS.adv t (q := 12) (by assumption) (by decide)).tr (ih _ _))
        · exact RS.adr.tr (RS.bd (rs_expect t (by decide) _) fun _ S1 _ => RS.rf)
      · exact RS.rf
    · split
      · exact (RS.adv t (q := 12) (by assumption) (by decide)).tr (ih _ _)
      · exact RS.bd (rs_expect t (by decide) _) fun _ S1 _ => RS.rf
theorem rs_args {T : Tk} {m q : Nat} (t : TkOk T m) (S : CS) : RS m S (cp_args T q S).2 := by
  unfold cp_args
  split
  · exact (RS.adv t (q := 13) (by assumption) (by decide)).tr (rs_al t _ _ _)
  · exact RS.rf
theorem rs_call {T : Tk} {m : Nat} (t : TkOk T m) (S : CS) (h : kd T S.1 = 25) : RS m S (cp_call T S).2 := by
  unfold cp_call
  split
  · exact RS.rf
  · split
    · refine (RS.add (S := S) (x := 0) (f := 0) (t := 0) (by decide)).tr ((RS.adv (S := cadd S 0 0 0) t (q := 25) h (by decide)).tr (RS.bd (rs_args t _) fun v S1 _ => ?_))
      split
      · exact RS.add (by decide)
      · exact RS.rf
    · exact RS.rf
theorem rs_if {T : Tk} {m : Nat} (t : TkOk T m) {s : CS → CR} (hs : ∀ S, RS m S (s S).2) (S : CS) : RS m S (cp_if T s S).2 := by
  refine (RS.add (by decide)).tr (RS.bd (rs_cond t _) fun e S1 _ => RS.bd (rs_expect t (by decide) _) fun _ S2 _ => RS.bd (hs _) fun _ S3 _ => ?_)
  split
  · exact (RS.adv t (q := 6) (by assumption) (by decide)).tr ((RS.add (by decide)).tr (RS.jmp.tr (RS.bd (hs _) fun _ S4 _ => RS.jmp)))
  · exact RS.jmp
theorem rs_while {T : Tk} {m : Nat} (t : TkOk T m) {s : CS → CR} (hs : ∀ S, RS m S (s S).2) (S : CS) : RS m S (cp_while T s S).2 :=
  (RS.add (by decide)).tr (RS.bd (rs_cond t _) fun e S1 _ => RS.bd (rs_expect t (by decide) _) fun _ S2 _ => RS.bd (hs _) fun _ S3 _ => (RS.add (by decide)).tr RS.jmp)
theorem rs_rep {T : Tk} {m q : Nat} (t : TkOk T m) (hq : q < 27) {s : CS → CR} (hs : ∀ S, RS m S (s S).2) : ∀ n S, RS m S (cp_rep T q s n S).2 := by
  intro n
  induction n with
  | zero => intro S; exact RS.rf
  | succ n ih =>
    intro S
    unfold cp_rep
    split
    · exact (RS.adv t (q := q) (by assumption) hq).tr (RS.bd (hs _) fun _ S1 _ => ih S1)
    · exact RS.rf
theorem rs_stmts {T : Tk} {m : Nat} (t : TkOk T m) {s : CS → CR} (hs : ∀ S, RS m S (s S).2) (S : CS) : RS m S (cp_stmts T s S).2 :=
  RS.bd (hs S) fun _ S1 _ => RS.bd (rs_rep t (by decide) hs 150 _) fun _ S2 _ => rs_expect t (by decide) _
theorem rs_st {T : Tk} {m : Nat} (t : TkOk T m) {x2 x4 x7 : CS → CR} (h2 : ∀ S, kd T S.1 = 2 → RS m S (x2 S).2) (h4 : ∀ S, kd T S.1 = 4 → RS m S (x4 S).2) (h7 : ∀ S, kd T S.1 = 7 → RS m S (x7 S).2) (S : CS) : RS m S (cp_st T x2 x4 x7 S).2 := by
  unfold cp_st
  split
  · split
    · exact rs_assign t S (by assumption)
    · exact rs_call t S (by assumption)
  · split
    · exact h2 S (by assumption)
    · split
      · exact h4 S (by assumption)
      · split
        · exact h7 S (by assumption)
        · split
          · exact (RS.adv t (q := 9) (by assumption) (by decide)).tr (rs_write t _)
          · exact RS.rf
theorem rs_stm {T : Tk} {m : Nat} (t : TkOk T m) : ∀ n S, RS m S (cp_stm T n S).2 := by
  intro n
  induction n with
  | zero => intro S; exact rs_st t (fun S _ => RS.rf) (fun S _ => RS.rf) (fun S _ => RS.rf) S
  | succ n ih =>
    intro S
    exact rs_st t (fun S h => (RS.adv t h (by decide)).tr (rs_stmts t ih _)) (fun S h => (RS.adv t h (by decide)).tr (rs_if t ih _)) (fun S h => (RS.adv t h (by decide)).tr (rs_while t ih _)) S
/-- the order of states by which the level stays as it is, where nothing is refused -/
def RL (m : Nat) (A : CS) (B : CR) : Prop := Ok m A → Ok m B.2 ∧ (∀ v, B.1 = .inr v → B.2.2.1.2.2.2.2.2.2.1 = A.2.1.2.2.2.2.2.2.1)
theorem RL.ofS {m : Nat} {A : CS} {B : CR} (h : RS m A B.2) : RL m A B := fun o => ⟨h.1 o, fun _ _ => by rw [h.2]⟩
theorem RL.pre {m : Nat} {A A' : CS} {B : CR} (h : RS m A A') (k : RL m A' B) : RL m A B := fun o => by
  have := k (h.1 o)
  rw [h.2] at this
  exact this
theorem RL.bd {m : Nat} {x : CS → CR} {f : Nat → CS → CR} {S : CS} (h : RL m S (x S)) (k : ∀ v S1, x S = (.inr v, S1) → RL m S1 (f v S1)) : RL m S (bd x f S) := by
  intro o
  have h := h o
  rcases hx : x S with ⟨q | v, S1⟩
  · rw [bd_no hx]; rw [hx] at h; exact h
  · rw [bd_ok hx]
    rw [hx] at h
    have k := k v S1 hx h.1
    exact ⟨k.1, fun w hw => (k.2 w hw).trans (h.2 v rfl)⟩
theorem rl_dec {T : Tk} {m k : Nat} (t : TkOk T m) (hk : k ≤ 2) (S : CS) : RL m S (cp_dec T k S) := by
  unfold cp_dec
  intro o
  have o2 : Ok m (S.1, (nm_declare S.2.1 (T.2.2.1 S.1) k).2, S.2.2) := ⟨o.1, nmOk_declare o.2.1 hk, o.2.2⟩
  split
  · split
    · exact ⟨ok_adv t o2 (q := 25) (by assumption) (by decide), fun _ _ => nm_level_declare⟩
    · exact ⟨o2, fun v h => by cases h⟩
  · exact ⟨o, fun v h => by cases h⟩
theorem rl_rep {T : Tk} {m q : Nat} (t : TkOk T m) (hq : q < 27) {s : CS → CR} (hs : ∀ S, RL m S (s S)) : ∀ n S, RL m S (cp_rep T q s n S) := by
  intro n
  induction n with
  | zero => intro S; exact RL.ofS RS.rf
  | succ n ih =>
    intro S
    unfold cp_rep
    split
    · exact RL.pre (RS.adv t (q := q) (by assumption) hq) (RL.bd (hs _) fun _ S1 _ => ih S1)
    · exact RL.ofS RS.rf
theorem rl_vars {T : Tk} {m : Nat} (t : TkOk T m) (S : CS) : RL m S (cp_vars T S) :=
  RL.bd (rl_dec t (by decide) S) fun _ S1 _ => RL.bd (rl_rep t (by decide) (rl_dec t (by decide)) 150 _) fun _ S2 _ => RL.ofS (rs_expect t (by decide) _)
theorem or_lt8 {x i : Nat} (hx : x < 8) (hi : i < 3) : x ||| 2 ^ i < 8 := by
  refine Nat.or_lt_two_pow (n := 3) hx ?_
  rcases (show i = 0 ∨ i = 1 ∨ i = 2 by omega) with rfl | rfl | rfl <;> decide
theorem cp_dec_C {T : Tk} {k v : Nat} {S S1 : CS} (h : cp_dec T k S = (.inr v, S1)) : S1.2.2 = S.2.2 := by
  unfold cp_dec at h
  split at h
  · split at h
    · cases h; rfl
    · cases h
  · cases h
theorem rl_par {T : Tk} {m q : Nat} (t : TkOk T m) (S : CS) : RL m S (cp_par T q S) := by
  unfold cp_par
  split
  · rename_i h24
    split
    · exact RL.pre (RS.adv t (q := 24) h24 (by decide)) (RL.ofS RS.rf)
    · rename_i h3
      refine RL.pre (RS.adv t (q := 24) h24 (by decide)) (RL.bd (rl_dec t (by decide) _) fun v S1 hx o => ⟨⟨o.1, o.2.1, o.2.2.1, o.2.2.2.1, fun i => ?_, fun i => ?_⟩, fun _ _ => rfl⟩)
      · have hC := cp_dec_C hx
        have := o.2.2.2.2.2 q
        have h9 : S1.2.2.2.2.2.2.1 q ≠ 3 := by rw [hC]; exact h3
        have e : S1.2.2.2.2.2.2.1 q = S.2.2.2.2.2.2.1 q := by rw [hC]; rfl
        show va_up S1.2.2.2.2.2.2.2.1 q _ i < 8
        unfold va_up
        split
        · exact or_lt8 (o.2.2.2.2.1 q) (by omega)
        · exact o.2.2.2.2.1 i
      · have hC := cp_dec_C hx
        have := o.2.2.2.2.2 q
        have h9 : S1.2.2.2.2.2.2.1 q ≠ 3 := by rw [hC]; exact h3
        show va_up S1.2.2.2.2.2.2.1 q _ i ≤ 3
        unfold va_up
        split
        · omega
        · exact o.2.2.2.2.2 i
  · split
    · exact RL.ofS RS.rf
    · rename_i h3
      refine RL.bd (rl_dec t (by decide) _) fun v S1 hx o => ⟨⟨o.1, o.2.1, o.2.2.1, o.2.2.2.1, o.2.2.2.2.1, fun i => ?_⟩, fun _ _ => rfl⟩
      have hC := cp_dec_C hx
      have := o.2.2.2.2.2 q
      have h9 : S1.2.2.2.2.2.2.1 q ≠ 3 := by rw [hC]; exact h3
      show va_up S1.2.2.2.2.2.2.1 q _ i ≤ 3
      unfold va_up
      split
      · omega
      · exact o.2.2.2.2.2 i
theorem rl_pars {T : Tk} {m q : Nat} (t : TkOk T m) (S : CS) : RL m S (cp_pars T q S) :=
  RL.bd (rl_par t S) fun _ S1 _ => RL.bd (rl_rep t (by decide) (rl_par t) 150 _) fun _ S2 _ => RL.ofS (rs_expect t (by decide) _)
theorem rl_pHead {T : Tk} {m q : Nat} (t : TkOk T m) (S : CS) : RL m S (cp_pHead T q S) := by
  unfold cp_pHead
  split
  · exact RL.pre (RS.adv t (q := 13) (by assumption) (by decide)) (RL.bd (rl_pars t _) fun _ S1 _ => RL.ofS (rs_expect t (by decide) _))
  · exact RL.ofS (rs_expect t (by decide) _)
theorem ok_pOpen {m : Nat} {S : CS} (o : Ok m S) : Ok m (cp_pOpen S) := by
  refine ⟨o.1, nmOk_open o.2.1, o.2.2.1, o.2.2.2.1, fun i => ?_, fun i => ?_⟩
  · show va_up S.2.2.2.2.2.2.2.1 _ 0 i < 8
    unfold va_up
    split
    · decide
    · exact o.2.2.2.2.1 i
  · show va_up S.2.2.2.2.2.2.1 _ 0 i ≤ 3
    unfold va_up
    split
    · decide
    · exact o.2.2.2.2.2 i
theorem ok_pEntry {m q e : Nat} {S : CS} (o : Ok m S) : Ok m (cp_pEntry q e S) := ⟨o.1, nmOk_close o.2.1, o.2.2⟩
/-- a block with n more levels below -/
def RB (m n : Nat) (x : CS → CR) : Prop := ∀ S, S.2.1.2.2.2.2.2.2.1 + n = 3 → RL m S (x S)
theorem rl_pc {T : Tk} {m n : Nat} (t : TkOk T m) {b : CS → CR} (hb : RB m n b) (S : CS) (hS : S.2.1.2.2.2.2.2.2.1 + (n + 1) = 3) (h1 : kd T S.1 = 1) : RL m S (cp_pc T b S) := by
  unfold cp_pc
  refine RL.pre (RS.adv t h1 (by decide)) ?_
  intro o
  have hd := rl_dec (k := 2) t (by decide) (adv S) o
  rcases hx : cp_dec T 2 (adv S) with ⟨q | v, S1⟩
  · rw [bd_no hx]; rw [hx] at hd; exact hd
  · rw [bd_ok hx]
    rw [hx] at hd
    obtain ⟨o1, l1⟩ := hd
    have l1 : S1.2.1.2.2.2.2.2.2.1 = S.2.1.2.2.2.2.2.2.1 := l1 v rfl
    have o2 := ok_pOpen o1
    have l2 : (cp_pOpen S1).2.1.2.2.2.2.2.2.1 = S.2.1.2.2.2.2.2.2.1 + 1 := (nm_level_open (by omega)).trans (by rw [l1])
    have hp := rl_pHead (q := S1.2.1.2.2.2.2.2.2.2.2 - 1) t (cp_pOpen S1) o2
    rcases hx2 : cp_pHead T (S1.2.1.2.2.2.2.2.2.2.2 - 1) (cp_pOpen S1) with ⟨q2 | v2, S2⟩
    · rw [bd_no hx2]; rw [hx2] at hp; exact ⟨hp.1, fun w hw => by cases hw⟩
    · rw [bd_ok hx2]
      rw [hx2] at hp
      obtain ⟨o3, l3⟩ := hp
      have l3 : S2.2.1.2.2.2.2.2.2.1 = S.2.1.2.2.2.2.2.2.1 + 1 := (l3 v2 rfl).trans l2
      have hbb := hb S2 (by omega) o3
      rcases hx3 : b S2 with ⟨q3 | e, S3⟩
      · rw [bd_no hx3]; rw [hx3] at hbb; exact ⟨hbb.1, fun w hw => by cases hw⟩
      · rw [bd_ok hx3]
        rw [hx3] at hbb
        obtain ⟨o4, l4⟩ := hbb
        have l4 : S3.2.1.2.2.2.2.2.2.1 = S.2.1.2.2.2.2.2.2.1 + 1 := (l4 e rfl).trans l3
        have r5 := rs_expect (q := 11) t (by decide) (cp_pEntry (S1.2.1.2.2.2.2.2.2.2.2 - 1) e S3)
        refine ⟨r5.1 (ok_pEntry o4), fun w _ => ?_⟩
        rw [r5.2]
        show S3.2.1.2.2.2.2.2.2.1 - 1 = S.2.1.2.2.2.2.2.2.1
        omega
theorem rl_ps {T : Tk} {m n : Nat} {x : CS → CR} (hx : ∀ S, S.2.1.2.2.2.2.2.2.1 + n = 3 → kd T S.1 = 1 → RL m S (x S)) : ∀ k, RB m n (cp_ps T x k) := by
  intro k
  induction k with
  | zero => intro S _; exact RL.ofS RS.rf
  | succ k ih =>
    intro S hS
    unfold cp_ps
    split
    · intro o
      refine RL.bd (hx S hS (by assumption)) (fun v S1 h1 => ?_) o
      have hq := (hx S hS (by assumption) o).2 v (by rw [h1])
      rw [h1] at hq
      exact ih S1 (by rw [show S1.2.1.2.2.2.2.2.2.1 = S.2.1.2.2.2.2.2.2.1 from hq]; exact hS)
    · exact RL.ofS RS.rf
theorem rs_body {T : Tk} {m : Nat} (t : TkOk T m) (S : CS) : RS m S (cp_body T S).2 :=
  RS.bd (rs_expect t (by decide) S) fun _ S1 _ => RS.bd (rs_stmts t (rs_stm t 8) _) fun _ S2 _ => RS.add (by decide)
theorem rl_bk {T : Tk} {m n : Nat} (t : TkOk T m) {x : CS → CR} (hx : ∀ S, S.2.1.2.2.2.2.2.2.1 + n = 3 → kd T S.1 = 1 → RL m S (x S)) : RB m n (cp_bk T x) := by
  intro S hS
  unfold cp_bk
  split
  · refine RL.pre (RS.adv t (q := 0) (by assumption) (by decide)) fun o => RL.bd (rl_vars t _) (fun v S1 h1 => ?_) o
    have hq := (rl_vars t (adv S) o).2 v (by rw [h1])
    rw [h1] at hq
    exact RL.bd (rl_ps hx 150 S1 (by rw [show S1.2.1.2.2.2.2.2.2.1 = S.2.1.2.2.2.2.2.2.1 from hq]; exact hS)) fun _ S2 _ => RL.ofS (rs_body t _)
  · exact RL.bd (rl_ps hx 150 S hS) fun _ S2 _ => RL.ofS (rs_body t _)
theorem rl_block {T : Tk} {m : Nat} (t : TkOk T m) : ∀ n, RB m n (cp_block T n) := by
  intro n
  induction n with
  | zero => exact rl_bk t fun S _ _ => RL.ofS RS.rf
  | succ n ih => exact rl_bk t fun S h1 h2 => rl_pc t ih S h1 h2
theorem rl_proc {T : Tk} {m : Nat} (t : TkOk T m) (n : Nat) (S : CS) (hS : S.2.1.2.2.2.2.2.2.1 + n = 3) (h1 : kd T S.1 = 1) : RL m S (cp_proc T n S) := by
  cases n with
  | zero => exact RL.ofS RS.rf
  | succ n => exact rl_pc t (rl_block t n) S hS h1
