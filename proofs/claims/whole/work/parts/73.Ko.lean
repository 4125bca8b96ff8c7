/-! ===== the code's operands are small ===== -/
def KO (C : Co) : Prop := (∀ i, C.2.1 i < 2 ^ 31 ∧ (C.1 i = 18 → C.2.2.1 i < 6)) ∧ (∀ q, C.2.2.2.1 q < 2 ^ 31)
/-- from A to B the operands stay small -/
def RQ (m : Nat) (A B : CS) : Prop := Ok m A → Ok m B ∧ (KO A.2.2 → KO B.2.2)
theorem RQ.rf {m : Nat} {A : CS} : RQ m A A := fun o => ⟨o, id⟩
theorem RQ.tr {m : Nat} {A B C : CS} (h : RQ m A B) (k : RQ m B C) : RQ m A C := fun o => ⟨(k (h o).1).1, fun q => (k (h o).1).2 ((h o).2 q)⟩
theorem RQ.bd {m : Nat} {x : CS → CR} {f : Nat → CS → CR} {S : CS} (h : RQ m S (x S).2) (k : ∀ v S1, x S = (.inr v, S1) → RQ m S1 (f v S1).2) : RQ m S (bd x f S).2 := by
  rcases hx : x S with ⟨q | v, S1⟩
  · rw [bd_no hx]; rw [hx] at h; exact h
  · rw [bd_ok hx]; rw [hx] at h; exact h.tr (k v S1 hx)
theorem RQ.adv {T : Tk} {m q : Nat} {S : CS} (t : TkOk T m) (hk : kd T S.1 = q) (hq : q < 27) : RQ m S (adv S) := fun o => ⟨ok_adv t o hk hq, id⟩
theorem RQ.add {m : Nat} {S : CS} {x f t : Nat} (hx : x ≤ 20) (hf : Ok m S → f < 2 ^ 31) (ht : Ok m S → x = 18 → t < 6) : RQ m S (cadd S x f t) := by
  intro o
  refine ⟨ok_add o hx, fun k => ?_⟩
  show KO (co_add S.2.2 x f t)
  unfold co_add
  split
  · exact k
  · refine ⟨fun i => ?_, k.2⟩
    dsimp only [va_up]
    by_cases h : i = S.2.2.2.2.2.2.2.2.1
    · rw [if_pos h, if_pos h, if_pos h]; exact ⟨hf o, ht o⟩
    · rw [if_neg h, if_neg h, if_neg h]; exact k.1 i
theorem RQ.add0 {m : Nat} {S : CS} {x : Nat} (hx : x ≤ 20) (h18 : x ≠ 18) : RQ m S (cadd S x 0 0) := RQ.add hx (fun _ => by decide) (fun _ h => absurd h h18)
theorem RQ.jmp {m : Nat} {S : CS} {k : Nat} : RQ m S (cjmp S k) := by
  intro o
  refine ⟨ok_jmp o, fun q => ?_⟩
  show KO (co_jump S.2.2 k)
  unfold co_jump
  split
  · exact q
  · refine ⟨fun i => ?_, q.2⟩
    dsimp only [va_up]
    refine ⟨?_, (q.1 i).2⟩
    split
    · have := o.2.2.1; omega
    · exact (q.1 i).1
theorem RQ.adr {m : Nat} {S : CS} {k : Nat} : RQ m S (cadr S k) := by
  intro o
  refine ⟨ok_adr o, fun q => ?_⟩
  show KO (co_addr S.2.2 k)
  unfold co_addr
  split
  · exact q
  · refine ⟨fun i => ⟨(q.1 i).1, ?_⟩, q.2⟩
    dsimp only [va_up]
    split
    · intro h; split at h <;> omega
    · exact (q.1 i).2
/-- the numbers of the text are small -/
def NO (T : Tk) (m : Nat) : Prop := ∀ i, i ≤ m → kd T i = 26 → i32n (T.2.2.1 i).toInt32 < 2 ^ 31
section KOs
variable {T : Tk} {m : Nat}
theorem mulop_18 {k x : Nat} (h : mulop k = some x) : x ≠ 18 := by rcases mulop_k h with q | q | q <;> omega
theorem cmpop_18 {k x : Nat} (h : cmpop k = some x) : x ≠ 18 := by have := cmpop_k h; omega
theorem hops_lt {N : Nm} (o : NmOk N) {i : Nat} : N.2.2.2.2.2.2.1 - N.2.2.1 i < 2 ^ 31 := by
  have := o.2.2.2.1
  omega
theorem rq_expect {q : Nat} (t : TkOk T m) (hq : q < 27) (S : CS) : RQ m S (cp_expect T q S).2 := by
  unfold cp_expect
  split
  · exact RQ.adv t (by assumption) hq
  · exact RQ.rf
theorem rq_fact (t : TkOk T m) (n : NO T m) {x : CS → CR} (hx : ∀ S, kd T S.1 = 13 → RQ m S (x S).2) (S : CS) : RQ m S (cp_fact T x S).2 := by
  unfold cp_fact
  split
  · exact RQ.tr (RQ.add (by decide) (fun o => n S.1 o.1 (by assumption)) (fun _ h => by cases h)) (RQ.adv t (q := 26) (by assumption) (by decide))
  · split
    · unfold cp_var
      split
      · exact RQ.rf
      · split
        · exact RQ.rf
        · exact RQ.tr (RQ.add (by split <;> decide) (fun o => hops_lt o.2.1) (fun _ h => by split at h <;> cases h)) (RQ.adv t (q := 25) (by assumption) (by decide))
    · split
      · exact hx S (by assumption)
      · exact RQ.rf
theorem rq_tl (t : TkOk T m) {f : CS → CR} (hf : ∀ S, RQ m S (f S).2) : ∀ n S, RQ m S (cp_tl T f n S).2 := by
  intro n
  induction n with
  | zero => intro S; exact RQ.rf
  | succ n ih =>
    intro S
    unfold cp_tl
    split
    · exact RQ.rf
    · rename_i x hx
      exact (RQ.adv t rfl (mulop_lt hx).1).tr (RQ.bd (hf _) fun v S1 _ => (RQ.add0 (mulop_lt hx).2 (mulop_18 hx)).tr (ih _))
theorem rq_term (t : TkOk T m) {f : CS → CR} (hf : ∀ S, RQ m S (f S).2) (S : CS) : RQ m S (cp_term T f S).2 := RQ.bd (hf S) fun _ S1 _ => rq_tl t hf 150 S1
theorem rq_sl (t : TkOk T m) {f : CS → CR} (hf : ∀ S, RQ m S (f S).2) : ∀ n S, RQ m S (cp_sl T f n S).2 := by
  intro n
  induction n with
  | zero => intro S; exact RQ.rf
  | succ n ih =>
    intro S
    unfold cp_sl
    split
    · exact (RQ.adv t (q := 19) (by assumption) (by decide)).tr (RQ.bd (hf _) fun v S1 _ => (RQ.add0 (by decide) (by decide)).tr (ih _))
    · split
      · exact (RQ.adv t (q := 20) (by assumption) (by decide)).tr (RQ.bd (hf _) fun v S1 _ => (RQ.add0 (by decide) (by decide)).tr (ih _))
      · exact RQ.rf
theorem rq_ex (t : TkOk T m) {f : CS → CR} (hf : ∀ S, RQ m S (f S).2) (S : CS) : RQ m S (cp_ex T f S).2 := by
  unfold cp_ex
  split
  · exact (RQ.adv t (q := 20) (by assumption) (by decide)).tr (RQ.bd (hf _) fun v S1 _ => (RQ.add0 (by decide) (by decide)).tr (rq_sl t hf 150 _))
  · exact RQ.bd (hf S) fun _ S1 _ => rq_sl t hf 150 S1
theorem rq_expr (t : TkOk T m) (no : NO T m) : ∀ n S, RQ m S (cp_expr T n S).2 := by
  intro n
  induction n with
  | zero =>
    intro S
    rw [cp_expr_eq]
    exact rq_ex t (rq_term t (rq_fact t no fun S _ => RQ.rf)) S
  | succ n ih =>
    intro S
    rw [cp_expr_eq]
    exact rq_ex t (rq_term t (rq_fact t no fun S h => (RQ.adv t h (by decide)).tr (RQ.bd (ih _) fun _ S1 _ => rq_expect t (by decide) S1))) S
theorem rq_cond (t : TkOk T m) (no : NO T m) (S : CS) : RQ m S (cp_cond T S).2 := by
  refine RQ.bd (rq_expr t no 8 S) fun _ S1 _ => ?_
  split
  · exact RQ.rf
  · rename_i x hx
    exact (RQ.adv t rfl (cmpop_lt hx).1).tr (RQ.bd (rq_expr t no 8 _) fun _ S2 _ => (RQ.add0 (cmpop_lt hx).2 (cmpop_18 hx)).tr (RQ.add0 (by decide) (by decide)))
theorem rq_write (t : TkOk T m) (no : NO T m) (S : CS) : RQ m S (cp_write T S).2 :=
  (RQ.add0 (by decide) (by decide)).tr (RQ.bd (rq_expect t (by decide) _) fun _ S1 _ => RQ.bd (rq_expr t no 8 _) fun _ S2 _ => RQ.bd (rq_expect t (by decide) _) fun _ S3 _ => RQ.add0 (by decide) (by decide))
theorem rq_assign (t : TkOk T m) (no : NO T m) (S : CS) (h : kd T S.1 = 25) : RQ m S (cp_assign T S).2 := by
  unfold cp_assign
  split
  · exact RQ.rf
  · split
    · exact RQ.rf
    · exact (RQ.add0 (S := S) (x := 0) (by decide) (by decide)).tr ((RQ.adv (S := cadd S 0 0 0) t (q := 25) h (by decide)).tr (RQ.bd (rq_expect t (by decide) _) fun _ S1 _ => RQ.bd (rq_expr t no 8 _) fun _ S2 _ => RQ.add (by split <;> decide) (fun o => hops_lt o.2.1) (fun _ h => by split at h <;> cases h)))
theorem rq_al {q : Nat} (t : TkOk T m) (no : NO T m) : ∀ n r S, RQ m S (cp_al T q n r S).2 := by
  intro n
  induction n with
  | zero => intro r S; exact RQ.bd (rq_expect t (by decide) _) fun _ S1 _ => RQ.rf
  | succ n ih =>
    intro r S
    refine RQ.bd (rq_expr t no 8 S) fun _ S1 _ => ?_
    split
    · split
      · split
        · exact RQ.adr.tr ((RQ.adv t (q := 12) (by assumption) (by decide)).tr (ih _ _))
        · exact RQ.adr.tr (RQ.bd (rq_expect t (by decide) _) fun _ S1 _ => RQ.rf)
      · exact RQ.rf
    · split
      · exact (RQ.adv t (q := 12) (by assumption) (by decide)).tr (ih _ _)
      · exact RQ.bd (rq_expect t (by decide) _) fun _ S1 _ => RQ.rf
theorem rq_args {q : Nat} (t : TkOk T m) (no : NO T m) (S : CS) : RQ m S (cp_args T q S).2 := by
  unfold cp_args
  split
  · exact (RQ.adv t (q := 13) (by assumption) (by decide)).tr (rq_al t no _ _ _)
  · exact RQ.rf
end KOs
