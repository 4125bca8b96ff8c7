/-! ===== the code's operands are small: statements ===== -/
section KP2
variable {T : Tk} {m : Nat}
theorem rq_call (t : TkOk T m) (no : NO T m) (S : CS) (h : kd T S.1 = 25) : RQ m S (cp_call T S).2 := by
  unfold cp_call
  split
  · exact RQ.rf
  · rename_i i hi
    split
    · rename_i hk2
      intro o
      have n6 := o.2.1.2.2.2.2.2.2.1 i hk2
      refine RQ.tr (RQ.add0 (S := S) (x := 0) (by decide) (by decide)) (RQ.tr (RQ.adv (S := cadd S 0 0 0) t (q := 25) h (by decide)) (RQ.bd (rq_args t no _) fun v S1 _ => ?_)) o
      split
      · exact RQ.add (by decide) (fun o => hops_lt o.2.1) (fun _ _ => n6)
      · exact RQ.rf
    · exact RQ.rf
theorem rq_if (t : TkOk T m) (no : NO T m) {s : CS → CR} (hs : ∀ S, RQ m S (s S).2) (S : CS) : RQ m S (cp_if T s S).2 := by
  refine (RQ.add0 (by decide) (by decide)).tr (RQ.bd (rq_cond t no _) fun e S1 _ => RQ.bd (rq_expect t (by decide) _) fun _ S2 _ => RQ.bd (hs _) fun _ S3 _ => ?_)
  split
  · exact (RQ.adv t (q := 6) (by assumption) (by decide)).tr ((RQ.add0 (by decide) (by decide)).tr (RQ.jmp.tr (RQ.bd (hs _) fun _ S4 _ => RQ.jmp)))
  · exact RQ.jmp
theorem rq_while (t : TkOk T m) (no : NO T m) {s : CS → CR} (hs : ∀ S, RQ m S (s S).2) (S : CS) : RQ m S (cp_while T s S).2 := by
  intro o
  have sz : S.2.2.2.2.2.2.2.2.1 < 2 ^ 31 := by have := o.2.2.1; omega
  exact ((RQ.add0 (by decide) (by decide)).tr (RQ.bd (rq_cond t no _) fun e S1 _ => RQ.bd (rq_expect t (by decide) _) fun _ S2 _ => RQ.bd (hs _) fun _ S3 _ => (RQ.add (by decide) (fun _ => sz) (fun _ h => by cases h)).tr RQ.jmp)) o
theorem rq_rep {q : Nat} (t : TkOk T m) (hq : q < 27) {s : CS → CR} (hs : ∀ S, RQ m S (s S).2) : ∀ n S, RQ m S (cp_rep T q s n S).2 := by
  intro n
  induction n with
  | zero => intro S; exact RQ.rf
  | succ n ih =>
    intro S
    unfold cp_rep
    split
    · exact (RQ.adv t (q := q) (by assumption) hq).tr (RQ.bd (hs _) fun _ S1 _ => ih S1)
    · exact RQ.rf
theorem rq_stmts (t : TkOk T m) {s : CS → CR} (hs : ∀ S, RQ m S (s S).2) (S : CS) : RQ m S (cp_stmts T s S).2 :=
  RQ.bd (hs S) fun _ S1 _ => RQ.bd (rq_rep t (by decide) hs 150 _) fun _ S2 _ => rq_expect t (by decide) _
theorem rq_st (t : TkOk T m) (no : NO T m) {x2 x4 x7 : CS → CR} (h2 : ∀ S, kd T S.1 = 2 → RQ m S (x2 S).2) (h4 : ∀ S, kd T S.1 = 4 → RQ m S (x4 S).2) (h7 : ∀ S, kd T S.1 = 7 → RQ m S (x7 S).2) (S : CS) : RQ m S (cp_st T x2 x4 x7 S).2 := by
  unfold cp_st
  split
  · split
    · exact rq_assign t no S (by assumption)
    · exact rq_call t no S (by assumption)
  · split
    · exact h2 S (by assumption)
    · split
      · exact h4 S (by assumption)
      · split
        · exact h7 S (by assumption)
        · split
          · exact (RQ.adv t (q := 9) (by assumption) (by decide)).tr (rq_write t no _)
          · exact RQ.rf
theorem rq_stm (t : TkOk T m) (no : NO T m) : ∀ n S, RQ m S (cp_stm T n S).2 := by
  intro n
  induction n with
  | zero => intro S; exact rq_st t no (fun S _ => RQ.rf) (fun S _ => RQ.rf) (fun S _ => RQ.rf) S
  | succ n ih =>
    intro S
    exact rq_st t no (fun S h => (RQ.adv t h (by decide)).tr (rq_stmts t ih _)) (fun S h => (RQ.adv t h (by decide)).tr (rq_if t no ih _)) (fun S h => (RQ.adv t h (by decide)).tr (rq_while t no ih _)) S
end KP2
