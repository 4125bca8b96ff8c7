/-! ===== the code's operands are small: declarations ===== -/
section KQ
variable {T : Tk} {m : Nat}
theorem ko_bd {x : CS → CR} {f : Nat → CS → CR} {S : CS} (h : KO S.2.2 → KO (x S).2.2.2) (k : ∀ v S1, x S = (.inr v, S1) → KO S1.2.2 → KO (f v S1).2.2.2) : KO S.2.2 → KO (bd x f S).2.2.2 := by
  intro q
  have h := h q
  rcases hx : x S with ⟨p | v, S1⟩
  · rw [bd_no hx]; rw [hx] at h; exact h
  · rw [bd_ok hx]; rw [hx] at h; exact k v S1 hx h
theorem dec_C {k : Nat} {S : CS} : (cp_dec T k S).2.2.2 = S.2.2 := by
  unfold cp_dec
  split
  · split <;> rfl
  · rfl
theorem ko_dec {k : Nat} (S : CS) : KO S.2.2 → KO (cp_dec T k S).2.2.2 := fun q => by rw [dec_C]; exact q
theorem ko_expect {q : Nat} (S : CS) : KO S.2.2 → KO (cp_expect T q S).2.2.2 := by
  unfold cp_expect
  split <;> exact id
theorem ko_rep {q : Nat} {s : CS → CR} (hs : ∀ S, KO S.2.2 → KO (s S).2.2.2) : ∀ n S, KO S.2.2 → KO (cp_rep T q s n S).2.2.2 := by
  intro n
  induction n with
  | zero => intro S; exact id
  | succ n ih =>
    intro S
    unfold cp_rep
    split
    · exact ko_bd (S := adv S) (hs _) fun _ S1 _ => ih S1
    · exact id
theorem ko_vars (S : CS) : KO S.2.2 → KO (cp_vars T S).2.2.2 := ko_bd (ko_dec S) fun _ S1 _ => ko_bd (ko_rep ko_dec 150 S1) fun _ S2 _ => ko_expect S2
theorem ko_par {q : Nat} (S : CS) : KO S.2.2 → KO (cp_par T q S).2.2.2 := by
  unfold cp_par
  split
  · split
    · exact id
    · exact ko_bd (S := adv S) (ko_dec (adv S)) fun _ S1 _ => id
  · split
    · exact id
    · exact ko_bd (ko_dec S) fun _ S1 _ => id
theorem ko_pHead {q : Nat} (S : CS) : KO S.2.2 → KO (cp_pHead T q S).2.2.2 := by
  unfold cp_pHead
  split
  · exact ko_bd (S := adv S) (x := cp_pars T q) (ko_bd (ko_par (adv S)) fun _ S1 _ => ko_bd (ko_rep ko_par 150 S1) fun _ S2 _ => ko_expect S2) fun _ S1 _ => ko_expect S1
  · exact ko_expect S
end KQ
