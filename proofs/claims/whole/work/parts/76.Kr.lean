/-! ===== the code's operands are small: blocks ===== -/
section KR
variable {T : Tk} {m : Nat}
/-- a block keeps the operands small, and says where its body begins -/
def KB (m n : Nat) (x : CS → CR) : Prop := ∀ S, S.2.1.2.2.2.2.2.2.1 + n = 3 → Ok m S → KO S.2.2 → KO (x S).2.2.2 ∧ ∀ v S1, x S = (.inr v, S1) → v ≤ 300
theorem kb_body {n : Nat} (t : TkOk T m) (no : NO T m) : KB m n (cp_body T) := by
  intro S _ o q
  refine ⟨?_, fun v S1 h => ?_⟩
  · exact ((RQ.bd (rq_expect t (by decide) S) fun _ S1 _ => RQ.bd (rq_stmts t (rq_stm t no 8) _) fun _ S2 _ => RQ.add0 (by decide) (by decide)) o).2 q
  · obtain ⟨w, S2, h1, h2⟩ := bd_inv h
    obtain ⟨w3, S3, h3, h4⟩ := bd_inv h2
    cases h4
    exact o.2.2.1
theorem kb_ps {n : Nat} (t : TkOk T m) (no : NO T m) {x : CS → CR} (hr : ∀ S, S.2.1.2.2.2.2.2.2.1 + n = 3 → kd T S.1 = 1 → RL m S (x S)) (hx : ∀ S, S.2.1.2.2.2.2.2.2.1 + n = 3 → kd T S.1 = 1 → Ok m S → KO S.2.2 → KO (x S).2.2.2) : ∀ k, KB m n (fun S => bd (cp_ps T x k) (fun _ => cp_body T) S) := by
  intro k
  induction k with
  | zero => intro S hS o q; exact kb_body t no S hS o q
  | succ k ih =>
    intro S hS o q
    by_cases h1 : kd T S.1 = 1
    · have e : bd (cp_ps T x (k + 1)) (fun _ => cp_body T) S = bd x (fun _ => bd (cp_ps T x k) (fun _ => cp_body T)) S := bd_ps_t h1
      show KO (bd (cp_ps T x (k + 1)) (fun _ => cp_body T) S).2.2.2 ∧ ∀ v S1, bd (cp_ps T x (k + 1)) (fun _ => cp_body T) S = (.inr v, S1) → v ≤ 300
      rw [e]
      have a := hx S hS h1 o q
      have r := hr S hS h1 o
      rcases hR : x S with ⟨p | v, S1⟩
      · rw [bd_no hR]
        rw [hR] at a
        exact ⟨a, fun v S1 h => by cases h⟩
      · rw [bd_ok hR]
        rw [hR] at a r
        exact ih S1 (by have := r.2 v rfl; have : S1.2.1.2.2.2.2.2.2.1 = S.2.1.2.2.2.2.2.2.1 := this; omega) r.1 a
    · have e : bd (cp_ps T x (k + 1)) (fun _ => cp_body T) S = cp_body T S := bd_ps_f h1
      show KO (bd (cp_ps T x (k + 1)) (fun _ => cp_body T) S).2.2.2 ∧ ∀ v S1, bd (cp_ps T x (k + 1)) (fun _ => cp_body T) S = (.inr v, S1) → v ≤ 300
      rw [e]
      exact kb_body t no S hS o q
end KR
