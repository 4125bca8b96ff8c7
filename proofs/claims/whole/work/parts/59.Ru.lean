/-! ===== the model's run, step by step ===== -/
def rN (X : MS) (v : Nat) (Z' : MS) : Prop := ∃ n, mo_run_go n 1 0 X v Z'
def oV (X : MS) (v : Nat) (Z' : MS) : Prop := ∃ n X1, mo_over_go n 0 X X1 ∧ rN X1 v Z'
section RN
variable {X X1 X2 Z' : MS} {f v : Nat}
theorem rN_step (hf : r_frame X = some f) (hl : f < 2147483648) (h0 : r_failure X = 0) (hs : mo_statement X X1) (h : rN X1 v Z') : rN X v Z' := by
  obtain ⟨n, h⟩ := h
  refine ⟨n + 1, ?_⟩
  rw [mo_run_go]
  exact Or.inr ⟨f, hf, hl, by omega, Or.inl ⟨h0, X1, hs, h⟩⟩
theorem rN_fail (hf : r_frame X = some f) (hl : f < 2147483648) (h0 : ¬ r_failure X = 0) (hb : r_failure X < 2147483648) : rN X 0 (w_thrown X (r_failure X)) := by
  refine ⟨1, ?_⟩
  rw [mo_run_go]
  exact Or.inr ⟨f, hf, hl, hb, Or.inr ⟨h0, 0, _, ⟨rfl, rfl⟩, rfl, rfl⟩⟩
theorem rN_end (hf : r_frame X = none) (h0 : r_failure X = 0) : rN X (r_written X) X := by
  refine ⟨1, ?_⟩
  rw [mo_run_go]
  exact Or.inl ⟨hf, by omega, Or.inl ⟨h0, rfl, rfl⟩⟩
/-! behind a statement -/
theorem ov_none (hf : r_frame X = none) (h : rN X v Z') : oV X v Z' := by
  refine ⟨1, X, ?_, h⟩
  rw [mo_over_go]
  exact Or.inl ⟨hf, rfl⟩
theorem ov_ret (hf : r_frame X = some f) (hl : f < 11) (h0 : r_level X f = 0) (hp : r_pc X < 155) (hk : ¬ r_pKind X (r_pc X) = 59) (hb : r_pKind X (r_pc X) < 2147483648) (h : oV (w_frame (w_pc X (r_back X f)) (predO f)) v Z') : oV X v Z' := by
  obtain ⟨n, X1, h1, h2⟩ := h
  refine ⟨n + 1, X1, ?_, h2⟩
  rw [mo_over_go]
  exact Or.inr ⟨f, hf, by omega, hl, by omega, Or.inl ⟨h0, hp, hb, Or.inr ⟨hk, hl, h1⟩⟩⟩
theorem ov_semi0 (hf : r_frame X = some f) (hl : f < 11) (h0 : r_level X f = 0) (hp : r_pc X < 155) (hk : r_pKind X (r_pc X) = 59) (h : rN (w_pc X (r_pc X + 1)) v Z') : oV X v Z' := by
  refine ⟨1, _, ?_, h⟩
  rw [mo_over_go]
  exact Or.inr ⟨f, hf, by omega, hl, by omega, Or.inl ⟨h0, hp, by omega, Or.inl ⟨hk, rfl⟩⟩⟩
theorem ov_semi5 (hf : r_frame X = some f) (hl : f < 11) (h0 : ¬ r_level X f = 0) (h9 : r_level X f < 10) (h5 : r_doing X (10 * f + r_level X f - 1) = 5) (hp : r_pc X < 155) (hk : r_pKind X (r_pc X) = 59) (h : rN (w_pc X (r_pc X + 1)) v Z') : oV X v Z' := by
  refine ⟨1, _, ?_, h⟩
  rw [mo_over_go]
  exact Or.inr ⟨f, hf, by omega, hl, by omega, Or.inr ⟨h0, hl, by omega, by omega, hl, by omega, by omega, by omega, Or.inl ⟨h5, hp, by omega, Or.inl ⟨hk, rfl⟩⟩⟩⟩
theorem ov_end5 (hf : r_frame X = some f) (hl : f < 11) (h0 : ¬ r_level X f = 0) (h9 : r_level X f < 10) (h5 : r_doing X (10 * f + r_level X f - 1) = 5) (hp : r_pc X < 155) (hk : ¬ r_pKind X (r_pc X) = 59) (hb : r_pKind X (r_pc X) < 2147483648) (h : oV (w_pc (w_level X (va_up (r_level X) f (r_level X f - 1))) (r_pc X + 1)) v Z') : oV X v Z' := by
  obtain ⟨n, X1, h1, h2⟩ := h
  refine ⟨n + 1, X1, ?_, h2⟩
  rw [mo_over_go]
  exact Or.inr ⟨f, hf, by omega, hl, by omega, Or.inr ⟨h0, hl, by omega, by omega, hl, by omega, by omega, by omega, Or.inl ⟨h5, hp, hb, Or.inr ⟨hk, hl, by omega, hl, h1⟩⟩⟩⟩
theorem ov_10 (hf : r_frame X = some f) (hl : f < 11) (h0 : ¬ r_level X f = 0) (h9 : r_level X f < 10) (h10 : r_doing X (10 * f + r_level X f - 1) = 10) (h : rN (w_pc (w_level X (va_up (r_level X) f (r_level X f - 1))) (r_doneAt X (10 * f + r_level X f - 1))) v Z') : oV X v Z' := by
  refine ⟨1, _, ?_, h⟩
  rw [mo_over_go]
  exact Or.inr ⟨f, hf, by omega, hl, by omega, Or.inr ⟨h0, hl, by omega, by omega, hl, by omega, by omega, by omega, Or.inr ⟨by omega, hl, by omega, hl, Or.inl ⟨h10, rfl⟩⟩⟩⟩
theorem ov_7e (hf : r_frame X = some f) (hl : f < 11) (h0 : ¬ r_level X f = 0) (h9 : r_level X f < 10) (h7 : r_doing X (10 * f + r_level X f - 1) = 7) (hp : r_pc X < 155) (hk : r_pKind X (r_pc X) = 9) (hd : r_doneAt X (10 * f + r_level X f - 1) < 155) (hn : r_pNext X (r_doneAt X (10 * f + r_level X f - 1)) = r_pc X) (h : oV (w_pc (w_level X (va_up (r_level X) f (r_level X f - 1))) (r_pNext X (r_pc X))) v Z') : oV X v Z' := by
  obtain ⟨n, X1, h1, h2⟩ := h
  refine ⟨n + 1, X1, ?_, h2⟩
  rw [mo_over_go]
  exact Or.inr ⟨f, hf, by omega, hl, by omega, Or.inr ⟨h0, hl, by omega, by omega, hl, by omega, by omega, by omega, Or.inr ⟨by omega, hl, by omega, hl, Or.inr ⟨by omega, Or.inl ⟨h7, hp, by omega, Or.inl ⟨hk, hd, by omega, Or.inl ⟨hn, hp, h1⟩⟩⟩⟩⟩⟩⟩
theorem ov_7n (hf : r_frame X = some f) (hl : f < 11) (h0 : ¬ r_level X f = 0) (h9 : r_level X f < 10) (h7 : r_doing X (10 * f + r_level X f - 1) = 7) (hp : r_pc X < 155) (hk : ¬ r_pKind X (r_pc X) = 9) (hb : r_pKind X (r_pc X) < 2147483648) (h : oV (w_level X (va_up (r_level X) f (r_level X f - 1))) v Z') : oV X v Z' := by
  obtain ⟨n, X1, h1, h2⟩ := h
  refine ⟨n + 1, X1, ?_, h2⟩
  rw [mo_over_go]
  exact Or.inr ⟨f, hf, by omega, hl, by omega, Or.inr ⟨h0, hl, by omega, by omega, hl, by omega, by omega, by omega, Or.inr ⟨by omega, hl, by omega, hl, Or.inr ⟨by omega, Or.inl ⟨h7, hp, hb, Or.inr ⟨hk, h1⟩⟩⟩⟩⟩⟩
theorem ov_9 (hf : r_frame X = some f) (hl : f < 11) (h0 : ¬ r_level X f = 0) (h9 : r_level X f < 10) (hw : r_doing X (10 * f + r_level X f - 1) = 9) (h : oV (w_level X (va_up (r_level X) f (r_level X f - 1))) v Z') : oV X v Z' := by
  obtain ⟨n, X1, h1, h2⟩ := h
  refine ⟨n + 1, X1, ?_, h2⟩
  rw [mo_over_go]
  exact Or.inr ⟨f, hf, by omega, hl, by omega, Or.inr ⟨h0, hl, by omega, by omega, hl, by omega, by omega, by omega, Or.inr ⟨by omega, hl, by omega, hl, Or.inr ⟨by omega, Or.inr ⟨by omega, h1⟩⟩⟩⟩⟩
/-! a statement -/
theorem wpc_vx (p : Nat) (h : r_failure X = 0) : w_pc X p = VX X p 0 (r_sum X) (r_term X) (r_sumSign X) (r_termSign X) := by
  rw [← h]; rfl
theorem step_y (h : r_steps X < 400) : mo_step X (w_steps X (r_steps X + 1)) := ⟨by omega, Or.inr ⟨by omega, rfl⟩⟩
theorem step_n (h : r_steps X = 400) : mo_step X (w_failure X 3) := ⟨by omega, Or.inl ⟨h, rfl⟩⟩
theorem st_step3 (hp : r_pc X < 155) (hk : r_pKind X (r_pc X) = 1 ∨ r_pKind X (r_pc X) = 12 ∨ r_pKind X (r_pc X) = 7 ∨ r_pKind X (r_pc X) = 10) (h : r_steps X = 400) : mo_statement X (w_failure X 3) := by
  have h3 : ¬ r_failure (w_failure X 3) = 0 := by show ¬ 3 = 0; decide
  have hb : r_failure (w_failure X 3) < 2147483648 := by show 3 < 2147483648; decide
  refine ⟨hp, by omega, ?_⟩
  by_cases h1 : r_pKind X (r_pc X) = 1
  · exact Or.inl ⟨h1, _, step_n h, hb, Or.inr ⟨h3, rfl⟩⟩
  · refine Or.inr ⟨h1, Or.inr ⟨by omega, ?_⟩⟩
    by_cases h7 : r_pKind X (r_pc X) = 7
    · exact Or.inl ⟨h7, _, ⟨_, step_n h, hb, Or.inr ⟨h3, rfl⟩⟩, rfl⟩
    · refine Or.inr ⟨h7, ?_⟩
      by_cases h10 : r_pKind X (r_pc X) = 10
      · exact Or.inl ⟨h10, _, ⟨_, step_n h, hb, Or.inr ⟨h3, rfl⟩⟩, rfl⟩
      · exact Or.inr ⟨h10, Or.inl ⟨by omega, _, step_n h, hb, Or.inr ⟨h3, rfl⟩⟩⟩
/-- the state behind the step -/
def sX (X : MS) : MS := w_steps X (r_steps X + 1)
theorem st_asg {p : Nat} {x : Int32} (hp : r_pc X < 155) (hk : r_pKind X (r_pc X) = 1) (hs : r_steps X < 400) (h0 : r_failure X = 0) (hm : r_pMeans X (r_pc X) < 18) (h3 : ¬ r_pSort X (r_pMeans X (r_pc X)) = 3) (hb : r_pSort X (r_pMeans X (r_pc X)) < 2147483648) (he : mo_evaluate (w_pc (sX X) (r_pc X + 2)) x X1) (h1 : r_failure X1 = 0) (em : r_pMeans X1 = r_pMeans X) (hpl : mo_place (r_pMeans X (r_pc X)) X1 p X1) (hp2 : p < 132) (ho : mo_over (w_cell X1 (upd (r_cell X1) p x)) X2) : mo_statement X X2 := by
  have f1 : r_failure (sX X) = 0 := h0
  refine ⟨hp, by omega, Or.inl ⟨hk, _, step_y hs, (show r_failure (sX X) < 2147483648 by omega), Or.inl ⟨f1, hp, hm, hb, Or.inr ⟨h3, x, X1, he, by omega, Or.inl ⟨h1, hp, p, X1, ?_, hp2, X2, ho, rfl⟩⟩⟩⟩⟩
  rw [em]; exact hpl
theorem st_asgf {x : Int32} (hp : r_pc X < 155) (hk : r_pKind X (r_pc X) = 1) (hs : r_steps X < 400) (h0 : r_failure X = 0) (hm : r_pMeans X (r_pc X) < 18) (h3 : ¬ r_pSort X (r_pMeans X (r_pc X)) = 3) (hb : r_pSort X (r_pMeans X (r_pc X)) < 2147483648) (he : mo_evaluate (w_pc (sX X) (r_pc X + 2)) x X1) (h1 : ¬ r_failure X1 = 0) (h2 : r_failure X1 < 2147483648) : mo_statement X X1 :=
  ⟨hp, by omega, Or.inl ⟨hk, _, step_y hs, (show r_failure X < 2147483648 by omega), Or.inl ⟨h0, hp, hm, hb, Or.inr ⟨h3, x, X1, he, h2, Or.inr ⟨h1, rfl⟩⟩⟩⟩⟩
theorem st_call (hp : r_pc X < 155) (hk : r_pKind X (r_pc X) = 1) (hs : r_steps X < 400) (h0 : r_failure X = 0) (hm : r_pMeans X (r_pc X) < 18) (h3 : r_pSort X (r_pMeans X (r_pc X)) = 3) (he : mo_enterCall (r_pMeans X (r_pc X)) (w_pc (sX X) (r_pc X + 1)) X1) : mo_statement X X1 :=
  ⟨hp, by omega, Or.inl ⟨hk, _, step_y hs, (show r_failure X < 2147483648 by omega), Or.inl ⟨h0, hp, hm, (show r_pSort X (r_pMeans X (r_pc X)) < 2147483648 by omega), Or.inl ⟨h3, hp, X1, he, rfl⟩⟩⟩⟩
theorem st_write {x : Int32} {X3 : MS} (hp : r_pc X < 155) (hk : r_pKind X (r_pc X) = 12) (hs : r_steps X < 400) (h0 : r_failure X = 0) (he : mo_evaluate (w_pc (sX X) (r_pc X + 2)) x X1) (h1 : r_failure X1 = 0) (hw : mo_write x X1 X2) (ho : mo_over (w_pc X2 (r_pc X2 + 1)) X3) : mo_statement X X3 :=
  ⟨hp, by omega, Or.inr ⟨by omega, Or.inr ⟨by omega, Or.inr ⟨by omega, Or.inr ⟨by omega, Or.inl ⟨hk, _, step_y hs, (show r_failure X < 2147483648 by omega), Or.inl ⟨h0, x, X1, he, by omega, Or.inl ⟨h1, X2, hw, X3, ho, rfl⟩⟩⟩⟩⟩⟩⟩⟩
theorem st_writef {x : Int32} (hp : r_pc X < 155) (hk : r_pKind X (r_pc X) = 12) (hs : r_steps X < 400) (h0 : r_failure X = 0) (he : mo_evaluate (w_pc (sX X) (r_pc X + 2)) x X1) (h1 : ¬ r_failure X1 = 0) (h2 : r_failure X1 < 2147483648) : mo_statement X X1 :=
  ⟨hp, by omega, Or.inr ⟨by omega, Or.inr ⟨by omega, Or.inr ⟨by omega, Or.inr ⟨by omega, Or.inl ⟨hk, _, step_y hs, (show r_failure X < 2147483648 by omega), Or.inl ⟨h0, x, X1, he, h2, Or.inr ⟨h1, rfl⟩⟩⟩⟩⟩⟩⟩⟩
theorem push_ok {k t : Nat} (hf : r_frame X = some f) (hl : f < 11) (h9 : r_level X f < 10) : mo_push k t X (w_level (w_doneAt (w_doing X (va_up (r_doing X) (10 * f + r_level X f) k)) (va_up (r_doneAt X) (10 * f + r_level X f) t)) (va_up (r_level X) f (r_level X f + 1))) :=
  ⟨f, hf, hl, by omega, hl, by omega, hl, hl, rfl⟩
def pX (X : MS) (f k t : Nat) : MS := w_level (w_doneAt (w_doing X (va_up (r_doing X) (10 * f + r_level X f) k)) (va_up (r_doneAt X) (10 * f + r_level X f) t)) (va_up (r_level X) f (r_level X f + 1))
theorem st_begin (hp : r_pc X < 155) (hk : r_pKind X (r_pc X) = 5) (hf : r_frame X = some f) (hl : f < 11) (h9 : r_level X f < 10) : mo_statement X (w_pc (pX X f 5 (r_pc X)) (r_pc X + 1)) :=
  ⟨hp, by omega, Or.inr ⟨by omega, Or.inl ⟨hk, _, push_ok hf hl h9, rfl⟩⟩⟩
theorem st_empty (hp : r_pc X < 155) (hb : r_pKind X (r_pc X) < 2147483648) (h1 : ¬ r_pKind X (r_pc X) = 1) (h5 : ¬ r_pKind X (r_pc X) = 5) (h7 : ¬ r_pKind X (r_pc X) = 7) (h10 : ¬ r_pKind X (r_pc X) = 10) (h12 : ¬ r_pKind X (r_pc X) = 12) (ho : mo_over X X1) : mo_statement X X1 :=
  ⟨hp, hb, Or.inr ⟨h1, Or.inr ⟨h5, Or.inr ⟨h7, Or.inr ⟨h10, Or.inr ⟨h12, X1, ho, rfl⟩⟩⟩⟩⟩⟩
theorem st_test (hp : r_pc X < 155) (hk : r_pKind X (r_pc X) = 7 ∨ r_pKind X (r_pc X) = 10) (ht : mo_test (r_pc X) X X1) : mo_statement X X1 := by
  refine ⟨hp, by omega, Or.inr ⟨by omega, Or.inr ⟨by omega, ?_⟩⟩⟩
  rcases hk with h | h
  · exact Or.inl ⟨h, X1, ht, rfl⟩
  · exact Or.inr ⟨by omega, Or.inl ⟨h, X1, ht, rfl⟩⟩
/-! the holds of a condition -/
theorem ho_cmp {a b : Int32} {k : Nat} (ha : mo_evaluate X a X1) (hp : r_pc X1 < 155) (h0 : r_failure X1 = 0) (hb : mo_evaluate (w_pc X1 (r_pc X1 + 1)) b X2) (hk : r_pKind X1 (r_pc X1) = kap k) (hc : k = 16 ∨ k = 17 ∨ k = 18) : mo_holds X (mc_cmp (k - 3) a b) X2 := by
  refine ⟨a, X1, ha, hp, by omega, Or.inl ⟨h0, b, X2, hb, ?_, ?_⟩⟩
  · rw [hk]; rcases hc with q | q | q <;> subst q <;> decide
  · rw [hk]
    rcases hc with q | q | q <;> subst q
    · refine Or.inl ⟨by decide, ?_⟩
      show (a = b ∧ mc_cmp 13 a b = true ∧ X2 = X2) ∨ _
      unfold mc_cmp
      rw [if_pos rfl]
      by_cases h : a = b
      · exact Or.inl ⟨h, decide_eq_true h, rfl⟩
      · exact Or.inr ⟨h, decide_eq_false h, rfl⟩
    · refine Or.inr ⟨by decide, Or.inl ⟨by decide, ?_⟩⟩
      show (b ≤ a ∧ mc_cmp 14 a b = false ∧ X2 = X2) ∨ _
      unfold mc_cmp
      rw [if_neg (by decide), if_pos rfl]
      by_cases h : b ≤ a
      · exact Or.inl ⟨h, decide_eq_false (Int32.not_lt.mpr h), rfl⟩
      · exact Or.inr ⟨h, decide_eq_true (Int32.not_le.mp h), rfl⟩
    · refine Or.inr ⟨by decide, Or.inr ⟨by decide, ?_⟩⟩
      show (a ≤ b ∧ mc_cmp 15 a b = false ∧ X2 = X2) ∨ _
      unfold mc_cmp
      rw [if_neg (by decide), if_neg (by decide)]
      by_cases h : a ≤ b
      · exact Or.inl ⟨h, decide_eq_false (Int32.not_lt.mpr h), rfl⟩
      · exact Or.inr ⟨h, decide_eq_true (Int32.not_le.mp h), rfl⟩
theorem ho_f1 {a : Int32} (ha : mo_evaluate X a X1) (hp : r_pc X1 < 155) (h0 : ¬ r_failure X1 = 0) (hb : r_failure X1 < 2147483648) : mo_holds X false (w_pc X1 (r_pc X1 + 1)) := ⟨a, X1, ha, hp, hb, Or.inr ⟨h0, rfl, rfl⟩⟩
theorem ho_f2 {a b : Int32} (ha : mo_evaluate X a X1) (hp : r_pc X1 < 155) (h0 : r_failure X1 = 0) (hkb : r_pKind X1 (r_pc X1) < 2147483648) (hb : mo_evaluate (w_pc X1 (r_pc X1 + 1)) b X2) : ∃ v, mo_holds X v X2 := by
  by_cases h61 : r_pKind X1 (r_pc X1) = 61
  · by_cases h : a = b
    · exact ⟨true, a, X1, ha, hp, by omega, Or.inl ⟨h0, b, X2, hb, hkb, Or.inl ⟨h61, Or.inl ⟨h, rfl, rfl⟩⟩⟩⟩
    · exact ⟨false, a, X1, ha, hp, by omega, Or.inl ⟨h0, b, X2, hb, hkb, Or.inl ⟨h61, Or.inr ⟨h, rfl, rfl⟩⟩⟩⟩
  · by_cases h60 : r_pKind X1 (r_pc X1) = 60
    · by_cases h : b ≤ a
      · exact ⟨false, a, X1, ha, hp, by omega, Or.inl ⟨h0, b, X2, hb, hkb, Or.inr ⟨h61, Or.inl ⟨h60, Or.inl ⟨h, rfl, rfl⟩⟩⟩⟩⟩
      · exact ⟨true, a, X1, ha, hp, by omega, Or.inl ⟨h0, b, X2, hb, hkb, Or.inr ⟨h61, Or.inl ⟨h60, Or.inr ⟨h, rfl, rfl⟩⟩⟩⟩⟩
    · by_cases h : a ≤ b
      · exact ⟨false, a, X1, ha, hp, by omega, Or.inl ⟨h0, b, X2, hb, hkb, Or.inr ⟨h61, Or.inr ⟨h60, Or.inl ⟨h, rfl, rfl⟩⟩⟩⟩⟩
      · exact ⟨true, a, X1, ha, hp, by omega, Or.inl ⟨h0, b, X2, hb, hkb, Or.inr ⟨h61, Or.inr ⟨h60, Or.inr ⟨h, rfl, rfl⟩⟩⟩⟩⟩
end RN
