/-! ===== compile: the tables kept ===== -/
section
variable {T : Tk} {m : Nat} {X X' : MS} {v : Nat}
theorem ok_all2 (t : TkOk T m) (Q : CS) (o1 : Ok m Q) (k1 : KO Q.2.2) : Ok m (bd (cp_expect T 15) (fun _ S2 => if kd T S2.1 = 28 then (.inr (S2.2.1.2.2.2.2.2.2.2.1 + S2.2.1.2.2.2.2.2.2.2.2), S2) else cp_no T S2) Q).2 ∧ KO (bd (cp_expect T 15) (fun _ S2 => if kd T S2.1 = 28 then (.inr (S2.2.1.2.2.2.2.2.2.2.1 + S2.2.1.2.2.2.2.2.2.2.2), S2) else cp_no T S2) Q).2.2.2 := by
  have x := rq_expect (q := 15) t (by decide) Q o1
  have x2 := x.2 k1
  have x1 := x.1
  rcases hR2 : cp_expect T 15 Q with ⟨p | e2, S2⟩
  · rw [bd_no hR2]
    rw [hR2] at x1 x2
    exact ⟨x1, x2⟩
  · rw [bd_ok hR2]
    rw [hR2] at x1 x2
    by_cases h28 : kd T S2.1 = 28
    · rw [if_pos h28]; exact ⟨x1, x2⟩
    · rw [if_neg h28]; exact ⟨x1, x2⟩
theorem ok_all (t : TkOk T m) (no : NO T m) {N : Nm} {C : Co} (oN : NmOk N) (oC : CoOk C) (hC : KO C) : Ok m (cp_all T (cp_s0 N C)).2 ∧ KO (cp_all T (cp_s0 N C)).2.2.2 := by
  have o : Ok m (cp_s0 N C) := ⟨Nat.zero_le _, nmOk_clear oN, ⟨by show 0 ≤ 300; omega, oC.2⟩⟩
  have k := kb_block t no 3 (cp_s0 N C) rfl o hC
  have r := rl_block t 3 (cp_s0 N C) rfl o
  unfold cp_all
  rcases hR : cp_block T 3 (cp_s0 N C) with ⟨p | e, S1⟩
  · rw [bd_no hR]
    rw [hR] at k r
    exact ⟨r.1, k.1⟩
  · rw [bd_ok hR]
    rw [hR] at k r
    exact ok_all2 t _ r.1 k.1
def PX (X : MS) (p : MS3) : MS := (X.1, X.2.1, X.2.2.1, p, X.2.2.2.2)
def cG (tag x : Nat) (X : MS) (v : Nat) (X' : MS) : Prop := ∃ n, mo_compile_go n tag x X v X'
theorem cg_0 : ∀ (r x : Nat) (p : MS3), x + r = 155 → ∃ p' : MS3, (∀ v X', cG 1 0 (PX X p') v X' → cG 0 x (PX X p) v X') ∧ (∀ t, x ≤ t → t < 155 → p'.1 t = r_kind X t ∧ p'.2.1 t = (r_word X t).toInt32 ∧ p'.2.2.1 t = r_means X t ∧ p'.2.2.2.1 t = r_next X t) ∧ (∀ t, t < x → p'.1 t = p.1 t ∧ p'.2.1 t = p.2.1 t ∧ p'.2.2.1 t = p.2.2.1 t ∧ p'.2.2.2.1 t = p.2.2.2.1 t) ∧ p'.2.2.2.2 = p.2.2.2.2 := by
  intro r
  induction r with
  | zero =>
    intro x p hx
    refine ⟨p, fun v X' ⟨n, hn⟩ => ⟨n + 1, (by omega : x < 2147483648), Or.inl ⟨(by omega : 155 ≤ x), hn⟩⟩, fun t h1 h2 => by omega, fun t _ => ⟨rfl, rfl, rfl, rfl⟩, rfl⟩
  | succ r ih =>
    intro x p hx
    obtain ⟨p', h1, h2, h3, h4⟩ := ih (x + 1) (va_up p.1 x (r_kind X x), upd p.2.1 x (r_word X x).toInt32, va_up p.2.2.1 x (r_means X x), va_up p.2.2.2.1 x (r_next X x), p.2.2.2.2) (by omega)
    have hl : x < 155 := by omega
    refine ⟨p', ?_, ?_, ?_, h4⟩
    · intro v X' h
      obtain ⟨n, hn⟩ := h1 v X' h
      exact ⟨n + 1, (by omega : x < 2147483648), Or.inr ⟨(by omega : ¬ 155 ≤ x), hl, hl, hl, hl, hl, hl, hl, hl, hn⟩⟩
    · intro t t1 t2
      rcases Nat.eq_or_lt_of_le t1 with e | e
      · subst e
        have := h3 x (by omega)
        exact ⟨this.1.trans (va_same _ _ _), this.2.1.trans (upd_same _ _ _), this.2.2.1.trans (va_same _ _ _), this.2.2.2.trans (va_same _ _ _)⟩
      · exact h2 t (by omega) t2
    · intro t t1
      have := h3 t (by omega)
      have ne : ∀ (g : Nat → Nat) (w : Nat), va_up g x w t = g t := fun g w => if_neg (by omega)
      exact ⟨this.1.trans (ne _ _), this.2.1.trans (if_neg (by omega)), this.2.2.1.trans (ne _ _), this.2.2.2.trans (ne _ _)⟩
theorem cg_1 : ∀ (r x : Nat) (p : MS3), x + r = 18 → ∃ p' : MS3, (∀ v X', cG 2 0 (PX X p') v X' → cG 1 x (PX X p) v X') ∧ (∀ t, x ≤ t → t < 18 → p'.2.2.2.2.1 t = r_sort X t ∧ p'.2.2.2.2.2.1 t = r_home X t ∧ p'.2.2.2.2.2.2.1 t = r_own X t ∧ p'.2.2.2.2.2.2.2.1 t = r_wants X t) ∧ (∀ t, t < x → p'.2.2.2.2.1 t = p.2.2.2.2.1 t ∧ p'.2.2.2.2.2.1 t = p.2.2.2.2.2.1 t ∧ p'.2.2.2.2.2.2.1 t = p.2.2.2.2.2.2.1 t ∧ p'.2.2.2.2.2.2.2.1 t = p.2.2.2.2.2.2.2.1 t) ∧ p'.1 = p.1 ∧ p'.2.1 = p.2.1 ∧ p'.2.2.1 = p.2.2.1 ∧ p'.2.2.2.1 = p.2.2.2.1 := by
  intro r
  induction r with
  | zero =>
    intro x p hx
    refine ⟨p, fun v X' ⟨n, hn⟩ => ⟨n + 1, (by omega : x < 2147483648), Or.inl ⟨(by omega : 18 ≤ x), hn⟩⟩, fun t h1 h2 => by omega, fun t _ => ⟨rfl, rfl, rfl, rfl⟩, rfl, rfl, rfl, rfl⟩
  | succ r ih =>
    intro x p hx
    obtain ⟨p', h1, h2, h3, h4⟩ := ih (x + 1) (p.1, p.2.1, p.2.2.1, p.2.2.2.1, va_up p.2.2.2.2.1 x (r_sort X x), va_up p.2.2.2.2.2.1 x (r_home X x), va_up p.2.2.2.2.2.2.1 x (r_own X x), va_up p.2.2.2.2.2.2.2.1 x (r_wants X x), p.2.2.2.2.2.2.2.2) (by omega)
    have hl : x < 18 := by omega
    refine ⟨p', ?_, ?_, ?_, h4⟩
    · intro v X' h
      obtain ⟨n, hn⟩ := h1 v X' h
      exact ⟨n + 1, (by omega : x < 2147483648), Or.inr ⟨(by omega : ¬ 18 ≤ x), hl, hl, hl, hl, hl, hl, hl, hl, hn⟩⟩
    · intro t t1 t2
      rcases Nat.eq_or_lt_of_le t1 with e | e
      · subst e
        have := h3 x (by omega)
        exact ⟨this.1.trans (va_same _ _ _), this.2.1.trans (va_same _ _ _), this.2.2.1.trans (va_same _ _ _), this.2.2.2.trans (va_same _ _ _)⟩
      · exact h2 t (by omega) t2
    · intro t t1
      have := h3 t (by omega)
      have ne : ∀ (g : Nat → Nat) (w : Nat), va_up g x w t = g t := fun g w => if_neg (by omega)
      exact ⟨this.1.trans (ne _ _), this.2.1.trans (ne _ _), this.2.2.1.trans (ne _ _), this.2.2.2.trans (ne _ _)⟩
theorem cg_2 : ∀ (r x : Nat) (p : MS3), x + r = 8 → ∃ p' : MS3, cG 2 x (PX X p) (r_symbols X) (PX X p') ∧ (∀ t, x ≤ t → t < 8 → p'.2.2.2.2.2.2.2.2 t = r_body X t) ∧ (∀ t, t < x → p'.2.2.2.2.2.2.2.2 t = p.2.2.2.2.2.2.2.2 t) ∧ p'.1 = p.1 ∧ p'.2.1 = p.2.1 ∧ p'.2.2.1 = p.2.2.1 ∧ p'.2.2.2.1 = p.2.2.2.1 ∧ p'.2.2.2.2.1 = p.2.2.2.2.1 ∧ p'.2.2.2.2.2.1 = p.2.2.2.2.2.1 ∧ p'.2.2.2.2.2.2.1 = p.2.2.2.2.2.2.1 ∧ p'.2.2.2.2.2.2.2.1 = p.2.2.2.2.2.2.2.1 := by
  intro r
  induction r with
  | zero =>
    intro x p hx
    exact ⟨p, ⟨1, (by omega : x < 2147483648), Or.inl ⟨(by omega : 8 ≤ x), rfl, rfl⟩⟩, fun t h1 h2 => by omega, fun t _ => rfl, rfl, rfl, rfl, rfl, rfl, rfl, rfl, rfl⟩
  | succ r ih =>
    intro x p hx
    obtain ⟨p', ⟨n, hn⟩, h2, h3, h4⟩ := ih (x + 1) (p.1, p.2.1, p.2.2.1, p.2.2.2.1, p.2.2.2.2.1, p.2.2.2.2.2.1, p.2.2.2.2.2.2.1, p.2.2.2.2.2.2.2.1, va_up p.2.2.2.2.2.2.2.2 x (r_body X x)) (by omega)
    have hl : x < 8 := by omega
    refine ⟨p', ⟨n + 1, (by omega : x < 2147483648), Or.inr ⟨(by omega : ¬ 8 ≤ x), hl, hl, hn⟩⟩, ?_, ?_, h4⟩
    · intro t t1 t2
      rcases Nat.eq_or_lt_of_le t1 with e | e
      · subst e
        exact (h3 x (by omega)).trans (va_same _ _ _)
      · exact h2 t (by omega) t2
    · intro t t1
      have := h3 t (by omega)
      exact this.trans (if_neg (by omega))
/-- what is kept of a compiled text -/
theorem cg_all (X : MS) : ∃ p : MS3, cG 0 0 X (r_symbols X) (PX X p) ∧ (∀ t, t < 155 → p.1 t = r_kind X t ∧ p.2.1 t = (r_word X t).toInt32 ∧ p.2.2.1 t = r_means X t ∧ p.2.2.2.1 t = r_next X t) ∧ (∀ t, t < 18 → p.2.2.2.2.1 t = r_sort X t ∧ p.2.2.2.2.2.1 t = r_home X t ∧ p.2.2.2.2.2.2.1 t = r_own X t ∧ p.2.2.2.2.2.2.2.1 t = r_wants X t) ∧ (∀ t, t < 8 → p.2.2.2.2.2.2.2.2 t = r_body X t) := by
  obtain ⟨p1, a1, a2, _, _⟩ := cg_0 (X := X) 155 0 X.2.2.2.1 rfl
  obtain ⟨p2, b1, b2, _, b4, b5, b6, b7⟩ := cg_1 (X := X) 18 0 p1 rfl
  obtain ⟨p3, c1, c2, _, d1, d2, d3, d4, d5, d6, d7, d8⟩ := cg_2 (X := X) 8 0 p2 rfl
  refine ⟨p3, a1 _ _ (b1 _ _ c1), ?_, ?_, fun t ht => c2 t (Nat.zero_le _) ht⟩
  · intro t ht
    rw [d1, d2, d3, d4, b4, b5, b6, b7]
    exact a2 t (Nat.zero_le _) ht
  · intro t ht
    rw [d5, d6, d7, d8]
    exact b2 t (Nat.zero_le _) ht
end
