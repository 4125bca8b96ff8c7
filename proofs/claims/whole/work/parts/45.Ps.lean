/-! ===== statements: class and model ===== -/
/-- the model's state, but for place, fault, meanings, nexts, and the stack of open statements -/
def QX (X : MS) (a : Nat) (w : Option Nat) (μ ν wi si : Nat → Nat) (de : Nat) : MS := (X.1, (X.2.1.1, X.2.1.2.1, X.2.1.2.2.1, X.2.1.2.2.2.1, μ, ν, X.2.1.2.2.2.2.2.2), X.2.2.1, X.2.2.2.1, (a, w, wi, si, de), X.2.2.2.2.2.1, X.2.2.2.2.2.2)
def sH (X X' : MS) : Prop := ∃ n, mo_statements_go n 0 X X'
def sB (X X' : MS) : Prop := ∃ k v X2, mo_behindStatement_go k 0 X v X2 ∧ ((v = true ∧ sH X2 X') ∨ (¬ v = true ∧ ∃ X9, mo_need 6 X2 X9 ∧ X' = X9))
theorem sH_t {X X1 X' : MS} (hw : r_wrong X = none) (hb : mo_beginStatement X true X1) (h : sB X1 X') : sH X X' := by
  obtain ⟨k, v, X2, h1, ⟨hv, n, h2⟩ | ⟨hv, X9, h3, h4⟩⟩ := h
  · refine ⟨n + 1, ?_⟩
    rw [mo_statements_go]
    exact Or.inl ⟨hw, true, X1, hb, Or.inl ⟨rfl, v, X2, ⟨k, h1⟩, Or.inl ⟨hv, h2⟩⟩⟩
  · refine ⟨1, ?_⟩
    rw [mo_statements_go]
    exact Or.inl ⟨hw, true, X1, hb, Or.inl ⟨rfl, v, X2, ⟨k, h1⟩, Or.inr ⟨hv, X9, h3, h4⟩⟩⟩
theorem sH_f {X X1 X' : MS} (hw : r_wrong X = none) (hb : mo_beginStatement X false X1) (h : sH X1 X') : sH X X' := by
  obtain ⟨n, h⟩ := h
  refine ⟨n + 1, ?_⟩
  rw [mo_statements_go]
  exact Or.inl ⟨hw, false, X1, hb, Or.inr ⟨by decide, h⟩⟩
theorem sH_w {X : MS} {t : Nat} (hw : r_wrong X = some t) (ht : t < 2147483648) : sH X X := by
  refine ⟨1, ?_⟩
  rw [mo_statements_go]
  exact Or.inr ⟨t, hw, ht, X, mo_need_w hw ht, rfl⟩
theorem sB_w {X : MS} {t : Nat} (hw : r_wrong X = some t) (ht : t < 2147483648) (hd : r_deep X < 2147483648) : sB X X := by
  refine ⟨1, false, X, ?_, Or.inr ⟨by decide, X, mo_need_w hw ht, rfl⟩⟩
  rw [mo_behindStatement_go]
  refine ⟨hd, ?_⟩
  by_cases h : r_deep X = 0
  · exact Or.inl ⟨h, false, X, mo_take_w hw ht, rfl, rfl⟩
  · exact Or.inr ⟨h, Or.inr ⟨t, hw, ht, false, X, mo_take_w hw ht, rfl, rfl⟩⟩
section SB
variable {X X' : MS} {a d : Nat} {μ ν wi si : Nat → Nat}
theorem sB_semi (ha : a < 155) (hd : d < 9) (h5 : wi d = 5) (hk : r_kind X a = 59) (h : sH (QX X (a + 1) none μ ν wi si (d + 1)) X') : sB (QX X a none μ ν wi si (d + 1)) X' := by
  refine ⟨1, true, QX X (a + 1) none μ ν wi si (d + 1), ?_, Or.inl ⟨rfl, h⟩⟩
  rw [mo_behindStatement_go]
  have e5 : r_within (QX X a none μ ν wi si (d + 1)) (r_deep (QX X a none μ ν wi si (d + 1)) - 1) = 5 := h5
  have e1 : r_deep (QX X a none μ ν wi si (d + 1)) = d + 1 := rfl
  exact ⟨by omega, Or.inr ⟨by omega, Or.inl ⟨rfl, by omega, by omega, by omega, by omega, by omega, Or.inr ⟨by omega, Or.inl ⟨e5, true, _, mo_take_y (X := QX X a none μ ν wi si (d + 1)) rfl ha hk (by decide), Or.inl ⟨rfl, rfl, rfl⟩⟩⟩⟩⟩⟩
theorem sB_end (ha : a < 155) (hd : d < 9) (h5 : wi d = 5) (hs : si d < 155) (hk : r_kind X a = 6) (h : sB (QX X (a + 1) none μ (va_up ν (si d) (a + 1)) wi si d) X') : sB (QX X a none μ ν wi si (d + 1)) X' := by
  obtain ⟨k, v, X2, h1, h2⟩ := h
  refine ⟨k + 1, v, X2, ?_, h2⟩
  rw [mo_behindStatement_go]
  have e5 : r_within (QX X a none μ ν wi si (d + 1)) (r_deep (QX X a none μ ν wi si (d + 1)) - 1) = 5 := h5
  have e1 : r_deep (QX X a none μ ν wi si (d + 1)) = d + 1 := rfl
  have hl : r_kind X a < 2147483648 := by omega
  exact ⟨by omega, Or.inr ⟨by omega, Or.inl ⟨rfl, by omega, by omega, by omega, by omega, by omega, Or.inr ⟨by omega, Or.inl ⟨e5, false, _, mo_take_n (X := QX X a none μ ν wi si (d + 1)) rfl ha (show ¬ r_kind X a = 59 by omega) hl (by decide), Or.inr ⟨by decide, _, mo_need_y (X := QX X a none μ ν wi si (d + 1)) rfl ha hk (by decide), hs, (show 1 ≤ d + 1 by omega), h1⟩⟩⟩⟩⟩⟩
theorem sB_noend (ha : a < 155) (hd : d < 9) (h5 : wi d = 5) (hs : si d < 155) (hk : ¬ r_kind X a = 59) (hk6 : ¬ r_kind X a = 6) (hl : r_kind X a < 2147483648) : sB (QX X a none μ ν wi si (d + 1)) (QX X a (some a) μ (va_up ν (si d) a) wi si d) := by
  obtain ⟨k, v, X2, h1, h2⟩ := sB_w (X := QX X a (some a) μ (va_up ν (si d) a) wi si d) (t := a) rfl (by omega) (show d < 2147483648 by omega)
  refine ⟨k + 1, v, X2, ?_, h2⟩
  rw [mo_behindStatement_go]
  have e5 : r_within (QX X a none μ ν wi si (d + 1)) (r_deep (QX X a none μ ν wi si (d + 1)) - 1) = 5 := h5
  have e1 : r_deep (QX X a none μ ν wi si (d + 1)) = d + 1 := rfl
  exact ⟨by omega, Or.inr ⟨by omega, Or.inl ⟨rfl, by omega, by omega, by omega, by omega, by omega, Or.inr ⟨by omega, Or.inl ⟨e5, false, _, mo_take_n (X := QX X a none μ ν wi si (d + 1)) rfl ha hk hl (by decide), Or.inr ⟨by decide, _, mo_need_n (X := QX X a none μ ν wi si (d + 1)) rfl ha hk6 hl (by decide), hs, (show 1 ≤ d + 1 by omega), h1⟩⟩⟩⟩⟩⟩
theorem sB_else (ha : a < 155) (hd : d < 9) (h7 : wi d = 7) (hs : si d < 155) (hk : r_kind X a = 9) (h : sH (QX X (a + 1) none μ (va_up ν (si d) a) (va_up wi d 9) (va_up si d a) (d + 1)) X') : sB (QX X a none μ ν wi si (d + 1)) X' := by
  refine ⟨1, true, QX X (a + 1) none μ (va_up ν (si d) a) (va_up wi d 9) (va_up si d a) (d + 1), ?_, Or.inl ⟨rfl, h⟩⟩
  rw [mo_behindStatement_go]
  have e7 : r_within (QX X a none μ ν wi si (d + 1)) (r_deep (QX X a none μ ν wi si (d + 1)) - 1) = 7 := h7
  have e1 : r_deep (QX X a none μ ν wi si (d + 1)) = d + 1 := rfl
  exact ⟨by omega, Or.inr ⟨by omega, Or.inl ⟨rfl, by omega, by omega, by omega, by omega, by omega, Or.inl ⟨e7, ha, (show r_kind X a < 2147483648 by omega), Or.inl ⟨hk, hs, by omega, by omega, by omega, by omega, rfl, rfl⟩⟩⟩⟩⟩
theorem sB_noelse (ha : a < 155) (hd : d < 9) (h7 : wi d = 7) (hs : si d < 155) (hk : ¬ r_kind X a = 9) (hl : r_kind X a < 2147483648) (h : sB (QX X a none μ (va_up ν (si d) a) wi si d) X') : sB (QX X a none μ ν wi si (d + 1)) X' := by
  obtain ⟨k, v, X2, h1, h2⟩ := h
  refine ⟨k + 1, v, X2, ?_, h2⟩
  rw [mo_behindStatement_go]
  have e7 : r_within (QX X a none μ ν wi si (d + 1)) (r_deep (QX X a none μ ν wi si (d + 1)) - 1) = 7 := h7
  have e1 : r_deep (QX X a none μ ν wi si (d + 1)) = d + 1 := rfl
  exact ⟨by omega, Or.inr ⟨by omega, Or.inl ⟨rfl, by omega, by omega, by omega, by omega, by omega, Or.inl ⟨e7, ha, hl, Or.inr ⟨hk, hs, by omega, h1⟩⟩⟩⟩⟩
theorem sB_other (hd : d < 9) (h7 : ¬ wi d = 7) (h5 : ¬ wi d = 5) (hw : wi d < 2147483648) (hs : si d < 155) (h : sB (QX X a none μ (va_up ν (si d) a) wi si d) X') : sB (QX X a none μ ν wi si (d + 1)) X' := by
  obtain ⟨k, v, X2, h1, h2⟩ := h
  refine ⟨k + 1, v, X2, ?_, h2⟩
  rw [mo_behindStatement_go]
  have e1 : r_deep (QX X a none μ ν wi si (d + 1)) = d + 1 := rfl
  exact ⟨by omega, Or.inr ⟨by omega, Or.inl ⟨rfl, by omega, by omega, by omega, by omega, hw, Or.inr ⟨h7, Or.inr ⟨h5, hs, by omega, h1⟩⟩⟩⟩⟩
theorem sB0_semi (ha : a < 155) (hk : r_kind X a = 59) (h : sH (QX X (a + 1) none μ ν wi si 0) X') : sB (QX X a none μ ν wi si 0) X' := by
  refine ⟨1, true, QX X (a + 1) none μ ν wi si 0, ?_, Or.inl ⟨rfl, h⟩⟩
  rw [mo_behindStatement_go]
  exact ⟨(show 0 < 2147483648 by decide), Or.inl ⟨rfl, true, _, mo_take_y (X := QX X a none μ ν wi si 0) rfl ha hk (by decide), rfl, rfl⟩⟩
theorem sB0_end (ha : a < 155) (hk : r_kind X a = 6) : sB (QX X a none μ ν wi si 0) (QX X (a + 1) none μ ν wi si 0) := by
  have hl : r_kind X a < 2147483648 := by omega
  refine ⟨1, false, QX X a none μ ν wi si 0, ?_, Or.inr ⟨by decide, _, mo_need_y (X := QX X a none μ ν wi si 0) rfl ha hk (by decide), rfl⟩⟩
  rw [mo_behindStatement_go]
  exact ⟨(show 0 < 2147483648 by decide), Or.inl ⟨rfl, false, _, mo_take_n (X := QX X a none μ ν wi si 0) rfl ha (show ¬ r_kind X a = 59 by omega) hl (by decide), rfl, rfl⟩⟩
theorem sB0_bad (ha : a < 155) (hk : ¬ r_kind X a = 59) (hk6 : ¬ r_kind X a = 6) (hl : r_kind X a < 2147483648) : sB (QX X a none μ ν wi si 0) (QX X a (some a) μ ν wi si 0) := by
  refine ⟨1, false, QX X a none μ ν wi si 0, ?_, Or.inr ⟨by decide, _, mo_need_n (X := QX X a none μ ν wi si 0) rfl ha hk6 hl (by decide), rfl⟩⟩
  rw [mo_behindStatement_go]
  exact ⟨(show 0 < 2147483648 by decide), Or.inl ⟨rfl, false, _, mo_take_n (X := QX X a none μ ν wi si 0) rfl ha hk hl (by decide), rfl, rfl⟩⟩
/-! the statement's beginning -/
variable {X1 X2 X3 : MS} {s : Nat}
theorem bs_asg (ha : a + 1 < 155) (h1 : r_kind X a = 1) (h2 : r_kind X (a + 1) = 13) (hf : mo_find a (QX X a none μ ν wi si d) (some s) (QX X a none μ ν wi si d)) (hs : s < 18) (h3 : ¬ r_sort X s = 3) (hb : r_sort X s < 2147483648) (hx : mo_expression (QX X (a + 2) none (va_up μ a s) ν wi si d) X1) : mo_beginStatement (QX X a none μ ν wi si d) true X1 :=
  ⟨(show a < 155 by omega), (show r_kind X a < 2147483648 by omega), Or.inl ⟨h1, some s, _, hf, ha, (show r_kind X (a + 1) < 2147483648 by omega), Or.inl ⟨h2, Or.inr ⟨s, rfl, by omega, hs, hb, Or.inr ⟨h3, (show a < 155 by omega), X1, hx, rfl, rfl⟩⟩⟩⟩⟩
theorem bs_call (ha : a + 1 < 155) (h1 : r_kind X a = 1) (h2 : ¬ r_kind X (a + 1) = 13) (hl : r_kind X (a + 1) < 2147483648) (hf : mo_find a (QX X a none μ ν wi si d) (some s) (QX X a none μ ν wi si d)) (hs : s < 18) (h3 : r_sort X s = 3) (hx : mo_call a s (QX X (a + 1) none (va_up μ a s) ν wi si d) X1) : mo_beginStatement (QX X a none μ ν wi si d) true X1 :=
  ⟨(show a < 155 by omega), (show r_kind X a < 2147483648 by omega), Or.inl ⟨h1, some s, _, hf, ha, hl, Or.inr ⟨h2, Or.inr ⟨s, rfl, by omega, hs, (show r_sort X s < 2147483648 by omega), Or.inl ⟨h3, (show a < 155 by omega), X1, hx, rfl, rfl⟩⟩⟩⟩⟩
theorem bs_bad {o : Option Nat} (ha : a + 1 < 155) (h1 : r_kind X a = 1) (hl : r_kind X (a + 1) < 2147483648) (hf : mo_find a (QX X a none μ ν wi si d) o (QX X a none μ ν wi si d)) (hs : ∀ s, o = some s → s < 18 ∧ r_sort X s < 2147483648 ∧ (r_sort X s = 3 ↔ r_kind X (a + 1) = 13)) : mo_beginStatement (QX X a none μ ν wi si d) true (QX X a (some a) μ ν wi si d) := by
  refine ⟨(show a < 155 by omega), (show r_kind X a < 2147483648 by omega), Or.inl ⟨h1, o, _, hf, ha, hl, ?_⟩⟩
  by_cases h2 : r_kind X (a + 1) = 13
  · refine Or.inl ⟨h2, ?_⟩
    rcases o with _ | s
    · exact Or.inl ⟨rfl, _, mo_blame_n (X := QX X a none μ ν wi si d) rfl, rfl, rfl⟩
    · have k := hs s rfl
      exact Or.inr ⟨s, rfl, by omega, k.1, k.2.1, Or.inl ⟨k.2.2.mpr h2, _, mo_blame_n (X := QX X a none μ ν wi si d) rfl, rfl, rfl⟩⟩
  · refine Or.inr ⟨h2, ?_⟩
    rcases o with _ | s
    · exact Or.inl ⟨rfl, _, mo_blame_n (X := QX X a none μ ν wi si d) rfl, rfl, rfl⟩
    · have k := hs s rfl
      exact Or.inr ⟨s, rfl, by omega, k.1, k.2.1, Or.inr ⟨fun h => h2 (k.2.2.mp h), _, mo_blame_n (X := QX X a none μ ν wi si d) rfl, rfl, rfl⟩⟩
theorem bs_write (ha : a < 155) (h1 : r_kind X a = 12) (n1 : mo_need 40 (QX X (a + 1) none μ ν wi si d) X1) (n2 : mo_expression X1 X2) (n3 : mo_need 41 X2 X3) : mo_beginStatement (QX X a none μ ν wi si d) true X3 :=
  ⟨ha, (show r_kind X a < 2147483648 by omega), Or.inr ⟨(show ¬ r_kind X a = 1 by omega), true, _, mo_take_y (X := QX X a none μ ν wi si d) rfl ha h1 (by decide), Or.inl ⟨rfl, X1, n1, X2, n2, X3, n3, rfl, rfl⟩⟩⟩
theorem bs_empty (ha : a < 155) (hl : r_kind X a < 2147483648) (h1 : ¬ r_kind X a = 1) (h12 : ¬ r_kind X a = 12) (h5 : ¬ r_kind X a = 5) (h7 : ¬ r_kind X a = 7) (h10 : ¬ r_kind X a = 10) : mo_beginStatement (QX X a none μ ν wi si d) true (QX X a none μ ν wi si d) :=
  ⟨ha, hl, Or.inr ⟨h1, false, _, mo_take_n (X := QX X a none μ ν wi si d) rfl ha h12 hl (by decide), Or.inr ⟨by decide, ha, hl, Or.inr ⟨h5, ha, Or.inr ⟨h7, ha, Or.inr ⟨h10, rfl, rfl⟩⟩⟩⟩⟩⟩
theorem dp_8 {k t : Nat} : mo_deeper k t (QX X a none μ ν wi si 8) (QX X a (some t) μ ν wi si 8) := ⟨(show 8 < 2147483648 by decide), Or.inl ⟨rfl, _, mo_blame_n (X := QX X a none μ ν wi si 8) rfl, rfl⟩⟩
theorem dp_n {k t : Nat} (hd : d < 8) : mo_deeper k t (QX X a none μ ν wi si d) (QX X a none μ ν (va_up wi d k) (va_up si d t) (d + 1)) := ⟨(show d < 2147483648 by omega), Or.inr ⟨(show ¬ d = 8 by omega), (show d < 10 by omega), (show d < 10 by omega), rfl⟩⟩
theorem bs_deep8 (ha : a < 155) (hk : r_kind X a = 5 ∨ r_kind X a = 7 ∨ r_kind X a = 10) : mo_beginStatement (QX X a none μ ν wi si 8) true (QX X a (some a) μ ν wi si 8) := by
  have hl : r_kind X a < 2147483648 := by omega
  refine ⟨ha, hl, Or.inr ⟨(show ¬ r_kind X a = 1 by omega), false, _, mo_take_n (X := QX X a none μ ν wi si 8) rfl ha (show ¬ r_kind X a = 12 by omega) hl (by decide), Or.inr ⟨by decide, ha, hl, ?_⟩⟩⟩
  have h9 : a < 2147483648 := by omega
  by_cases h5 : r_kind X a = 5
  · exact Or.inl ⟨h5, ha, _, dp_8, Or.inr ⟨a, rfl, h9, rfl, rfl⟩⟩
  · refine Or.inr ⟨h5, ha, ?_⟩
    by_cases h7 : r_kind X a = 7
    · exact Or.inl ⟨h7, ha, _, dp_8, Or.inr ⟨a, rfl, h9, rfl, rfl⟩⟩
    · exact Or.inr ⟨h7, ha, Or.inl ⟨(show r_kind X a = 10 by omega), ha, _, dp_8, Or.inr ⟨a, rfl, h9, rfl, rfl⟩⟩⟩
theorem bs_begin (ha : a < 155) (hk : r_kind X a = 5) (hd : d < 8) : mo_beginStatement (QX X a none μ ν wi si d) false (QX X (a + 1) none μ ν (va_up wi d 5) (va_up si d a) (d + 1)) := by
  have hl : r_kind X a < 2147483648 := by omega
  have hk' : (r_kind (QX X a none μ ν wi si d) (r_at (QX X a none μ ν wi si d))) = 5 := hk
  have dd := dp_n (X := X) (a := a) (μ := μ) (ν := ν) (wi := wi) (si := si) (k := r_kind (QX X a none μ ν wi si d) (r_at (QX X a none μ ν wi si d))) (t := a) hd
  refine ⟨ha, hl, Or.inr ⟨(show ¬ r_kind X a = 1 by omega), false, _, mo_take_n (X := QX X a none μ ν wi si d) rfl ha (show ¬ r_kind X a = 12 by omega) hl (by decide), Or.inr ⟨by decide, ha, hl, Or.inl ⟨hk, ha, _, dd, Or.inl ⟨rfl, ha, hl, Or.inl ⟨hk, ha, ha, rfl, ?_⟩⟩⟩⟩⟩⟩
  rw [hk']; rfl
theorem bs_if (ha : a < 155) (hk : r_kind X a = 7) (hd : d < 8) (hc : mo_condition (QX X (a + 1) none μ ν (va_up wi d 7) (va_up si d a) (d + 1)) X1) (k1 : r_kind X1 = r_kind X) (hn : mo_need 8 X1 X2) (k2 : r_kind X2 = r_kind X) : mo_beginStatement (QX X a none μ ν wi si d) false X2 := by
  have hl : r_kind X a < 2147483648 := by omega
  have hk' : (r_kind (QX X a none μ ν wi si d) (r_at (QX X a none μ ν wi si d))) = 7 := hk
  have dd := dp_n (X := X) (a := a) (μ := μ) (ν := ν) (wi := wi) (si := si) (k := 7) (t := a) hd
  have q1 : r_kind X1 a = 7 := by rw [k1]; exact hk
  have q2 : r_kind X2 a = 7 := by rw [k2]; exact hk
  refine ⟨ha, hl, Or.inr ⟨(show ¬ r_kind X a = 1 by omega), false, _, mo_take_n (X := QX X a none μ ν wi si d) rfl ha (show ¬ r_kind X a = 12 by omega) hl (by decide), Or.inr ⟨by decide, ha, hl, Or.inr ⟨(show ¬ r_kind X a = 5 by omega), ha, Or.inl ⟨hk, ha, QX X a none μ ν (va_up wi d 7) (va_up si d a) (d + 1), ?_, Or.inl ⟨rfl, ha, hl, Or.inr ⟨(show ¬ r_kind X a = 5 by omega), X1, hc, ha, (show r_kind X1 a < 2147483648 by omega), Or.inl ⟨q1, X2, hn, ha, (show r_kind X2 a < 2147483648 by omega), Or.inr ⟨(show ¬ r_kind X2 a = 10 by omega), rfl, rfl⟩⟩⟩⟩⟩⟩⟩⟩⟩
  rw [hk']; exact dd
theorem bs_while (ha : a < 155) (hk : r_kind X a = 10) (hd : d < 8) (hc : mo_condition (QX X (a + 1) none μ ν (va_up wi d 10) (va_up si d a) (d + 1)) X1) (k1 : r_kind X1 = r_kind X) (hn : mo_need 11 X1 X2) : mo_beginStatement (QX X a none μ ν wi si d) false X2 := by
  have hl : r_kind X a < 2147483648 := by omega
  have hk' : (r_kind (QX X a none μ ν wi si d) (r_at (QX X a none μ ν wi si d))) = 10 := hk
  have dd := dp_n (X := X) (a := a) (μ := μ) (ν := ν) (wi := wi) (si := si) (k := 10) (t := a) hd
  have q1 : r_kind X1 a = 10 := by rw [k1]; exact hk
  refine ⟨ha, hl, Or.inr ⟨(show ¬ r_kind X a = 1 by omega), false, _, mo_take_n (X := QX X a none μ ν wi si d) rfl ha (show ¬ r_kind X a = 12 by omega) hl (by decide), Or.inr ⟨by decide, ha, hl, Or.inr ⟨(show ¬ r_kind X a = 5 by omega), ha, Or.inr ⟨(show ¬ r_kind X a = 7 by omega), ha, Or.inl ⟨hk, ha, QX X a none μ ν (va_up wi d 10) (va_up si d a) (d + 1), ?_, Or.inl ⟨rfl, ha, hl, Or.inr ⟨(show ¬ r_kind X a = 5 by omega), X1, hc, ha, (show r_kind X1 a < 2147483648 by omega), Or.inr ⟨(show ¬ r_kind X1 a = 7 by omega), ha, Or.inl ⟨q1, X2, hn, rfl, rfl⟩⟩⟩⟩⟩⟩⟩⟩⟩⟩
  rw [hk']; exact dd
end SB
