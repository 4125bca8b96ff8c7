/-! ===== the model cuts the text ===== -/
def CX (X : MS) (K : Nat → Nat) (W : Nat → Int64) (A B : Nat → Nat) (n : Nat) : MS := (X.1, (K, W, A, B, X.2.1.2.2.2.2.1, X.2.1.2.2.2.2.2.1, n), X.2.2)
def TX (f : Nat → Nat) (L : Nat) (X : MS) : Prop := r_length X = L ∧ L ≤ 300 ∧ (∀ j, j < L → r_text X j = f j) ∧ ∀ j, f j < 128
def cW (p tag a b : Nat) (c : Bool) (v : Int64) (X X' : MS) : Prop := ∃ n, mo_cutWord_go p n tag a b c v X X'
def cA (tag a b c : Nat) (X X' : MS) : Prop := ∃ n, mo_cutAll_go n tag a b c X X'
section
variable {f : Nat → Nat} {L p n : Nat} {X X' : MS} {K A B : Nat → Nat} {W : Nat → Int64}
theorem num_model {v : Int64} {c : Nat} (h : isD c = true) : v * 10 + (nI c).toInt64 - 48 = v * 10 + (nI (c - 48)).toInt64 := by
  have hd := isD_iff.1 h
  have e : (nI (c - 48)).toInt64 = (nI c).toInt64 - 48 := by
    rcases (by omega : c = 48 ∨ c = 49 ∨ c = 50 ∨ c = 51 ∨ c = 52 ∨ c = 53 ∨ c = 54 ∨ c = 55 ∨ c = 56 ∨ c = 57) with e | e | e | e | e | e | e | e | e | e <;> subst e <;> decide +kernel
  rw [e, Int64.sub_eq_add_neg, Int64.sub_eq_add_neg, Int64.add_assoc]
theorem cw_word (hX : TX f L X) (t : Nat) : ∀ (r k : Nat) (v : Int64), p ≤ k → k ≤ L → k ≤ p + 10 → r = min (L - k) (p + 10 - k) → cW p 1 t (tk_word f r k v).1 true (tk_word f r k v).2 (CX X K W A B n) X' → cW p 0 t k true v (CX X K W A B n) X' := by
  obtain ⟨x1, x2, x3, x4⟩ := hX
  intro r
  induction r with
  | zero =>
    intro k v h1 h2 h3 h4 ⟨u, hu⟩
    refine ⟨u + 1, (by omega : k < 2147483648), (by show r_length X < _; omega), ?_⟩
    by_cases hL : L ≤ k
    · exact Or.inl ⟨(by show r_length X ≤ k; omega), hu⟩
    · exact Or.inr ⟨(by show ¬ r_length X ≤ k; omega), (by omega : p + 10 < 2147483648), Or.inl ⟨(by omega : p + 10 ≤ k), hu⟩⟩
  | succ r ih =>
    intro k v h1 h2 h3 h4 hu
    have e : r_text (CX X K W A B n) k = f k := x3 k (by omega)
    have hlt := x4 k
    unfold tk_word at hu
    by_cases hc : (isL (f k) || isD (f k)) = true
    · rw [if_pos hc] at hu
      obtain ⟨u, hu⟩ := ih (k + 1) _ (by omega) (by omega) (by omega) (by omega) hu
      refine ⟨u + 1, (by omega : k < 2147483648), (by show r_length X < _; omega), Or.inr ⟨(by show ¬ r_length X ≤ k; omega), (by omega : p + 10 < 2147483648), Or.inr ⟨(by omega : ¬ p + 10 ≤ k), (by omega : k < 300), (by rw [e]; omega), ?_⟩⟩⟩
      rw [e]
      by_cases hd : isD (f k) = true
      · exact Or.inl ⟨hd, Or.inl ⟨rfl, (by omega : k < 300), hu⟩⟩
      · refine Or.inr ⟨hd, Or.inl ⟨rfl, (by omega : k < 300), Or.inl ⟨?_, (by omega : k < 300), hu⟩⟩⟩
        rw [Bool.or_eq_true] at hc
        exact hc.resolve_right hd
    · rw [if_neg hc] at hu
      obtain ⟨u, hu⟩ := hu
      rw [Bool.or_eq_true] at hc
      refine ⟨u + 1, (by omega : k < 2147483648), (by show r_length X < _; omega), Or.inr ⟨(by show ¬ r_length X ≤ k; omega), (by omega : p + 10 < 2147483648), Or.inr ⟨(by omega : ¬ p + 10 ≤ k), (by omega : k < 300), (by rw [e]; omega), ?_⟩⟩⟩
      rw [e]
      exact Or.inr ⟨fun q => hc (Or.inr q), Or.inl ⟨rfl, (by omega : k < 300), Or.inr ⟨fun q => hc (Or.inl q), hu⟩⟩⟩
theorem cw_num (hX : TX f L X) (t : Nat) : ∀ (r k : Nat) (v : Int64), p ≤ k → k ≤ L → k ≤ p + 10 → r = min (L - k) (p + 10 - k) → cW p 1 t (tk_num f r k v).1 false (tk_num f r k v).2 (CX X K W A B n) X' → cW p 0 t k false v (CX X K W A B n) X' := by
  obtain ⟨x1, x2, x3, x4⟩ := hX
  intro r
  induction r with
  | zero =>
    intro k v h1 h2 h3 h4 ⟨u, hu⟩
    refine ⟨u + 1, (by omega : k < 2147483648), (by show r_length X < _; omega), ?_⟩
    by_cases hL : L ≤ k
    · exact Or.inl ⟨(by show r_length X ≤ k; omega), hu⟩
    · exact Or.inr ⟨(by show ¬ r_length X ≤ k; omega), (by omega : p + 10 < 2147483648), Or.inl ⟨(by omega : p + 10 ≤ k), hu⟩⟩
  | succ r ih =>
    intro k v h1 h2 h3 h4 hu
    have e : r_text (CX X K W A B n) k = f k := x3 k (by omega)
    have hlt := x4 k
    unfold tk_num at hu
    by_cases hd : isD (f k) = true
    · rw [if_pos hd, ← num_model hd] at hu
      obtain ⟨u, hu⟩ := ih (k + 1) _ (by omega) (by omega) (by omega) (by omega) hu
      refine ⟨u + 1, (by omega : k < 2147483648), (by show r_length X < _; omega), Or.inr ⟨(by show ¬ r_length X ≤ k; omega), (by omega : p + 10 < 2147483648), Or.inr ⟨(by omega : ¬ p + 10 ≤ k), (by omega : k < 300), (by rw [e]; omega), ?_⟩⟩⟩
      rw [e]
      exact Or.inl ⟨hd, Or.inr ⟨by decide, (by omega : k < 300), hu⟩⟩
    · rw [if_neg hd] at hu
      obtain ⟨u, hu⟩ := hu
      refine ⟨u + 1, (by omega : k < 2147483648), (by show r_length X < _; omega), Or.inr ⟨(by show ¬ r_length X ≤ k; omega), (by omega : p + 10 < 2147483648), Or.inr ⟨(by omega : ¬ p + 10 ≤ k), (by omega : k < 300), (by rw [e]; omega), ?_⟩⟩⟩
      rw [e]
      exact Or.inr ⟨hd, Or.inr ⟨by decide, hu⟩⟩
/-- the model's word and number -/
def mW (f : Nat → Nat) (L p : Nat) : Nat × Int64 := tk_word f (min (L - p) 10) p (lN 0)
def mN (f : Nat → Nat) (L p : Nat) : Nat × Int64 := tk_num f (min (L - p) 10) p (lN 0)
theorem cut_word (hX : TX f L X) (hp : p < L) (hn : n < 155) (hL : isL (f p) = true) : mo_cutWord p (CX X K W A B n) (CX X (va_up K n (if (mW f L p).1 - p ≤ 6 then wk (mW f L p).2 else 99)) (va_up W n (mW f L p).2) A (va_up B n (mW f L p).1) n) := by
  have hX' := hX
  obtain ⟨x1, x2, x3, x4⟩ := hX
  have e : r_text (CX X K W A B n) p = f p := x3 p hp
  have hlt := x4 p
  refine ⟨(by omega : p < 300), (by rw [e]; omega), ?_⟩
  rw [e, hL]
  refine cw_word hX' n (min (L - p) 10) p (lN 0) (by omega) (by omega) (by omega) (by omega) ⟨1, ?_⟩
  have g1 := tk_word_ge (f := f) (min (L - p) 10) p (lN 0)
  have g2 := (tk_word_val (f := f) (fun j => Nat.lt_trans (x4 j) (by decide)) (min (L - p) 10) p 0).2.1
  refine ⟨g1, Or.inl ⟨rfl, (by omega : (tk_word f (min (L - p) 10) p (lN 0)).1 - p < 2147483648), ?_⟩⟩
  unfold mW
  by_cases h6 : (tk_word f (min (L - p) 10) p (lN 0)).1 - p ≤ 6
  · rw [if_pos h6]
    exact Or.inl ⟨h6, hn, hn, hn, rfl⟩
  · rw [if_neg h6]
    exact Or.inr ⟨h6, hn, hn, hn, rfl⟩
theorem cut_num (hX : TX f L X) (hp : p < L) (hn : n < 155) (hL : ¬ isL (f p) = true) : mo_cutWord p (CX X K W A B n) (CX X (va_up K n (if (mN f L p).1 - p ≤ 9 then 2 else 99)) (va_up W n (mN f L p).2) A (va_up B n (mN f L p).1) n) := by
  have hX' := hX
  obtain ⟨x1, x2, x3, x4⟩ := hX
  have e : r_text (CX X K W A B n) p = f p := x3 p hp
  have hlt := x4 p
  refine ⟨(by omega : p < 300), (by rw [e]; omega), ?_⟩
  rw [e, Bool.eq_false_iff.2 hL]
  refine cw_num hX' n (min (L - p) 10) p (lN 0) (by omega) (by omega) (by omega) (by omega) ⟨1, ?_⟩
  have g1 := tk_num_ge (f := f) (min (L - p) 10) p (lN 0)
  have g2 := (tk_num_val (f := f) (min (L - p) 10) p 0).2.1
  refine ⟨g1, Or.inr ⟨by decide, (by omega : (tk_num f (min (L - p) 10) p (lN 0)).1 - p < 2147483648), ?_⟩⟩
  unfold mN
  by_cases h6 : (tk_num f (min (L - p) 10) p (lN 0)).1 - p ≤ 9
  · rw [if_pos h6]
    exact Or.inl ⟨h6, hn, hn, hn, rfl⟩
  · rw [if_neg h6]
    exact Or.inr ⟨h6, hn, hn, hn, rfl⟩
end
