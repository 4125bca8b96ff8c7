/-! ===== one token ===== -/
section
variable {f : Nat → Nat} {L p n : Nat} {X X' : MS} {K A B : Nat → Nat} {W : Nat → Int64}
theorem ca_skip (hX : TX f L X) (hn : n < 151) : ∀ (r p : Nat), p + r = L → cA 0 (tk_skip f r p) 0 0 (CX X K W A B n) X' → cA 0 p 0 0 (CX X K W A B n) X' := by
  obtain ⟨x1, x2, x3, x4⟩ := hX
  intro r
  induction r with
  | zero => intro p _ h; exact h
  | succ r ih =>
    intro p hp h
    unfold tk_skip at h
    by_cases hc : f p = 32
    · rw [if_pos hc] at h
      obtain ⟨u, hu⟩ := ih (p + 1) (by omega) h
      have e : r_text (CX X K W A B n) p = f p := x3 p (by omega)
      exact ⟨u + 1, (by omega : p < 2147483648), (by show r_length X < _; omega), Or.inr ⟨(by show ¬ r_length X ≤ p; omega), (by show n < _; omega), Or.inr ⟨(by show ¬ 151 ≤ n; omega), (by omega : p < 300), (by rw [e]; omega), Or.inl ⟨(by rw [e]; exact hc), hu⟩⟩⟩⟩
    · rw [if_neg hc] at h; exact h
theorem ca_tok (hX : TX f L X) (hn : n < 151) (hp : p < L) (hc : ¬ f p = 32) (h : cA 1 p (f p) n (CX X (va_up K n (if isS (f p) then f p else 99)) W (va_up A n p) (va_up B n (p + 1)) n) X') : cA 0 p 0 0 (CX X K W A B n) X' := by
  obtain ⟨x1, x2, x3, x4⟩ := hX
  obtain ⟨u, hu⟩ := h
  have e : r_text (CX X K W A B n) p = f p := x3 p hp
  have hlt := x4 p
  refine ⟨u + 1, (by omega : p < 2147483648), (by show r_length X < _; omega), Or.inr ⟨(by show ¬ r_length X ≤ p; omega), (by show n < _; omega), Or.inr ⟨(by show ¬ 151 ≤ n; omega), (by omega : p < 300), (by rw [e]; omega), Or.inr ⟨(by rw [e]; exact hc), (by show n < 155; omega), (by show n < 155; omega), ?_⟩⟩⟩⟩
  rw [e]
  by_cases hs : isS (f p) = true
  · rw [if_pos hs] at hu
    exact Or.inl ⟨hs, (by show n < 155; omega), hu⟩
  · rw [if_neg hs] at hu
    exact Or.inr ⟨hs, (by show n < 155; omega), hu⟩
theorem ca_word (hX : TX f L X) (hn : n < 151) (hp : p < L) (hL : isL (f p) = true) (h : cA 2 p (f p) n (CX X (va_up K n (if (mW f L p).1 - p ≤ 6 then wk (mW f L p).2 else 99)) (va_up W n (mW f L p).2) A (va_up B n (mW f L p).1) n) X') : cA 1 p (f p) n (CX X K W A B n) X' := by
  obtain ⟨u, hu⟩ := h
  have hlt := hX.2.2.2 p
  exact ⟨u + 1, (by omega : f p < 2147483648), Or.inl ⟨hL, _, cut_word hX hp (by omega) hL, hu⟩⟩
theorem ca_num (hX : TX f L X) (hn : n < 151) (hp : p < L) (hL : ¬ isL (f p) = true) (hD : isD (f p) = true) (h : cA 2 p (f p) n (CX X (va_up K n (if (mN f L p).1 - p ≤ 9 then 2 else 99)) (va_up W n (mN f L p).2) A (va_up B n (mN f L p).1) n) X') : cA 1 p (f p) n (CX X K W A B n) X' := by
  obtain ⟨u, hu⟩ := h
  have hlt := hX.2.2.2 p
  exact ⟨u + 1, (by omega : f p < 2147483648), Or.inr ⟨hL, Or.inl ⟨hD, _, cut_num hX hp (by omega) hL, hu⟩⟩⟩
theorem ca_sign (hX : TX f L X) (hL : ¬ isL (f p) = true) (hD : ¬ isD (f p) = true) (h : cA 2 p (f p) n (CX X K W A B n) X') : cA 1 p (f p) n (CX X K W A B n) X' := by
  obtain ⟨u, hu⟩ := h
  have hlt := hX.2.2.2 p
  exact ⟨u + 1, (by omega : f p < 2147483648), Or.inr ⟨hL, Or.inr ⟨hD, hu⟩⟩⟩
theorem ca_2 {c : Nat} (hc : c < 128) (h58 : ¬ c = 58) (h : cA 3 p c n (CX X K W A B n) X') : cA 2 p c n (CX X K W A B n) X' := by
  obtain ⟨u, hu⟩ := h
  exact ⟨u + 1, (by omega : c < 2147483648), Or.inr ⟨h58, hu⟩⟩
theorem ca_2e (hX : TX f L X) (hp : p + 1 = L) (h : cA 3 p 58 n (CX X K W A B n) X') : cA 2 p 58 n (CX X K W A B n) X' := by
  obtain ⟨x1, x2, x3, x4⟩ := hX
  obtain ⟨u, hu⟩ := h
  exact ⟨u + 1, by decide, Or.inl ⟨rfl, (by omega : p + 1 < 2147483648), (by show r_length X < _; omega), Or.inl ⟨(by show r_length X ≤ p + 1; omega), hu⟩⟩⟩
theorem ca_2n (hX : TX f L X) (hp : p + 1 < L) (hc : ¬ f (p + 1) = 61) (h : cA 3 p 58 n (CX X K W A B n) X') : cA 2 p 58 n (CX X K W A B n) X' := by
  obtain ⟨x1, x2, x3, x4⟩ := hX
  obtain ⟨u, hu⟩ := h
  have e : r_text (CX X K W A B n) (p + 1) = f (p + 1) := x3 _ hp
  have hlt := x4 (p + 1)
  exact ⟨u + 1, by decide, Or.inl ⟨rfl, (by omega : p + 1 < 2147483648), (by show r_length X < _; omega), Or.inr ⟨(by show ¬ r_length X ≤ p + 1; omega), (by omega : p + 1 < 300), (by rw [e]; omega), Or.inr ⟨(by rw [e]; exact hc), hu⟩⟩⟩⟩
theorem ca_2y (hX : TX f L X) (hn : n < 151) (hp : p + 1 < L) (hc : f (p + 1) = 61) (h : cA 3 p 58 n (CX X (va_up K n 13) W A (va_up B n (p + 2)) n) X') : cA 2 p 58 n (CX X K W A B n) X' := by
  obtain ⟨x1, x2, x3, x4⟩ := hX
  obtain ⟨u, hu⟩ := h
  have e : r_text (CX X K W A B n) (p + 1) = f (p + 1) := x3 _ hp
  have hlt := x4 (p + 1)
  exact ⟨u + 1, by decide, Or.inl ⟨rfl, (by omega : p + 1 < 2147483648), (by show r_length X < _; omega), Or.inr ⟨(by show ¬ r_length X ≤ p + 1; omega), (by omega : p + 1 < 300), (by rw [e]; omega), Or.inl ⟨(by rw [e]; exact hc), (by omega : n < 155), (by omega : n < 155), hu⟩⟩⟩⟩
theorem ca_3o {c : Nat} (hX : TX f L X) (hn : n < 150) (hk : K n < 99) (h : cA 0 (B n) 0 0 (CX X K W A B (n + 1)) X') : cA 3 p c n (CX X K W A B n) X' := by
  obtain ⟨u, hu⟩ := h
  exact ⟨u + 1 + 1, (by omega : n < 2147483648), Or.inr ⟨(by omega : ¬ n = 150), (by omega : n < 155), (by show K n < _; omega), Or.inr ⟨(by show ¬ K n = 99; omega), (by omega : n < 155), hu⟩⟩⟩
theorem ca_3n {c : Nat} (hX : TX f L X) (hn : n < 150) (hk : K n = 99) (h : cA 0 L 0 0 (CX X K W A B (n + 1)) X') : cA 3 p c n (CX X K W A B n) X' := by
  obtain ⟨u, hu⟩ := h
  have e : L = r_length (CX X K W A B n) := hX.1.symm
  rw [e] at hu
  exact ⟨u + 1 + 1, (by omega : n < 2147483648), Or.inr ⟨(by omega : ¬ n = 150), (by omega : n < 155), (by show K n < _; omega), Or.inl ⟨hk, hu⟩⟩⟩
theorem ca_3x {c : Nat} (hX : TX f L X) (h : cA 0 L 0 0 (CX X (va_up K 150 99) W A B 151) X') : cA 3 p c 150 (CX X K W A B 150) X' := by
  obtain ⟨u, hu⟩ := h
  have e : L = r_length (CX X (va_up K 150 99) W A B 150) := hX.1.symm
  rw [e] at hu
  exact ⟨u + 1 + 1, (by decide : 150 < 2147483648), Or.inl ⟨rfl, (by decide : 150 < 155), (by decide : 150 < 155), (by show va_up K 150 99 150 < _; exact (by decide : 99 < 2147483648)), Or.inl ⟨rfl, hu⟩⟩⟩
def zr (K : Nat → Nat) (n : Nat) (j : Nat) : Nat := if n ≤ j ∧ j < 155 then 0 else K j
theorem ca_5 : ∀ (r n : Nat) (K : Nat → Nat) (t : Nat), n + r = 155 → cA 5 0 n 0 (CX X K W A B t) (CX X (zr K n) W A B t) := by
  intro r
  induction r with
  | zero =>
    intro n K t hn
    refine ⟨1, (by omega : n < 2147483648), Or.inl ⟨(by omega : 155 ≤ n), ?_⟩⟩
    have e : zr K n = K := by
      funext j
      unfold zr
      rw [if_neg (by omega)]
    rw [e]
  | succ r ih =>
    intro n K t hn
    obtain ⟨u, hu⟩ := ih (n + 1) (va_up K n 0) t (by omega)
    have e : zr (va_up K n 0) (n + 1) = zr K n := by
      funext j
      unfold zr va_up
      by_cases h1 : j = n
      · rw [if_neg (by omega), if_pos h1, if_pos (by omega)]
      · rw [if_neg h1]
        by_cases h2 : n ≤ j ∧ j < 155
        · rw [if_pos h2, if_pos (by omega)]
        · rw [if_neg h2, if_neg (by omega)]
    rw [e] at hu
    exact ⟨u + 1, (by omega : n < 2147483648), Or.inr ⟨(by omega : ¬ 155 ≤ n), (by omega : n < 155), hu⟩⟩
theorem ca_end (hX : TX f L X) (hn : n < 155) : cA 0 L 0 0 (CX X K W A B n) (CX X (zr K n) W A B n) := by
  obtain ⟨u, hu⟩ := ca_5 (X := X) (W := W) (A := A) (B := B) (155 - n) n K n (by omega)
  obtain ⟨x1, x2, x3, x4⟩ := hX
  exact ⟨u + 1, (by omega : L < 2147483648), (by show r_length X < _; omega), Or.inl ⟨(by show r_length X ≤ L; omega), hu⟩⟩
end
