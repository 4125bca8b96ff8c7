/-! ===== words spelled ===== -/
theorem sp_1 {f : Nat → Nat} {p x0 : Nat} (e0 : f (p + 0) = x0) (b0 : x0 < 128) (h0 : 97 ≤ x0) : ∀ k, k < 10 → tk_sp f (p + 1) p k = decide (pkw f 1 p 0 = pk k) := by
  have hN : pkw f 1 p 0 = x0 := by
    rw [← e0]
    show (0 * 256 + f p)  = _
    rw [Nat.zero_mul, Nat.zero_add]
    rfl
  have hl : p + 1 - p = 1 := by omega
  intro k hk
  unfold tk_sp
  rw [hl, hN]
  rcases (by omega : k = 0 ∨ k = 1 ∨ k = 2 ∨ k = 3 ∨ k = 4 ∨ k = 5 ∨ k = 6 ∨ k = 7 ∨ k = 8 ∨ k = 9) with e | e | e | e | e | e | e | e | e | e <;> subst e
  · rw [if_neg (by decide)]; symm; rw [decide_eq_false_iff_not]; show ¬ _ = 7758194; omega
  · rw [if_neg (by decide)]; symm; rw [decide_eq_false_iff_not]; show ¬ _ = 1886547811; omega
  · rw [if_neg (by decide)]; symm; rw [decide_eq_false_iff_not]; show ¬ _ = 422608071022; omega
  · rw [if_neg (by decide)]; symm; rw [decide_eq_false_iff_not]; show ¬ _ = 6647396; omega
  · rw [if_neg (by decide)]; symm; rw [decide_eq_false_iff_not]; show ¬ _ = 26982; omega
  · rw [if_neg (by decide)]; symm; rw [decide_eq_false_iff_not]; show ¬ _ = 1952998766; omega
  · rw [if_neg (by decide)]; symm; rw [decide_eq_false_iff_not]; show ¬ _ = 1701606245; omega
  · rw [if_neg (by decide)]; symm; rw [decide_eq_false_iff_not]; show ¬ _ = 512852847717; omega
  · rw [if_neg (by decide)]; symm; rw [decide_eq_false_iff_not]; show ¬ _ = 25711; omega
  · rw [if_neg (by decide)]; symm; rw [decide_eq_false_iff_not]; show ¬ _ = 513020621925; omega
theorem sp_2 {f : Nat → Nat} {p x0 x1 : Nat} (e0 : f (p + 0) = x0) (e1 : f (p + 1) = x1) (b0 : x0 < 128) (b1 : x1 < 128) (h0 : 97 ≤ x0) : ∀ k, k < 10 → tk_sp f (p + 2) p k = decide (pkw f 2 p 0 = pk k) := by
  have hN : pkw f 2 p 0 = (x0) * 256 + x1 := by
    rw [← e0]
    rw [← e1]
    show (0 * 256 + f p) * 256 + f (p + 1)  = _
    rw [Nat.zero_mul, Nat.zero_add]
    rfl
  have hl : p + 2 - p = 2 := by omega
  intro k hk
  unfold tk_sp
  rw [hl, hN]
  rcases (by omega : k = 0 ∨ k = 1 ∨ k = 2 ∨ k = 3 ∨ k = 4 ∨ k = 5 ∨ k = 6 ∨ k = 7 ∨ k = 8 ∨ k = 9) with e | e | e | e | e | e | e | e | e | e <;> subst e
  · rw [if_neg (by decide)]; symm; rw [decide_eq_false_iff_not]; show ¬ _ = 7758194; omega
  · rw [if_neg (by decide)]; symm; rw [decide_eq_false_iff_not]; show ¬ _ = 1886547811; omega
  · rw [if_neg (by decide)]; symm; rw [decide_eq_false_iff_not]; show ¬ _ = 422608071022; omega
  · rw [if_neg (by decide)]; symm; rw [decide_eq_false_iff_not]; show ¬ _ = 6647396; omega
  · rw [if_pos (by decide)]
    show (if 105 = f (p + 0) then (if 102 = f (p + 1) then true else false) else false) = decide (_ = pk 4)
    rw [show pk 4 = 26982 from rfl]
    rw [e0, e1]
    repeat' split
    all_goals (symm; first | (rw [decide_eq_true_iff]; omega) | (rw [decide_eq_false_iff_not]; omega))
  · rw [if_neg (by decide)]; symm; rw [decide_eq_false_iff_not]; show ¬ _ = 1952998766; omega
  · rw [if_neg (by decide)]; symm; rw [decide_eq_false_iff_not]; show ¬ _ = 1701606245; omega
  · rw [if_neg (by decide)]; symm; rw [decide_eq_false_iff_not]; show ¬ _ = 512852847717; omega
  · rw [if_pos (by decide)]
    show (if 100 = f (p + 0) then (if 111 = f (p + 1) then true else false) else false) = decide (_ = pk 8)
    rw [show pk 8 = 25711 from rfl]
    rw [e0, e1]
    repeat' split
    all_goals (symm; first | (rw [decide_eq_true_iff]; omega) | (rw [decide_eq_false_iff_not]; omega))
  · rw [if_neg (by decide)]; symm; rw [decide_eq_false_iff_not]; show ¬ _ = 513020621925; omega
theorem sp_3 {f : Nat → Nat} {p x0 x1 x2 : Nat} (e0 : f (p + 0) = x0) (e1 : f (p + 1) = x1) (e2 : f (p + 2) = x2) (b0 : x0 < 128) (b1 : x1 < 128) (b2 : x2 < 128) (h0 : 97 ≤ x0) : ∀ k, k < 10 → tk_sp f (p + 3) p k = decide (pkw f 3 p 0 = pk k) := by
  have hN : pkw f 3 p 0 = ((x0) * 256 + x1) * 256 + x2 := by
    rw [← e0]
    rw [← e1]
    rw [← e2]
    show ((0 * 256 + f p) * 256 + f (p + 1)) * 256 + f (p + 2)  = _
    rw [Nat.zero_mul, Nat.zero_add]
    rfl
  have hl : p + 3 - p = 3 := by omega
  intro k hk
  unfold tk_sp
  rw [hl, hN]
  rcases (by omega : k = 0 ∨ k = 1 ∨ k = 2 ∨ k = 3 ∨ k = 4 ∨ k = 5 ∨ k = 6 ∨ k = 7 ∨ k = 8 ∨ k = 9) with e | e | e | e | e | e | e | e | e | e <;> subst e
  · rw [if_pos (by decide)]
    show (if 118 = f (p + 0) then (if 97 = f (p + 1) then (if 114 = f (p + 2) then true else false) else false) else false) = decide (_ = pk 0)
    rw [show pk 0 = 7758194 from rfl]
    rw [e0, e1, e2]
    repeat' split
    all_goals (symm; first | (rw [decide_eq_true_iff]; omega) | (rw [decide_eq_false_iff_not]; omega))
  · rw [if_neg (by decide)]; symm; rw [decide_eq_false_iff_not]; show ¬ _ = 1886547811; omega
  · rw [if_neg (by decide)]; symm; rw [decide_eq_false_iff_not]; show ¬ _ = 422608071022; omega
  · rw [if_pos (by decide)]
    show (if 101 = f (p + 0) then (if 110 = f (p + 1) then (if 100 = f (p + 2) then true else false) else false) else false) = decide (_ = pk 3)
    rw [show pk 3 = 6647396 from rfl]
    rw [e0, e1, e2]
    repeat' split
    all_goals (symm; first | (rw [decide_eq_true_iff]; omega) | (rw [decide_eq_false_iff_not]; omega))
  · rw [if_neg (by decide)]; symm; rw [decide_eq_false_iff_not]; show ¬ _ = 26982; omega
  · rw [if_neg (by decide)]; symm; rw [decide_eq_false_iff_not]; show ¬ _ = 1952998766; omega
  · rw [if_neg (by decide)]; symm; rw [decide_eq_false_iff_not]; show ¬ _ = 1701606245; omega
  · rw [if_neg (by decide)]; symm; rw [decide_eq_false_iff_not]; show ¬ _ = 512852847717; omega
  · rw [if_neg (by decide)]; symm; rw [decide_eq_false_iff_not]; show ¬ _ = 25711; omega
  · rw [if_neg (by decide)]; symm; rw [decide_eq_false_iff_not]; show ¬ _ = 513020621925; omega
theorem sp_4 {f : Nat → Nat} {p x0 x1 x2 x3 : Nat} (e0 : f (p + 0) = x0) (e1 : f (p + 1) = x1) (e2 : f (p + 2) = x2) (e3 : f (p + 3) = x3) (b0 : x0 < 128) (b1 : x1 < 128) (b2 : x2 < 128) (b3 : x3 < 128) (h0 : 97 ≤ x0) : ∀ k, k < 10 → tk_sp f (p + 4) p k = decide (pkw f 4 p 0 = pk k) := by
  have hN : pkw f 4 p 0 = (((x0) * 256 + x1) * 256 + x2) * 256 + x3 := by
    rw [← e0]
    rw [← e1]
    rw [← e2]
    rw [← e3]
    show (((0 * 256 + f p) * 256 + f (p + 1)) * 256 + f (p + 2)) * 256 + f (p + 3)  = _
    rw [Nat.zero_mul, Nat.zero_add]
    rfl
  have hl : p + 4 - p = 4 := by omega
  intro k hk
  unfold tk_sp
  rw [hl, hN]
  rcases (by omega : k = 0 ∨ k = 1 ∨ k = 2 ∨ k = 3 ∨ k = 4 ∨ k = 5 ∨ k = 6 ∨ k = 7 ∨ k = 8 ∨ k = 9) with e | e | e | e | e | e | e | e | e | e <;> subst e
  · rw [if_neg (by decide)]; symm; rw [decide_eq_false_iff_not]; show ¬ _ = 7758194; omega
  · rw [if_pos (by decide)]
    show (if 112 = f (p + 0) then (if 114 = f (p + 1) then (if 111 = f (p + 2) then (if 99 = f (p + 3) then true else false) else false) else false) else false) = decide (_ = pk 1)
    rw [show pk 1 = 1886547811 from rfl]
    rw [e0, e1, e2, e3]
    repeat' split
    all_goals (symm; first | (rw [decide_eq_true_iff]; omega) | (rw [decide_eq_false_iff_not]; omega))
  · rw [if_neg (by decide)]; symm; rw [decide_eq_false_iff_not]; show ¬ _ = 422608071022; omega
  · rw [if_neg (by decide)]; symm; rw [decide_eq_false_iff_not]; show ¬ _ = 6647396; omega
  · rw [if_neg (by decide)]; symm; rw [decide_eq_false_iff_not]; show ¬ _ = 26982; omega
  · rw [if_pos (by decide)]
    show (if 116 = f (p + 0) then (if 104 = f (p + 1) then (if 101 = f (p + 2) then (if 110 = f (p + 3) then true else false) else false) else false) else false) = decide (_ = pk 5)
    rw [show pk 5 = 1952998766 from rfl]
    rw [e0, e1, e2, e3]
    repeat' split
    all_goals (symm; first | (rw [decide_eq_true_iff]; omega) | (rw [decide_eq_false_iff_not]; omega))
  · rw [if_pos (by decide)]
    show (if 101 = f (p + 0) then (if 108 = f (p + 1) then (if 115 = f (p + 2) then (if 101 = f (p + 3) then true else false) else false) else false) else false) = decide (_ = pk 6)
    rw [show pk 6 = 1701606245 from rfl]
    rw [e0, e1, e2, e3]
    repeat' split
    all_goals (symm; first | (rw [decide_eq_true_iff]; omega) | (rw [decide_eq_false_iff_not]; omega))
  · rw [if_neg (by decide)]; symm; rw [decide_eq_false_iff_not]; show ¬ _ = 512852847717; omega
  · rw [if_neg (by decide)]; symm; rw [decide_eq_false_iff_not]; show ¬ _ = 25711; omega
  · rw [if_neg (by decide)]; symm; rw [decide_eq_false_iff_not]; show ¬ _ = 513020621925; omega
theorem sp_5 {f : Nat → Nat} {p x0 x1 x2 x3 x4 : Nat} (e0 : f (p + 0) = x0) (e1 : f (p + 1) = x1) (e2 : f (p + 2) = x2) (e3 : f (p + 3) = x3) (e4 : f (p + 4) = x4) (b0 : x0 < 128) (b1 : x1 < 128) (b2 : x2 < 128) (b3 : x3 < 128) (b4 : x4 < 128) (h0 : 97 ≤ x0) : ∀ k, k < 10 → tk_sp f (p + 5) p k = decide (pkw f 5 p 0 = pk k) := by
  have hN : pkw f 5 p 0 = ((((x0) * 256 + x1) * 256 + x2) * 256 + x3) * 256 + x4 := by
    rw [← e0]
    rw [← e1]
    rw [← e2]
    rw [← e3]
    rw [← e4]
    show ((((0 * 256 + f p) * 256 + f (p + 1)) * 256 + f (p + 2)) * 256 + f (p + 3)) * 256 + f (p + 4)  = _
    rw [Nat.zero_mul, Nat.zero_add]
    rfl
  have hl : p + 5 - p = 5 := by omega
  intro k hk
  unfold tk_sp
  rw [hl, hN]
  rcases (by omega : k = 0 ∨ k = 1 ∨ k = 2 ∨ k = 3 ∨ k = 4 ∨ k = 5 ∨ k = 6 ∨ k = 7 ∨ k = 8 ∨ k = 9) with e | e | e | e | e | e | e | e | e | e <;> subst e
  · rw [if_neg (by decide)]; symm; rw [decide_eq_false_iff_not]; show ¬ _ = 7758194; omega
  · rw [if_neg (by decide)]; symm; rw [decide_eq_false_iff_not]; show ¬ _ = 1886547811; omega
  · rw [if_pos (by decide)]
    show (if 98 = f (p + 0) then (if 101 = f (p + 1) then (if 103 = f (p + 2) then (if 105 = f (p + 3) then (if 110 = f (p + 4) then true else false) else false) else false) else false) else false) = decide (_ = pk 2)
    rw [show pk 2 = 422608071022 from rfl]
    rw [e0, e1, e2, e3, e4]
    repeat' split
    all_goals (symm; first | (rw [decide_eq_true_iff]; omega) | (rw [decide_eq_false_iff_not]; omega))
  · rw [if_neg (by decide)]; symm; rw [decide_eq_false_iff_not]; show ¬ _ = 6647396; omega
  · rw [if_neg (by decide)]; symm; rw [decide_eq_false_iff_not]; show ¬ _ = 26982; omega
  · rw [if_neg (by decide)]; symm; rw [decide_eq_false_iff_not]; show ¬ _ = 1952998766; omega
  · rw [if_neg (by decide)]; symm; rw [decide_eq_false_iff_not]; show ¬ _ = 1701606245; omega
  · rw [if_pos (by decide)]
    show (if 119 = f (p + 0) then (if 104 = f (p + 1) then (if 105 = f (p + 2) then (if 108 = f (p + 3) then (if 101 = f (p + 4) then true else false) else false) else false) else false) else false) = decide (_ = pk 7)
    rw [show pk 7 = 512852847717 from rfl]
    rw [e0, e1, e2, e3, e4]
    repeat' split
    all_goals (symm; first | (rw [decide_eq_true_iff]; omega) | (rw [decide_eq_false_iff_not]; omega))
  · rw [if_neg (by decide)]; symm; rw [decide_eq_false_iff_not]; show ¬ _ = 25711; omega
  · rw [if_pos (by decide)]
    show (if 119 = f (p + 0) then (if 114 = f (p + 1) then (if 105 = f (p + 2) then (if 116 = f (p + 3) then (if 101 = f (p + 4) then true else false) else false) else false) else false) else false) = decide (_ = pk 9)
    rw [show pk 9 = 513020621925 from rfl]
    rw [e0, e1, e2, e3, e4]
    repeat' split
    all_goals (symm; first | (rw [decide_eq_true_iff]; omega) | (rw [decide_eq_false_iff_not]; omega))
theorem sp_6 {f : Nat → Nat} {p x0 x1 x2 x3 x4 x5 : Nat} (e0 : f (p + 0) = x0) (e1 : f (p + 1) = x1) (e2 : f (p + 2) = x2) (e3 : f (p + 3) = x3) (e4 : f (p + 4) = x4) (e5 : f (p + 5) = x5) (b0 : x0 < 128) (b1 : x1 < 128) (b2 : x2 < 128) (b3 : x3 < 128) (b4 : x4 < 128) (b5 : x5 < 128) (h0 : 97 ≤ x0) : ∀ k, k < 10 → tk_sp f (p + 6) p k = decide (pkw f 6 p 0 = pk k) := by
  have hN : pkw f 6 p 0 = (((((x0) * 256 + x1) * 256 + x2) * 256 + x3) * 256 + x4) * 256 + x5 := by
    rw [← e0]
    rw [← e1]
    rw [← e2]
    rw [← e3]
    rw [← e4]
    rw [← e5]
    show (((((0 * 256 + f p) * 256 + f (p + 1)) * 256 + f (p + 2)) * 256 + f (p + 3)) * 256 + f (p + 4)) * 256 + f (p + 5)  = _
    rw [Nat.zero_mul, Nat.zero_add]
    rfl
  have hl : p + 6 - p = 6 := by omega
  intro k hk
  unfold tk_sp
  rw [hl, hN]
  rcases (by omega : k = 0 ∨ k = 1 ∨ k = 2 ∨ k = 3 ∨ k = 4 ∨ k = 5 ∨ k = 6 ∨ k = 7 ∨ k = 8 ∨ k = 9) with e | e | e | e | e | e | e | e | e | e <;> subst e
  · rw [if_neg (by decide)]; symm; rw [decide_eq_false_iff_not]; show ¬ _ = 7758194; omega
  · rw [if_neg (by decide)]; symm; rw [decide_eq_false_iff_not]; show ¬ _ = 1886547811; omega
  · rw [if_neg (by decide)]; symm; rw [decide_eq_false_iff_not]; show ¬ _ = 422608071022; omega
  · rw [if_neg (by decide)]; symm; rw [decide_eq_false_iff_not]; show ¬ _ = 6647396; omega
  · rw [if_neg (by decide)]; symm; rw [decide_eq_false_iff_not]; show ¬ _ = 26982; omega
  · rw [if_neg (by decide)]; symm; rw [decide_eq_false_iff_not]; show ¬ _ = 1952998766; omega
  · rw [if_neg (by decide)]; symm; rw [decide_eq_false_iff_not]; show ¬ _ = 1701606245; omega
  · rw [if_neg (by decide)]; symm; rw [decide_eq_false_iff_not]; show ¬ _ = 512852847717; omega
  · rw [if_neg (by decide)]; symm; rw [decide_eq_false_iff_not]; show ¬ _ = 25711; omega
  · rw [if_neg (by decide)]; symm; rw [decide_eq_false_iff_not]; show ¬ _ = 513020621925; omega
theorem sp_lo {f : Nat → Nat} {p l : Nat} (h1 : 1 ≤ l) (h6 : l ≤ 6) (hc : ∀ j, j < l → f (p + j) < 128) (h0 : 97 ≤ f p) : ∀ k, k < 10 → tk_sp f (p + l) p k = decide (pkw f l p 0 = pk k) := by
  rcases (by omega : l = 1 ∨ l = 2 ∨ l = 3 ∨ l = 4 ∨ l = 5 ∨ l = 6) with e | e | e | e | e | e <;> subst e
  · exact sp_1 rfl (hc 0 (by decide)) h0
  · exact sp_2 rfl rfl (hc 0 (by decide)) (hc 1 (by decide)) h0
  · exact sp_3 rfl rfl rfl (hc 0 (by decide)) (hc 1 (by decide)) (hc 2 (by decide)) h0
  · exact sp_4 rfl rfl rfl rfl (hc 0 (by decide)) (hc 1 (by decide)) (hc 2 (by decide)) (hc 3 (by decide)) h0
  · exact sp_5 rfl rfl rfl rfl rfl (hc 0 (by decide)) (hc 1 (by decide)) (hc 2 (by decide)) (hc 3 (by decide)) (hc 4 (by decide)) h0
  · exact sp_6 rfl rfl rfl rfl rfl rfl (hc 0 (by decide)) (hc 1 (by decide)) (hc 2 (by decide)) (hc 3 (by decide)) (hc 4 (by decide)) (hc 5 (by decide)) h0
theorem sp_hi {f : Nat → Nat} {p l : Nat} (h1 : 1 ≤ l) (h0 : 97 ≤ f p) : ∀ k, 10 ≤ k → k < 29 → tk_sp f (p + l) p k = false := by
  intro k h10 h29
  have hl : p + l - p = l := by omega
  unfold tk_sp
  rw [hl]
  split
  · have key : ∀ j, j < 29 → 10 ≤ j → 1 ≤ (spl j).length → (spl j).getD 0 0 < 97 ∧ 1 ≤ (spl j).length := by decide +kernel
    rename_i hs
    have := key k h29 h10 (by omega)
    obtain ⟨n, hn⟩ : ∃ n, (spl k).length = n + 1 := ⟨(spl k).length - 1, by omega⟩
    rw [hn]
    unfold tk_eqs
    rw [if_neg (by rw [Nat.add_zero]; omega)]
  · rfl
def ch10 (n : Nat) : Nat → Nat → Option Nat
  | 0, _ => none
  | j + 1, i => if n = pk i then some i else ch10 n j (i + 1)
theorem find_hi {f : Nat → Nat} {E p : Nat} (h : ∀ k, 10 ≤ k → k < 29 → tk_sp f E p k = false) : ∀ n i, 10 ≤ i → i + n = 29 → tk_find f E p n i = none := by
  intro n
  induction n with
  | zero => intro i _ _; rfl
  | succ n ih => intro i h1 h2; unfold tk_find; rw [h i h1 (by omega), if_neg (by decide), ih (i + 1) (by omega) (by omega)]
theorem find_lo {f : Nat → Nat} {E p N : Nat} (h : ∀ k, 10 ≤ k → k < 29 → tk_sp f E p k = false) (hl : ∀ k, k < 10 → tk_sp f E p k = decide (N = pk k)) : ∀ n i, i + n = 29 → i ≤ 10 → tk_find f E p n i = ch10 N (10 - i) i := by
  intro n
  induction n with
  | zero => intro i h1 h2; exact absurd h1 (by omega)
  | succ n ih =>
    intro i h1 h2
    rcases Nat.eq_or_lt_of_le h2 with e | e
    · subst e
      exact find_hi h _ _ (Nat.le_refl _) h1
    · have e1 : 10 - i = (10 - (i + 1)) + 1 := by omega
      rw [e1]
      unfold tk_find ch10
      rw [hl i e, ih (i + 1) (by omega) (by omega)]
      by_cases hq : N = pk i
      · rw [if_pos hq, if_pos (by rw [decide_eq_true_iff]; exact hq)]
      · rw [if_neg hq, if_neg (by rw [decide_eq_true_iff]; exact hq)]
theorem wkn_ch {n : Nat} : kap ((ch10 n 10 0).getD 25) = wkn n ∧ ((ch10 n 10 0).getD 25 < 10 ∨ (ch10 n 10 0).getD 25 = 25) := by
  show kap ((if n = 7758194 then some 0 else if n = 1886547811 then some 1 else if n = 422608071022 then some 2 else if n = 6647396 then some 3 else if n = 26982 then some 4 else if n = 1952998766 then some 5 else if n = 1701606245 then some 6 else if n = 512852847717 then some 7 else if n = 25711 then some 8 else if n = 513020621925 then some 9 else none).getD 25) = wkn n ∧ ((if n = 7758194 then some 0 else if n = 1886547811 then some 1 else if n = 422608071022 then some 2 else if n = 6647396 then some 3 else if n = 26982 then some 4 else if n = 1952998766 then some 5 else if n = 1701606245 then some 6 else if n = 512852847717 then some 7 else if n = 25711 then some 8 else if n = 513020621925 then some 9 else none).getD 25 < 10 ∨ (if n = 7758194 then some 0 else if n = 1886547811 then some 1 else if n = 422608071022 then some 2 else if n = 6647396 then some 3 else if n = 26982 then some 4 else if n = 1952998766 then some 5 else if n = 1701606245 then some 6 else if n = 512852847717 then some 7 else if n = 25711 then some 8 else if n = 513020621925 then some 9 else none).getD 25 = 25)
  unfold wkn
  by_cases q0 : n = 7758194
  · rw [if_pos q0, if_pos q0]; decide
  rw [if_neg q0, if_neg q0]
  by_cases q1 : n = 1886547811
  · rw [if_pos q1, if_pos q1]; decide
  rw [if_neg q1, if_neg q1]
  by_cases q2 : n = 422608071022
  · rw [if_pos q2, if_pos q2]; decide
  rw [if_neg q2, if_neg q2]
  by_cases q3 : n = 6647396
  · rw [if_pos q3, if_pos q3]; decide
  rw [if_neg q3, if_neg q3]
  by_cases q4 : n = 26982
  · rw [if_pos q4, if_pos q4]; decide
  rw [if_neg q4, if_neg q4]
  by_cases q5 : n = 1952998766
  · rw [if_pos q5, if_pos q5]; decide
  rw [if_neg q5, if_neg q5]
  by_cases q6 : n = 1701606245
  · rw [if_pos q6, if_pos q6]; decide
  rw [if_neg q6, if_neg q6]
  by_cases q7 : n = 512852847717
  · rw [if_pos q7, if_pos q7]; decide
  rw [if_neg q7, if_neg q7]
  by_cases q8 : n = 25711
  · rw [if_pos q8, if_pos q8]; decide
  rw [if_neg q8, if_neg q8]
  by_cases q9 : n = 513020621925
  · rw [if_pos q9, if_pos q9]; decide
  rw [if_neg q9, if_neg q9]
  decide
theorem pkw_lt {f : Nat → Nat} (hf : ∀ j, f j < 256) : ∀ n p a, pkw f n p a < (a + 1) * 256 ^ n := by
  intro n
  induction n with
  | zero => intro p a; show a < (a + 1) * 1; omega
  | succ n ih =>
    intro p a
    show pkw f n (p + 1) (a * 256 + f p) < _
    refine Nat.lt_of_lt_of_le (ih _ _) ?_
    rw [Nat.pow_succ, Nat.mul_comm (256 ^ n) 256, ← Nat.mul_assoc]
    exact Nat.mul_le_mul_right _ (by have := hf p; omega)
/-- a word's kind -/
theorem word_kind {f : Nat → Nat} (hf : ∀ j, f j < 128) {n p : Nat} (h0 : isL (f p) = true) (h1 : p < (tk_word f n p (lN 0)).1) (h6 : (tk_word f n p (lN 0)).1 - p ≤ 6) : kap ((tk_find f (tk_word f n p (lN 0)).1 p 29 0).getD 25) = wk (tk_word f n p (lN 0)).2 ∧ ((tk_find f (tk_word f n p (lN 0)).1 p 29 0).getD 25 < 10 ∨ (tk_find f (tk_word f n p (lN 0)).1 p 29 0).getD 25 = 25) := by
  have hf2 : ∀ j, f j < 256 := fun j => Nat.lt_trans (hf j) (by decide)
  obtain ⟨a1, a2, a3, a4⟩ := tk_word_val hf2 n p 0
  have g0 := (isL_iff.1 h0).1
  obtain ⟨l, hl⟩ : ∃ l, (tk_word f n p (lN 0)).1 = p + l := ⟨(tk_word f n p (lN 0)).1 - p, by omega⟩
  have hN : pkw f l p 0 < 2 ^ 63 := by
    refine Nat.lt_of_lt_of_le (pkw_lt hf2 l p 0) ?_
    rw [Nat.zero_add, Nat.one_mul]
    have : 256 ^ l ≤ 256 ^ 6 := Nat.pow_le_pow_right (by decide) (by omega)
    exact Nat.le_trans this (by decide)
  rw [a3, hl, show p + l - p = l by omega, wk_lN hN]
  have e := find_lo (N := pkw f l p 0) (sp_hi (f := f) (p := p) (l := l) (by omega) g0) (sp_lo (by omega) (by omega) (fun j _ => hf (p + j)) g0) 29 0 rfl (by decide)
  rw [e]
  exact wkn_ch
