/-! ===== words packed ===== -/
def pkw (f : Nat → Nat) : Nat → Nat → Nat → Nat
  | 0, _, a => a
  | n + 1, p, a => pkw f n (p + 1) (a * 256 + f p)
theorem nI_L {c : Nat} (h : c < 2 ^ 31) : (nI c).toInt64 = lN c := by
  rw [← Int64.toInt_inj, Int32.toInt_toInt64]
  show (Int32.ofNat c).toInt = (Int64.ofNat c).toInt
  rw [Int32.toInt_ofNat_of_lt (by omega), Int64.toInt_ofNat_of_lt (by omega)]
theorem sh8 {a c : Nat} (hc : c < 256) : lN a <<< ((nI 8).toInt64 &&& 63) ||| (nI c).toInt64 = lN (a * 256 + c) := by
  rw [nI_L (c := c) (by omega), show ((nI 8).toInt64 &&& 63) = lN 8 from by decide +kernel]
  rw [← Int64.toBitVec_inj, Int64.toBitVec_or, Int64.toBitVec_shiftLeft]
  rw [show (lN 8).toBitVec.smod 64 = 8#64 from by decide +kernel]
  show (BitVec.ofNat 64 a <<< 8#64) ||| BitVec.ofNat 64 c = BitVec.ofNat 64 (a * 256 + c)
  apply BitVec.eq_of_toNat_eq
  rw [BitVec.toNat_or, BitVec.shiftLeft_eq', BitVec.toNat_shiftLeft, BitVec.toNat_ofNat, BitVec.toNat_ofNat, BitVec.toNat_ofNat, BitVec.toNat_ofNat]
  have e1 : 8 % 2 ^ 64 = 8 := rfl
  rw [e1, Nat.mod_eq_of_lt (show c < 2 ^ 64 by omega)]
  have e2 : ((a % 2 ^ 64) <<< 8) % 2 ^ 64 = (a % 2 ^ 56) <<< 8 := by
    rw [Nat.shiftLeft_eq, Nat.shiftLeft_eq]; omega
  rw [e2, ← Nat.shiftLeft_add_eq_or_of_lt (show c < 2 ^ 8 by omega), Nat.shiftLeft_eq]
  omega
theorem tk_word_val {f : Nat → Nat} (hf : ∀ j, f j < 256) : ∀ (n p a : Nat), p ≤ (tk_word f n p (lN a)).1 ∧ (tk_word f n p (lN a)).1 ≤ p + n ∧ (tk_word f n p (lN a)).2 = lN (pkw f ((tk_word f n p (lN a)).1 - p) p a) ∧ ∀ j, p ≤ j → j < (tk_word f n p (lN a)).1 → (isL (f j) || isD (f j)) = true := by
  intro n
  induction n with
  | zero => intro p a; exact ⟨Nat.le_refl _, Nat.le_refl _, by show lN a = lN (pkw f (p - p) p a); rw [Nat.sub_self]; rfl, fun j h1 h2 => absurd h2 (by show ¬ j < p; omega)⟩
  | succ n ih =>
    intro p a
    unfold tk_word
    by_cases hc : (isL (f p) || isD (f p)) = true
    · rw [if_pos hc, sh8 (hf p)]
      obtain ⟨h1, h2, h3, h4⟩ := ih (p + 1) (a * 256 + f p)
      refine ⟨by omega, by omega, ?_, ?_⟩
      · rw [h3]
        have : (tk_word f n (p + 1) (lN (a * 256 + f p))).1 - p = ((tk_word f n (p + 1) (lN (a * 256 + f p))).1 - (p + 1)) + 1 := by omega
        rw [this]
        rfl
      · intro j hj1 hj2
        rcases Nat.eq_or_lt_of_le hj1 with e | e
        · rw [← e]; exact hc
        · exact h4 j (by omega) hj2
    · rw [if_neg hc]
      exact ⟨Nat.le_refl _, by show p ≤ _; omega, by show lN a = lN (pkw f (p - p) p a); rw [Nat.sub_self]; rfl, fun j h1 h2 => absurd h2 (by show ¬ j < p; omega)⟩
theorem tk_word_ge {f : Nat → Nat} : ∀ (N p : Nat) (v : Int64), p ≤ (tk_word f N p v).1 := by
  intro N
  induction N with
  | zero => intro p v; exact Nat.le_refl _
  | succ N ih =>
    intro p v
    unfold tk_word
    split
    · have := ih (p + 1) (v <<< ((nI 8).toInt64 &&& 63) ||| (nI (f p)).toInt64); omega
    · exact Nat.le_refl _
theorem tk_word_lim {f : Nat → Nat} : ∀ (n N p : Nat) (v : Int64), n ≤ N → ((tk_word f n p v).1 < p + n → tk_word f N p v = tk_word f n p v) ∧ (p + n ≤ (tk_word f n p v).1 → p + n ≤ (tk_word f N p v).1) := by
  intro n
  induction n with
  | zero =>
    intro N p v _
    exact ⟨fun h => absurd h (by show ¬ p < p + 0; omega), fun _ => tk_word_ge N p v⟩
  | succ n ih =>
    intro N p v hN
    obtain ⟨N, rfl⟩ : ∃ M, N = M + 1 := ⟨N - 1, by omega⟩
    unfold tk_word
    split
    · have := ih N (p + 1) (v <<< ((nI 8).toInt64 &&& 63) ||| (nI (f p)).toInt64) (by omega)
      exact ⟨fun h => this.1 (by omega), fun h => by have := this.2 (by omega); omega⟩
    · exact ⟨fun _ => rfl, fun h => h⟩
theorem tk_num_ge {f : Nat → Nat} : ∀ (N p : Nat) (v : Int64), p ≤ (tk_num f N p v).1 := by
  intro N
  induction N with
  | zero => intro p v; exact Nat.le_refl _
  | succ N ih =>
    intro p v
    unfold tk_num
    split
    · have := ih (p + 1) (v * 10 + (nI (f p - 48)).toInt64); omega
    · exact Nat.le_refl _
theorem tk_num_lim {f : Nat → Nat} : ∀ (n N p : Nat) (v : Int64), n ≤ N → ((tk_num f n p v).1 < p + n → tk_num f N p v = tk_num f n p v) ∧ (p + n ≤ (tk_num f n p v).1 → p + n ≤ (tk_num f N p v).1) := by
  intro n
  induction n with
  | zero =>
    intro N p v _
    exact ⟨fun h => absurd h (by show ¬ p < p + 0; omega), fun _ => tk_num_ge N p v⟩
  | succ n ih =>
    intro N p v hN
    obtain ⟨N, rfl⟩ : ∃ M, N = M + 1 := ⟨N - 1, by omega⟩
    unfold tk_num
    split
    · have := ih N (p + 1) (v * 10 + (nI (f p - 48)).toInt64) (by omega)
      exact ⟨fun h => this.1 (by omega), fun h => by have := this.2 (by omega); omega⟩
    · exact ⟨fun _ => rfl, fun h => h⟩
theorem isD_iff {c : Nat} : isD c = true ↔ 48 ≤ c ∧ c ≤ 57 := by unfold isD; simp
theorem isL_iff {c : Nat} : isL c = true ↔ 97 ≤ c ∧ c ≤ 122 := by unfold isL; simp
theorem mul10 {a d : Nat} (hd : d < 256) : lN a * 10 + (nI d).toInt64 = lN (a * 10 + d) := by
  rw [nI_L (by omega)]
  show Int64.ofNat a * 10 + Int64.ofNat d = Int64.ofNat (a * 10 + d)
  rw [Int64.ofNat_add, Int64.ofNat_mul]; rfl
theorem tk_num_val {f : Nat → Nat} : ∀ (n p a : Nat), p ≤ (tk_num f n p (lN a)).1 ∧ (tk_num f n p (lN a)).1 ≤ p + n ∧ ∃ b, (tk_num f n p (lN a)).2 = lN b ∧ b < (a + 1) * 10 ^ ((tk_num f n p (lN a)).1 - p) := by
  intro n
  induction n with
  | zero => intro p a; exact ⟨Nat.le_refl _, Nat.le_refl _, a, rfl, by show a < (a + 1) * 10 ^ (p - p); rw [Nat.sub_self]; omega⟩
  | succ n ih =>
    intro p a
    unfold tk_num
    by_cases hc : isD (f p) = true
    · have hd := isD_iff.1 hc
      rw [if_pos hc, mul10 (by omega)]
      obtain ⟨h1, h2, b, h3, h4⟩ := ih (p + 1) (a * 10 + (f p - 48))
      refine ⟨by omega, by omega, b, h3, ?_⟩
      have : (tk_num f n (p + 1) (lN (a * 10 + (f p - 48)))).1 - p = ((tk_num f n (p + 1) (lN (a * 10 + (f p - 48)))).1 - (p + 1)) + 1 := by omega
      rw [this, Nat.pow_succ]
      refine Nat.lt_of_lt_of_le h4 ?_
      rw [Nat.mul_comm (10 ^ _) 10, ← Nat.mul_assoc]
      exact Nat.mul_le_mul_right _ (by omega)
    · rw [if_neg hc]
      exact ⟨Nat.le_refl _, by show p ≤ _; omega, a, rfl, by show a < (a + 1) * 10 ^ (p - p); rw [Nat.sub_self]; omega⟩
theorem i32n_nI' {p : Nat} (h : p < 2 ^ 32) : i32n (nI p) = p := by
  show (BitVec.ofNat 32 p).toNat = p
  rw [BitVec.toNat_ofNat, Nat.mod_eq_of_lt h]
theorem lN_32 {b : Nat} (h : b < 2 ^ 31) : (lN b).toInt32 = nI b := by
  rw [← nI_L h, Int32.toInt32_toInt64]
/-- nine digits are small -/
theorem num_small {f : Nat → Nat} {n p : Nat} (h : (tk_num f n p (lN 0)).1 - p ≤ 9) : i32n ((tk_num f n p (lN 0)).2).toInt32 < 2 ^ 31 := by
  obtain ⟨h1, h2, b, h3, h4⟩ := tk_num_val (f := f) n p 0
  have : 10 ^ ((tk_num f n p (lN 0)).1 - p) ≤ 10 ^ 9 := Nat.pow_le_pow_right (by decide) h
  have hb : b < 2 ^ 31 := by omega
  rw [h3, lN_32 hb, i32n_nI' (by omega)]
  exact hb
