/-! ===== reading an expression: class and model ===== -/
/-- the model's state, but for the place, the fault, the meanings -/
def EX (X : MS) (a : Nat) (w : Option Nat) (μ : Nat → Nat) : MS := (X.1, (X.2.1.1, X.2.1.2.1, X.2.1.2.2.1, X.2.1.2.2.2.1, μ, X.2.1.2.2.2.2.2.1, X.2.1.2.2.2.2.2.2), X.2.2.1, X.2.2.2.1, (a, w, X.2.2.2.2.1.2.2.1, X.2.2.2.2.1.2.2.2.1, X.2.2.2.2.1.2.2.2.2), X.2.2.2.2.2.1, X.2.2.2.2.2.2)
theorem ex_take_y {X : MS} {a k : Nat} {μ : Nat → Nat} (ha : a < 155) (hk : r_kind X a = k) (hl : k < 2147483648) : mo_take k (EX X a none μ) true (EX X (a + 1) none μ) := mo_take_y (X := EX X a none μ) rfl ha hk hl
theorem ex_take_n {X : MS} {a k : Nat} {μ : Nat → Nat} (ha : a < 155) (hk : ¬ r_kind X a = k) (hb : r_kind X a < 2147483648) (hl : k < 2147483648) : mo_take k (EX X a none μ) false (EX X a none μ) := mo_take_n (X := EX X a none μ) rfl ha hk hb hl
theorem ex_take_w {X : MS} {a k t : Nat} {μ : Nat → Nat} (ht : t < 2147483648) : mo_take k (EX X a (some t) μ) false (EX X a (some t) μ) := mo_take_w (X := EX X a (some t) μ) rfl ht
theorem ex_blame_n {X : MS} {a t : Nat} {μ : Nat → Nat} : mo_blame t (EX X a none μ) (EX X a (some t) μ) := mo_blame_n (X := EX X a none μ) rfl
theorem ex_blame_w {X : MS} {a k t : Nat} {μ : Nat → Nat} (ht : t < 2147483648) : mo_blame k (EX X a (some t) μ) (EX X a (some t) μ) := mo_blame_w (X := EX X a (some t) μ) rfl ht
def xH (d : Nat) (X X' : MS) : Prop := ∃ n, mo_expression_go n 0 d X X'
def xA (d : Nat) (X X' : MS) : Prop := ∃ n, mo_expression_go n 1 d X X'
def xE (d : Nat) (X X' : MS) : Prop := ∃ v X1, mo_take 45 X v X1 ∧ xH d X1 X'
theorem xH_w {X : MS} {a d t : Nat} {μ : Nat → Nat} (ht : t < 2147483648) (hd : d < 2147483648) : xH d (EX X a (some t) μ) (EX X a (some t) μ) := by
  refine ⟨1, ?_⟩
  rw [mo_expression_go]
  refine Or.inr ⟨t, rfl, ht, hd, ?_⟩
  by_cases h : d = 0
  · exact Or.inl ⟨h, rfl⟩
  · exact Or.inr ⟨h, _, ex_blame_w ht, rfl⟩
theorem xE_w {X : MS} {a d t : Nat} {μ : Nat → Nat} (ht : t < 2147483648) (hd : d < 2147483648) : xE d (EX X a (some t) μ) (EX X a (some t) μ) := ⟨false, _, ex_take_w ht, xH_w ht hd⟩
theorem xH_brk {X X' : MS} {a d : Nat} {μ : Nat → Nat} (ha : a < 155) (hk : r_kind X a = 40) (hd : d < 8) (h : xE (d + 1) (EX X (a + 1) none μ) X') : xH d (EX X a none μ) X' := by
  obtain ⟨v, X1, h1, n, h2⟩ := h
  refine ⟨n + 1, ?_⟩
  rw [mo_expression_go]
  have hk2 : r_kind (EX X a none μ) (r_at (EX X a none μ)) = 40 := hk
  exact Or.inl ⟨rfl, ha, by omega, Or.inl ⟨hk2, by omega, Or.inr ⟨by omega, true, _, ex_take_y ha hk (by decide), v, X1, h1, h2⟩⟩⟩
theorem xH_brk8 {X : MS} {a : Nat} {μ : Nat → Nat} (ha : a < 155) (hk : r_kind X a = 40) : xH 8 (EX X a none μ) (EX X a (some a) μ) := by
  obtain ⟨n, h2⟩ := xH_w (X := X) (a := a) (d := 9) (t := a) (μ := μ) (by omega) (by decide)
  refine ⟨n + 1, ?_⟩
  rw [mo_expression_go]
  have hk2 : r_kind (EX X a none μ) (r_at (EX X a none μ)) = 40 := hk
  have h9 : a < 2147483648 := by omega
  exact Or.inl ⟨rfl, ha, by omega, Or.inl ⟨hk2, by decide, Or.inl ⟨rfl, _, ex_blame_n, _, _, ex_take_w h9, _, _, ex_take_w h9, h2⟩⟩⟩
theorem xH_fac {X X1 X' : MS} {a d : Nat} {μ : Nat → Nat} (ha : a < 155) (hk : ¬ r_kind X a = 40) (hb : r_kind X a < 2147483648) (hf : mo_factor (EX X a none μ) X1) (h : xA d X1 X') : xH d (EX X a none μ) X' := by
  obtain ⟨n, h2⟩ := h
  refine ⟨n + 1, ?_⟩
  rw [mo_expression_go]
  exact Or.inl ⟨rfl, ha, hb, Or.inr ⟨hk, X1, hf, h2⟩⟩
theorem xA_w {X : MS} {a d t : Nat} {μ : Nat → Nat} (ht : t < 2147483648) (hd : d < 2147483648) : xA d (EX X a (some t) μ) (EX X a (some t) μ) := by
  refine ⟨1, ?_⟩
  rw [mo_expression_go]
  refine ⟨hd, ?_⟩
  by_cases h : d = 0
  · exact Or.inl ⟨h, Or.inr ⟨t, rfl, ht, rfl⟩⟩
  · exact Or.inr ⟨h, false, _, ex_take_w ht, Or.inr ⟨by decide, Or.inr ⟨t, rfl, ht, _, ex_blame_w ht, rfl⟩⟩⟩
theorem xA_close {X X' : MS} {a d : Nat} {μ : Nat → Nat} (ha : a < 155) (hk : r_kind X a = 41) (hd : d < 8) (h : xA d (EX X (a + 1) none μ) X') : xA (d + 1) (EX X a none μ) X' := by
  obtain ⟨n, h2⟩ := h
  refine ⟨n + 1, ?_⟩
  rw [mo_expression_go]
  exact ⟨by omega, Or.inr ⟨by omega, true, _, ex_take_y ha hk (by decide), Or.inl ⟨rfl, by omega, h2⟩⟩⟩
theorem xA_op {X X' : MS} {a d : Nat} {μ : Nat → Nat} (ha : a < 155) (hk : isOp (r_kind X a) = true) (hb : r_kind X a < 2147483648) (hd : d ≤ 8) (h : xH d (EX X (a + 1) none μ) X') : xA d (EX X a none μ) X' := by
  obtain ⟨n, h2⟩ := h
  have h41 : ¬ r_kind X a = 41 := by intro q; rw [q] at hk; exact absurd hk (by decide)
  refine ⟨n + 1, ?_⟩
  rw [mo_expression_go]
  refine ⟨by omega, ?_⟩
  by_cases h0 : d = 0
  · exact Or.inl ⟨h0, Or.inl ⟨rfl, ha, hb, Or.inl ⟨hk, h2⟩⟩⟩
  · exact Or.inr ⟨h0, false, _, ex_take_n ha h41 hb (by decide), Or.inr ⟨by decide, Or.inl ⟨rfl, ha, hb, Or.inl ⟨hk, h2⟩⟩⟩⟩
theorem xA_end0 {X : MS} {a : Nat} {μ : Nat → Nat} (ha : a < 155) (hk : ¬ isOp (r_kind X a) = true) (hb : r_kind X a < 2147483648) : xA 0 (EX X a none μ) (EX X a none μ) := by
  refine ⟨1, ?_⟩
  rw [mo_expression_go]
  exact ⟨by decide, Or.inl ⟨rfl, Or.inl ⟨rfl, ha, hb, Or.inr ⟨hk, rfl⟩⟩⟩⟩
theorem xA_endN {X : MS} {a d : Nat} {μ : Nat → Nat} (ha : a < 155) (hd : d ≤ 8) (h0 : ¬ d = 0) (h41 : ¬ r_kind X a = 41) (hk : ¬ isOp (r_kind X a) = true) (hb : r_kind X a < 2147483648) : xA d (EX X a none μ) (EX X a (some a) μ) := by
  refine ⟨1, ?_⟩
  rw [mo_expression_go]
  exact ⟨by omega, Or.inr ⟨h0, false, _, ex_take_n ha h41 hb (by decide), Or.inr ⟨by decide, Or.inl ⟨rfl, ha, hb, Or.inr ⟨hk, _, ex_blame_n, rfl⟩⟩⟩⟩⟩
theorem fac_num {X : MS} {a : Nat} {μ : Nat → Nat} (ha : a < 155) (hk : r_kind X a = 2) : mo_factor (EX X a none μ) (EX X (a + 1) none μ) := ⟨true, _, ex_take_y ha hk (by decide), Or.inl ⟨rfl, rfl⟩⟩
theorem fac_bad {X : MS} {a : Nat} {μ : Nat → Nat} (ha : a < 155) (hk : ¬ r_kind X a = 2) (hb : r_kind X a < 2147483648) (h1 : ¬ r_kind X a = 1) : mo_factor (EX X a none μ) (EX X a (some a) μ) :=
  ⟨false, _, ex_take_n ha hk hb (by decide), Or.inr ⟨by decide, Or.inl ⟨rfl, ha, hb, Or.inr ⟨h1, _, ex_blame_n, rfl⟩⟩⟩⟩
theorem fac_un {X : MS} {a : Nat} {μ : Nat → Nat} (ha : a < 155) (h1 : r_kind X a = 1) (hf : mo_find a (EX X a none μ) none (EX X a none μ)) : mo_factor (EX X a none μ) (EX X a (some a) μ) := by
  have h1' : r_kind (EX X a none μ) (r_at (EX X a none μ)) = 1 := h1
  exact ⟨false, _, ex_take_n ha (by omega) (by omega) (by decide), Or.inr ⟨by decide, Or.inl ⟨rfl, ha, by omega, Or.inl ⟨h1', none, _, hf, Or.inl ⟨rfl, _, ex_blame_n, rfl⟩⟩⟩⟩⟩
theorem fac_pr {X : MS} {a s : Nat} {μ : Nat → Nat} (ha : a < 155) (h1 : r_kind X a = 1) (hs : s < 18) (h3 : r_sort X s = 3) (hf : mo_find a (EX X a none μ) (some s) (EX X a none μ)) : mo_factor (EX X a none μ) (EX X a (some a) μ) := by
  have h1' : r_kind (EX X a none μ) (r_at (EX X a none μ)) = 1 := h1
  have h3' : r_sort (EX X a none μ) s = 3 := h3
  exact ⟨false, _, ex_take_n ha (by omega) (by omega) (by decide), Or.inr ⟨by decide, Or.inl ⟨rfl, ha, by omega, Or.inl ⟨h1', some s, _, hf, Or.inr ⟨s, rfl, by omega, hs, by omega, Or.inl ⟨h3', _, ex_blame_n, rfl⟩⟩⟩⟩⟩⟩
theorem fac_var {X : MS} {a s : Nat} {μ : Nat → Nat} (ha : a < 155) (h1 : r_kind X a = 1) (hs : s < 18) (h3 : ¬ r_sort X s = 3) (hb : r_sort X s < 2147483648) (hf : mo_find a (EX X a none μ) (some s) (EX X a none μ)) : mo_factor (EX X a none μ) (EX X (a + 1) none (va_up μ a s)) := by
  have h1' : r_kind (EX X a none μ) (r_at (EX X a none μ)) = 1 := h1
  exact ⟨false, _, ex_take_n ha (by omega) (by omega) (by decide), Or.inr ⟨by decide, Or.inl ⟨rfl, ha, by omega, Or.inl ⟨h1', some s, _, hf, Or.inr ⟨s, rfl, by omega, hs, hb, Or.inr ⟨h3, ha, rfl⟩⟩⟩⟩⟩⟩
/-- the meanings of the names from a to b -/
def MM (T : Tk) (N : Nm) (σ : Nat → Nat) (a b : Nat) (μ μ' : Nat → Nat) : Prop := (∀ t, t < a ∨ b ≤ t → μ' t = μ t) ∧ ∀ t, a ≤ t → t < b → kd T t = 25 → ∃ i, nm_find N (T.2.2.1 t) = some i ∧ μ' t = σ i
theorem MM.rf {T : Tk} {N : Nm} {σ : Nat → Nat} {a : Nat} {μ : Nat → Nat} : MM T N σ a a μ μ := ⟨fun _ _ => rfl, fun t h1 h2 => by omega⟩
theorem MM.tr {T : Tk} {N : Nm} {σ : Nat → Nat} {a b c : Nat} {μ μ' μ2 : Nat → Nat} (hab : a ≤ b) (hbc : b ≤ c) (h : MM T N σ a b μ μ') (k : MM T N σ b c μ' μ2) : MM T N σ a c μ μ2 := by
  refine ⟨fun t ht => ?_, fun t h1 h2 h3 => ?_⟩
  · rw [k.1 t (by omega), h.1 t (by omega)]
  · rcases Nat.lt_or_ge t b with h4 | h4
    · obtain ⟨i, e1, e2⟩ := h.2 t h1 h4 h3
      exact ⟨i, e1, by rw [k.1 t (by omega), e2]⟩
    · exact k.2 t h4 h2 h3
theorem MM.skip {T : Tk} {N : Nm} {σ : Nat → Nat} {a b : Nat} {μ μ' : Nat → Nat} (hk : ¬ kd T a = 25) (h : MM T N σ (a + 1) b μ μ') : MM T N σ a b μ μ' := by
  refine ⟨fun t ht => h.1 t (by omega), fun t h1 h2 h3 => ?_⟩
  have : t ≠ a := fun e => hk (e ▸ h3)
  exact h.2 t (by omega) h2 h3
theorem MM.last {T : Tk} {N : Nm} {σ : Nat → Nat} {a b : Nat} {μ μ' : Nat → Nat} (hab : a ≤ b) (hk : ¬ kd T b = 25) (h : MM T N σ a b μ μ') : MM T N σ a (b + 1) μ μ' :=
  ⟨fun t ht => h.1 t (by omega), fun t h1 h2 h3 => h.2 t h1 (by have : t ≠ b := fun e => hk (e ▸ h3); omega) h3⟩
/-- the model does as the class does; P from the start on, Q from where the class goes on -/
def XO (T : Tk) (m : Nat) (N : Nm) (σ : Nat → Nat) (X : MS) (S : CS) (μ : Nat → Nat) (R : CR) (P Q : MS → MS → Prop) (E : CS → Prop) : Prop :=
  match R with
  | (.inl q, _) => ∃ t a μ', t ≤ m ∧ T.2.1 t = q ∧ a ≤ m ∧ P (EX X S.1 none μ) (EX X a (some t) μ')
  | (.inr _, S1) => S.1 ≤ S1.1 ∧ Ok m S1 ∧ S1.2.1 = N ∧ E S1 ∧ ∃ μ', MM T N σ S.1 S1.1 μ μ' ∧ ∀ X', Q (EX X S1.1 none μ') X' → P (EX X S.1 none μ) X'
theorem XO.bd {T : Tk} {m : Nat} {N : Nm} {σ : Nat → Nat} {X : MS} {S : CS} {μ : Nat → Nat} {x : CS → CR} {f : Nat → CS → CR} {P Q Q' : MS → MS → Prop} {E E' : CS → Prop} (h : XO T m N σ X S μ (x S) P Q E) (k : ∀ v S1 μ', x S = (.inr v, S1) → S.1 ≤ S1.1 → Ok m S1 → S1.2.1 = N → E S1 → XO T m N σ X S1 μ' (f v S1) Q Q' E') : XO T m N σ X S μ (bd x f S) P Q' E' := by
  rcases hx : x S with ⟨q | v, S1⟩
  · rw [bd_no hx]; rw [hx] at h; exact h
  · rw [bd_ok hx]
    rw [hx] at h
    obtain ⟨h1, h2, h3, h4, μ', h5, h6⟩ := h
    have k := k v S1 μ' hx h1 h2 h3 h4
    rcases hy : f v S1 with ⟨q | w, S2⟩
    · rw [hy] at k
      obtain ⟨t, a, μ2, k1, k2, k3, k4⟩ := k
      exact ⟨t, a, μ2, k1, k2, k3, h6 _ k4⟩
    · rw [hy] at k
      obtain ⟨k1, k2, k3, k4, μ2, k5, k6⟩ := k
      exact ⟨Nat.le_trans h1 k1, k2, k3, k4, μ2, h5.tr h1 k1 k5, fun X' hX => h6 _ (k6 X' hX)⟩
theorem XO.skip {T : Tk} {m : Nat} {N : Nm} {σ : Nat → Nat} {X : MS} {S S' : CS} {μ : Nat → Nat} {R : CR} {P P' Q : MS → MS → Prop} {E : CS → Prop} (h : XO T m N σ X S' μ R P' Q E) (e : S'.1 = S.1 + 1) (hk : ¬ kd T S.1 = 25) (k : ∀ X', P' (EX X (S.1 + 1) none μ) X' → P (EX X S.1 none μ) X') : XO T m N σ X S μ R P Q E := by
  rcases R with ⟨q | v, S1⟩
  · obtain ⟨t, a, μ', h1, h2, h3, h4⟩ := h
    rw [e] at h4
    exact ⟨t, a, μ', h1, h2, h3, k _ h4⟩
  · obtain ⟨h1, h2, h3, h4, μ', h5, h6⟩ := h
    rw [e] at h1 h5 h6
    exact ⟨by omega, h2, h3, h4, μ', h5.skip hk, fun X' hX => k _ (h6 X' hX)⟩
theorem XO.end {T : Tk} {m v : Nat} {N : Nm} {σ : Nat → Nat} {X : MS} {S : CS} {μ : Nat → Nat} {P : MS → MS → Prop} {E : CS → Prop} (o : Ok m S) (hN : S.2.1 = N) (hE : E S) : XO T m N σ X S μ (.inr v, S) P P E := ⟨Nat.le_refl _, o, hN, hE, μ, MM.rf, fun _ h => h⟩
theorem XO.weak {T : Tk} {m : Nat} {N : Nm} {σ : Nat → Nat} {X : MS} {S : CS} {μ : Nat → Nat} {R : CR} {P Q : MS → MS → Prop} {E E' : CS → Prop} (h : XO T m N σ X S μ R P Q E) (k : ∀ S1, E S1 → E' S1) : XO T m N σ X S μ R P Q E' := by
  rcases R with ⟨q | v, S1⟩
  · exact h
  · exact ⟨h.1, h.2.1, h.2.2.1, k _ h.2.2.2.1, h.2.2.2.2⟩
/-- no operator follows -/
def nop (T : Tk) (S : CS) : Prop := mulop (kd T S.1) = none ∧ ¬ kd T S.1 = 19 ∧ ¬ kd T S.1 = 20
def nomul (T : Tk) (S : CS) : Prop := mulop (kd T S.1) = none
theorem isOp_mul : ∀ k, k < 29 → ∀ x, mulop k = some x → isOp (kap k) = true := by
  intro k hk x h
  have : k = 21 ∨ k = 22 ∨ k = 23 := by
    unfold mulop at h
    repeat' split at h
    all_goals first | omega | cases h
  rcases this with rfl | rfl | rfl <;> decide
theorem isOp_nop : ∀ k, k < 29 → mulop k = none → ¬ k = 19 → ¬ k = 20 → ¬ isOp (kap k) = true := by
  have : ∀ k, k < 29 → ((mulop k == none) && !(k == 19) && !(k == 20)) = true → isOp (kap k) = false := by decide +kernel
  intro k hk h1 h2 h3
  rw [this k hk (by rw [h1]; simp [h2, h3])]
  decide
theorem mulop_last {T : Tk} {m : Nat} (t : TkOk T m) {i : Nat} (hi : i ≤ m) (h : m ≤ i) : mulop (kd T i) = none ∧ ¬ kd T i = 19 ∧ ¬ kd T i = 20 := by
  have : i = m := by omega
  subst this
  rcases t.2.2 with h | h <;> rw [h] <;> decide
section PX
variable {T : Tk} {m : Nat} {N : Nm} {σ bl : Nat → Nat} {X : MS}
theorem px_var {d : Nat} (t : TkOk T m) (hT : TR T m X) (hN : NR N σ bl X.2.2.1) {S : CS} {μ : Nat → Nat} (hd : d ≤ 8) (o : Ok m S) (e : S.2.1 = N) (hk : kd T S.1 = 25) : XO T m N σ X S μ (cp_var T S) (xH d) (xA d) (fun _ => True) := by
  have tm := t.1
  have o1 := o.1
  have hlt := t.lt o.1 hk (by decide)
  have k1 : r_kind X S.1 = 1 := hT.eq o.1 hk
  have hw : r_word X S.1 = T.2.2.1 S.1 := hT.2 S.1 hlt (Or.inl hk)
  have hf := find_ok (X := EX X S.1 none μ) (t := S.1) (e ▸ o.2.1) (show NR N σ bl (EX X S.1 none μ).2.2.1 from hN) (by omega)
  have hw2 : r_word (EX X S.1 none μ) S.1 = T.2.2.1 S.1 := hw
  rw [hw2] at hf
  unfold cp_var
  rw [e]
  rcases hi : nm_find N (T.2.2.1 S.1) with _ | i
  · rw [hi] at hf
    exact ⟨S.1, S.1, μ, o.1, rfl, o.1, xH_fac (by omega) (by omega) (by omega) (fac_un (by omega) k1 hf) (xA_w (by omega) (by omega))⟩
  · rw [hi] at hf
    obtain ⟨i1, i2⟩ := nm_find_lt hi
    have k := hN.2.2.2.1 i i1
    have hsy := hN.1.2.2
    have oN : NmOk N := e ▸ o.2.1
    have h18 : σ i < 18 := by have := oN.2.1; have := oN.2.2.1; have := k.1; omega
    dsimp only
    split
    · rename_i h2
      have h3 : r_sort X (σ i) = 3 := by rcases k.2.2.2.1 with q | q | q; exact q.2; omega; omega
      exact ⟨S.1, S.1, μ, o.1, rfl, o.1, xH_fac (by omega) (by omega) (by omega) (fac_pr (by omega) k1 h18 h3 hf) (xA_w (by omega) (by omega))⟩
    · rename_i h2
      have h3 : ¬ r_sort X (σ i) = 3 ∧ r_sort X (σ i) < 2147483648 := by
        show ¬ X.2.2.1.2.1 (σ i) = 3 ∧ X.2.2.1.2.1 (σ i) < 2147483648
        rcases k.2.2.2.1 with q | q | q <;> omega
      have ho : ∀ y u w, y ≤ 20 → (adv (cadd S y u w)).1 = S.1 + 1 ∧ Ok m (adv (cadd S y u w)) := fun y u w hy =>
        ⟨adv_1 (S := cadd S y u w) t (ok_add o hy) hk (by decide), ok_adv t (S := cadd S y u w) (ok_add o hy) hk (by decide)⟩
      obtain ⟨e1, e3⟩ := ho (if N.2.1 i = 1 then 3 else 2) (N.2.2.2.2.2.2.1 - N.2.2.1 i) (N.2.2.2.1 i) (by split <;> decide)
      refine ⟨by rw [e1]; omega, e3, e, trivial, va_up μ S.1 (σ i), ?_, ?_⟩
      · rw [e1]
        refine ⟨fun q hq => ?_, fun q h1 h2 h3 => ?_⟩
        · unfold va_up
          rw [if_neg (by omega)]
        · have : q = S.1 := by omega
          subst this
          exact ⟨i, hi, va_same _ _ _⟩
      · rw [e1]
        intro X' hX
        exact xH_fac (by omega) (by omega) (by omega) (fac_var (by omega) k1 h18 h3.1 h3.2 hf) hX
theorem px_fact {d : Nat} {x : CS → CR} (t : TkOk T m) (hT : TR T m X) (hN : NR N σ bl X.2.2.1) (hd : d ≤ 8) (hx : ∀ S μ, Ok m S → S.2.1 = N → kd T S.1 = 13 → XO T m N σ X S μ (x S) (xH d) (xA d) (fun _ => True)) : ∀ S μ, Ok m S → S.2.1 = N → XO T m N σ X S μ (cp_fact T x S) (xH d) (xA d) (fun _ => True) := by
  intro S μ o e
  have tm := t.1
  have o1 := o.1
  unfold cp_fact
  split
  · rename_i hk
    have k1 : r_kind X S.1 = 2 := hT.eq o.1 hk
    have e1 : (adv (cadd S 1 (i32n (T.2.2.1 S.1).toInt32) 0)).1 = S.1 + 1 := adv_1 (S := cadd S 1 (i32n (T.2.2.1 S.1).toInt32) 0) t (ok_add o (by decide)) hk (by decide)
    refine ⟨by rw [e1]; omega, ok_adv t (S := cadd S 1 (i32n (T.2.2.1 S.1).toInt32) 0) (ok_add o (by decide)) hk (by decide), e, trivial, μ, ?_, ?_⟩
    · rw [e1]
      exact MM.rf.skip (by omega)
    · rw [e1]
      intro X' hX
      exact xH_fac (by omega) (by omega) (by omega) (fac_num (by omega) k1) hX
  · rename_i h26
    split
    · exact px_var t hT hN hd o e (by assumption)
    · rename_i h25
      split
      · exact hx S μ o e (by assumption)
      · rename_i h13
        have b := hT.lt t o.1
        have n2 := hT.ne t o.1 (j := 26) (by decide) h26
        have n1 := hT.ne t o.1 (j := 25) (by decide) h25
        have n40 := hT.ne t o.1 (j := 13) (by decide) h13
        exact ⟨S.1, S.1, μ, o.1, rfl, o.1, xH_fac (by omega) n40 b (fac_bad (by omega) n2 b n1) (xA_w (by omega) (by omega))⟩
theorem px_tl {d : Nat} {f : CS → CR} (t : TkOk T m) (hT : TR T m X) (hd : d ≤ 8) (hf : ∀ S μ, Ok m S → S.2.1 = N → XO T m N σ X S μ (f S) (xH d) (xA d) (fun _ => True)) : ∀ n S μ, m ≤ S.1 + n → Ok m S → S.2.1 = N → XO T m N σ X S μ (cp_tl T f n S) (xA d) (xA d) (nomul T) := by
  have tm := t.1
  intro n
  induction n with
  | zero =>
    intro S μ hm o e
    exact XO.end o e (mulop_last t o.1 hm).1
  | succ n ih =>
    intro S μ hm o e
    have o1 := o.1
    unfold cp_tl
    split
    · exact XO.end o e (by assumption)
    · rename_i x hx
      have hl := (mulop_lt hx).1
      have e1 := adv_1 t o rfl hl
      refine XO.skip (P' := xH d) (S' := adv S) ?_ e1 (fun q => by rw [q] at hx; exact absurd (hx.symm.trans (show mulop 25 = none by decide)) (by simp)) (fun X' hX => xA_op (by omega) (by rw [hT.k o.1]; exact isOp_mul _ (t.some o.1).2 x hx) (hT.lt t o.1) hd hX)
      refine XO.bd (hf _ _ (ok_adv t o rfl hl) e) fun v S1 μ' _ h1 h2 h3 _ => ?_
      exact ih (cadd S1 x 0 0) μ' (show m ≤ S1.1 + n by omega) (ok_add h2 (mulop_lt hx).2) h3
theorem px_term {d : Nat} {f : CS → CR} (t : TkOk T m) (hT : TR T m X) (hd : d ≤ 8) (hf : ∀ S μ, Ok m S → S.2.1 = N → XO T m N σ X S μ (f S) (xH d) (xA d) (fun _ => True)) : ∀ S μ, Ok m S → S.2.1 = N → XO T m N σ X S μ (cp_term T f S) (xH d) (xA d) (nomul T) := by
  intro S μ o e
  have tm := t.1
  exact XO.bd (hf S μ o e) fun v S1 μ' _ h1 h2 h3 _ => px_tl t hT hd hf 150 S1 μ' (by omega) h2 h3
theorem px_sl {d : Nat} {f : CS → CR} (t : TkOk T m) (hT : TR T m X) (hd : d ≤ 8) (hf : ∀ S μ, Ok m S → S.2.1 = N → XO T m N σ X S μ (f S) (xH d) (xA d) (nomul T)) : ∀ n S μ, m ≤ S.1 + n → Ok m S → S.2.1 = N → nomul T S → XO T m N σ X S μ (cp_sl T f n S) (xA d) (xA d) (nop T) := by
  have tm := t.1
  intro n
  induction n with
  | zero =>
    intro S μ hm o e _
    exact XO.end o e (mulop_last t o.1 hm)
  | succ n ih =>
    intro S μ hm o e hno
    have o1 := o.1
    have go : ∀ q x, kd T S.1 = q → q < 25 → isOp (kap q) = true → x ≤ 20 → XO T m N σ X S μ (bd f (fun _ S1 => cp_sl T f n (cadd S1 x 0 0)) (adv S)) (xA d) (xA d) (nop T) := by
      intro q x hk hq hop hx
      have e1 := adv_1 t o hk (by omega)
      refine XO.skip (P' := xH d) (S' := adv S) ?_ e1 (by omega) (fun X' hX => xA_op (by omega) (by rw [hT.k o.1, hk]; exact hop) (hT.lt t o.1) hd hX)
      refine XO.bd (hf _ _ (ok_adv t o hk (by omega)) e) fun v S1 μ' _ h1 h2 h3 h4 => ?_
      exact ih (cadd S1 x 0 0) μ' (show m ≤ S1.1 + n by omega) (ok_add h2 hx) h3 h4
    unfold cp_sl
    split
    · exact go 19 8 (by assumption) (by decide) (by decide) (by decide)
    · split
      · exact go 20 9 (by assumption) (by decide) (by decide) (by decide)
      · exact XO.end o e ⟨hno, by assumption, by assumption⟩
theorem px_ex {d : Nat} {f : CS → CR} (t : TkOk T m) (hT : TR T m X) (hd : d ≤ 8) (hf : ∀ S μ, Ok m S → S.2.1 = N → XO T m N σ X S μ (f S) (xH d) (xA d) (nomul T)) : ∀ S μ, Ok m S → S.2.1 = N → XO T m N σ X S μ (cp_ex T f S) (xE d) (xA d) (nop T) := by
  intro S μ o e
  have tm := t.1
  have o1 := o.1
  unfold cp_ex
  split
  · rename_i hk
    have e1 := adv_1 t o hk (by decide)
    have k45 : r_kind X S.1 = 45 := hT.eq o.1 hk
    refine XO.skip (P' := xH d) (S' := adv S) ?_ e1 (by omega) (fun X' hX => ⟨true, _, ex_take_y (by omega) k45 (by decide), hX⟩)
    refine XO.bd (hf _ _ (ok_adv t o hk (by decide)) e) fun v S1 μ' _ h1 h2 h3 h4 => ?_
    exact px_sl t hT hd hf 150 (cadd S1 7 0 0) μ' (show m ≤ S1.1 + 150 by omega) (ok_add h2 (by decide)) h3 h4
  · rename_i hk
    have n45 : ¬ r_kind X S.1 = 45 := hT.ne t o.1 (j := 20) (by decide) hk
    have r : XO T m N σ X S μ (bd f (fun _ => cp_sl T f 150) S) (xH d) (xA d) (nop T) := XO.bd (hf S μ o e) fun v S1 μ' _ h1 h2 h3 h4 => px_sl t hT hd hf 150 S1 μ' (by omega) h2 h3 h4
    have go : ∀ X', xH d (EX X S.1 none μ) X' → xE d (EX X S.1 none μ) X' := fun X' hX => ⟨false, _, ex_take_n (by omega) n45 (hT.lt t o.1) (by decide), hX⟩
    rcases hR : bd f (fun _ => cp_sl T f 150) S with ⟨q | v, S1⟩
    · rw [hR] at r
      obtain ⟨t', a, μ', h1, h2, h3, h4⟩ := r
      exact ⟨t', a, μ', h1, h2, h3, go _ h4⟩
    · rw [hR] at r
      obtain ⟨h1, h2, h3, h4, μ', h5, h6⟩ := r
      exact ⟨h1, h2, h3, h4, μ', h5, fun X' hX => go _ (h6 X' hX)⟩
theorem px_expr (t : TkOk T m) (hT : TR T m X) (hN : NR N σ bl X.2.2.1) : ∀ n d, d + n = 8 → ∀ S μ, Ok m S → S.2.1 = N → XO T m N σ X S μ (cp_expr T n S) (xE d) (xA d) (nop T) := by
  have tm := t.1
  intro n
  induction n with
  | zero =>
    intro d hd S μ o e
    have : d = 8 := by omega
    subst this
    refine px_ex t hT (by omega) (px_term t hT (by omega) (px_fact t hT hN (by omega) ?_)) S μ o e
    intro S μ o e hk
    have o1 := o.1
    exact ⟨S.1, S.1, μ, o.1, rfl, o.1, xH_brk8 (by omega) (hT.eq o.1 hk)⟩
  | succ n ih =>
    intro d hd S μ o e
    rw [cp_expr_eq]
    refine px_ex t hT (by omega) (px_term t hT (by omega) (px_fact t hT hN (by omega) ?_)) S μ o e
    intro S μ o e hk
    have o1 := o.1
    have e1 := adv_1 t o hk (by decide)
    have k40 : r_kind X S.1 = 40 := hT.eq o.1 hk
    refine XO.skip (P' := xE (d + 1)) (S' := adv S) ?_ e1 (by omega) (fun X' hX => xH_brk (by omega) k40 (by omega) hX)
    refine XO.bd (ih (d + 1) (by omega) _ _ (ok_adv t o hk (by decide)) e) fun v S1 μ' _ h1 h2 h3 h4 => ?_
    have o2 := h2.1
    unfold cp_expect
    split
    · rename_i h14
      have e2 := adv_1 t h2 h14 (by decide)
      refine ⟨by omega, ok_adv t h2 h14 (by decide), h3, trivial, μ', ?_, ?_⟩
      · rw [e2]; exact MM.rf.skip (by omega)
      · rw [e2]; exact fun X' hX => xA_close (by omega) (hT.eq h2.1 h14) (by omega) hX
    · rename_i h14
      exact ⟨S1.1, S1.1, μ', h2.1, rfl, h2.1, xA_endN (by omega) (by omega) (by omega) (hT.ne t h2.1 (j := 14) (by decide) h14) (by rw [hT.k h2.1]; exact isOp_nop _ (t.some h2.1).2 h4.1 h4.2.1 h4.2.2) (hT.lt t h2.1)⟩
/-- the model's expression ends where the class's does -/
theorem px_expression (t : TkOk T m) (hT : TR T m X) (hN : NR N σ bl X.2.2.1) {S : CS} {μ : Nat → Nat} (o : Ok m S) (e : S.2.1 = N) : XO T m N σ X S μ (cp_expr T 8 S) mo_expression (fun A B => B = A) (nop T) := by
  have tm := t.1
  have r := px_expr t hT hN 8 0 rfl S μ o e
  rcases hR : cp_expr T 8 S with ⟨q | v, S1⟩
  · rw [hR] at r
    exact r
  · rw [hR] at r
    obtain ⟨h1, h2, h3, h4, μ', h5, h6⟩ := r
    refine ⟨h1, h2, h3, h4, μ', h5, fun X' hX => ?_⟩
    subst hX
    have o2 := h2.1
    exact h6 _ (xA_end0 (by omega) (by rw [hT.k h2.1]; exact isOp_nop _ (t.some h2.1).2 h4.1 h4.2.1 h4.2.2) (hT.lt t h2.1))
end PX
