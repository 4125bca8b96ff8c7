/-! ===== all tokens ===== -/
/-- token j is alike -/
def TJ (S : TS) (K : Nat → Nat) (W : Nat → Int64) (A : Nat → Nat) (j : Nat) : Prop := ∃ k, S.1 j = some k ∧ k < 27 ∧ K j = kap k ∧ A j = S.2.1 j ∧ ((k = 25 ∨ k = 26) → W j = S.2.2.1 j) ∧ (k = 26 → i32n (S.2.2.1 j).toInt32 < 2 ^ 31)
/-- the last token -/
def TE (R : TS) (m : Nat) (K A B : Nat → Nat) (N : Nat) : Prop := ∃ k, R.1 m = some k ∧ K m = kap k ∧ ((k = 27 ∧ N = m + 1 ∧ A m = R.2.1 m) ∨ (k = 28 ∧ N = m ∧ R.2.1 m = if m = 0 then 0 else B (m - 1)))
section
variable {f : Nat → Nat} {L p n i : Nat} {X X' : MS} {K A B : Nat → Nat} {W : Nat → Int64} {S : TS}
theorem TJ.up (h : ∀ j, j < i → TJ S K W A j) {k a b : Nat} {c d : Int64} {o : Option Nat} (q : ∃ k', o = some k' ∧ k' < 27 ∧ k = kap k' ∧ a = b ∧ ((k' = 25 ∨ k' = 26) → c = d) ∧ (k' = 26 → i32n d.toInt32 < 2 ^ 31)) {E : Nat} : ∀ j, j < i + 1 → TJ (va_up S.1 i o, va_up S.2.1 i b, va_up S.2.2.1 i d, E) (va_up K i k) (va_up W i c) (va_up A i a) j := by
  intro j hj
  unfold TJ va_up
  by_cases e : j = i
  · subst e
    simp only [if_true]
    exact q
  · simp only [if_neg e]
    exact h j (by omega)
theorem TJ.keep (h : ∀ j, j < i → TJ S K W A j) {k a b : Nat} {c d : Int64} {o : Option Nat} {E : Nat} : ∀ j, j < i → TJ (va_up S.1 i o, va_up S.2.1 i b, va_up S.2.2.1 i d, E) (va_up K i k) (va_up W i c) (va_up A i a) j := by
  intro j hj
  unfold TJ va_up
  simp only [if_neg (show ¬ j = i by omega)]
  exact h j hj
theorem va_id {α : Type} (g : Nat → α) (i : Nat) : va_up g i (g i) = g := by
  funext j
  unfold va_up
  split
  · rename_i e; rw [e]
  · rfl
theorem tk_stop {r k E : Nat} {Pl : Nat → Nat} {Ct : Nat → Int64} (h : tk_tok f L i S.2.1 S.2.2.1 S.2.2.2 = (k, Pl, Ct, E)) (hk : k = 27 ∨ k = 28) : tk_read f L (r + 1) i true S = (va_up S.1 i (some k), Pl, Ct, E) := by
  have e : tk_read f L (r + 1) i true S = tk_read f L r (i + 1) (tk_more (tk_tok f L i S.2.1 S.2.2.1 S.2.2.2).1) (tk_one f L i S) := rfl
  rw [e]
  unfold tk_one
  rw [h]
  have e2 : tk_more k = false := by rcases hk with hk | hk <;> rw [hk] <;> rfl
  show tk_read f L r (i + 1) (tk_more k) _ = _
  rw [e2]
  cases r <;> rfl
theorem tk_go {r k E : Nat} {Pl : Nat → Nat} {Ct : Nat → Int64} (h : tk_tok f L i S.2.1 S.2.2.1 S.2.2.2 = (k, Pl, Ct, E)) (hk : k < 27) : tk_read f L (r + 1) i true S = tk_read f L r (i + 1) true (va_up S.1 i (some k), Pl, Ct, E) := by
  have e : tk_read f L (r + 1) i true S = tk_read f L r (i + 1) (tk_more (tk_tok f L i S.2.1 S.2.2.1 S.2.2.2).1) (tk_one f L i S) := rfl
  rw [e]
  unfold tk_one
  rw [h]
  have e2 : tk_more k = true := by
    unfold tk_more
    rw [Bool.and_eq_true, decide_eq_true_iff, decide_eq_true_iff]
    omega
  show tk_read f L r (i + 1) (tk_more k) _ = _
  rw [e2]
def TF (f : Nat → Nat) (L : Nat) (X : MS) (R : TS) (i p : Nat) (K : Nat → Nat) (W : Nat → Int64) (A B : Nat → Nat) : Prop := ∃ m K' W' A' B' N, m ≤ 150 ∧ (∀ j, j < m → TJ R K' W' A' j) ∧ TE R m K' A' B' N ∧ cA 0 p 0 0 (CX X K W A B i) (CX X K' W' A' B' N)
theorem zr_lo {j : Nat} (h : j < n) : zr K n j = K j := by
  unfold zr
  rw [if_neg (by omega)]
/-- a token that is none, or the last that is let in -/
theorem tf_none (hX : TX f L X) (h : ∀ j, j < i → TJ S K W A j) (hi : i ≤ 150) {q : Nat} {d c : Int64} {E : Nat} {B1 : Nat → Nat} (hp : cA 0 L 0 0 (CX X (va_up K i 99) (va_up W i c) (va_up A i q) B1 (i + 1)) (CX X (zr (va_up K i 99) (i + 1)) (va_up W i c) (va_up A i q) B1 (i + 1)) → cA 0 p 0 0 (CX X K W A B i) (CX X (zr (va_up K i 99) (i + 1)) (va_up W i c) (va_up A i q) B1 (i + 1))) : TF f L X (va_up S.1 i (some 27), va_up S.2.1 i q, va_up S.2.2.1 i d, E) i p K W A B := by
  have g := ca_end (K := va_up K i 99) (W := va_up W i c) (A := va_up A i q) (B := B1) (n := i + 1) hX (by omega)
  refine ⟨i, _, _, _, _, _, hi, ?_, ?_, hp g⟩
  · intro j hj
    obtain ⟨k, a1, a2, a3, a4⟩ := TJ.keep (k := 99) (a := q) (b := q) (c := c) (d := d) (o := some 27) (E := E) h j hj
    exact ⟨k, a1, a2, (zr_lo (by omega)).trans a3, a4⟩
  · have e1 : va_up S.1 i (some 27) i = some 27 := if_pos rfl
    have e2 : va_up K i 99 i = 99 := if_pos rfl
    have e3 : ∀ g : Nat → Nat, va_up g i q i = q := fun g => if_pos rfl
    exact ⟨27, e1, (zr_lo (by omega)).trans e2, Or.inl ⟨rfl, rfl, (e3 A).trans (e3 S.2.1).symm⟩⟩
/-- what the model makes of a token -/
def mCo (f : Nat → Nat) (L p : Nat) : Bool := decide (f p = 58) && decide (p + 1 < L) && decide (f (p + 1) = 61)
theorem mCo_q (h : mCo f L p = true) : f p = 58 ∧ p + 1 < L ∧ f (p + 1) = 61 := by
  unfold mCo at h
  rw [Bool.and_eq_true, Bool.and_eq_true, decide_eq_true_iff, decide_eq_true_iff, decide_eq_true_iff] at h
  exact ⟨h.1.1, h.1.2, h.2⟩
theorem mCo_y (h1 : f p = 58) (h2 : p + 1 < L) (h3 : f (p + 1) = 61) : mCo f L p = true := by
  unfold mCo
  rw [Bool.and_eq_true, Bool.and_eq_true, decide_eq_true_iff, decide_eq_true_iff, decide_eq_true_iff]
  exact ⟨⟨h1, h2⟩, h3⟩
def mK (f : Nat → Nat) (L p : Nat) : Nat := if isL (f p) = true then (if (mW f L p).1 - p ≤ 6 then wk (mW f L p).2 else 99) else if isD (f p) = true then (if (mN f L p).1 - p ≤ 9 then 2 else 99) else if mCo f L p = true then 13 else if isS (f p) then f p else 99
def mV (f : Nat → Nat) (L p : Nat) (w : Int64) : Int64 := if isL (f p) = true then (mW f L p).2 else if isD (f p) = true then (mN f L p).2 else w
def mQ (f : Nat → Nat) (L p : Nat) : Nat := if isL (f p) = true then (mW f L p).1 else if isD (f p) = true then (mN f L p).1 else if mCo f L p = true then p + 2 else p + 1
theorem ca_any (hX : TX f L X) (hn : n < 151) (hp : p < L) (hc : ¬ f p = 32) (h : cA 3 p (f p) n (CX X (va_up K n (mK f L p)) (va_up W n (mV f L p (W n))) (va_up A n p) (va_up B n (mQ f L p)) n) X') : cA 0 p 0 0 (CX X K W A B n) X' := by
  have hlt := hX.2.2.2 p
  refine ca_tok hX hn hp hc ?_
  unfold mK mV mQ at h
  by_cases hL : isL (f p) = true
  · simp only [if_pos hL] at h
    refine ca_word hX hn hp hL ?_
    rw [bx_uu, bx_uu]
    refine ca_2 hlt (fun q => ?_) h
    rw [q] at hL
    exact absurd hL (by decide)
  · simp only [if_neg hL] at h
    by_cases hD : isD (f p) = true
    · simp only [if_pos hD] at h
      refine ca_num hX hn hp hL hD ?_
      rw [bx_uu, bx_uu]
      refine ca_2 hlt (fun q => ?_) h
      rw [q] at hD
      exact absurd hD (by decide)
    · simp only [if_neg hD] at h
      rw [va_id] at h
      refine ca_sign hX hL hD ?_
      by_cases h58 : f p = 58
      · by_cases hpL : p + 1 < L
        · by_cases h61 : f (p + 1) = 61
          · rw [if_pos (mCo_y h58 hpL h61), if_pos (mCo_y h58 hpL h61)] at h
            rw [h58] at h ⊢
            refine ca_2y hX hn hpL h61 ?_
            rw [bx_uu, bx_uu]
            exact h
          · simp only [if_neg (show ¬ mCo f L p = true from fun q => h61 (mCo_q q).2.2)] at h
            rw [h58] at h ⊢
            exact ca_2n hX hpL h61 h
        · simp only [if_neg (show ¬ mCo f L p = true from fun q => hpL (mCo_q q).2.1)] at h
          rw [h58] at h ⊢
          exact ca_2e hX (by omega) h
      · simp only [if_neg (show ¬ mCo f L p = true from fun q => h58 (mCo_q q).1)] at h
        exact ca_2 hlt h58 h
theorem mW_two : mW f L p = tk_word f (L - p) p (lN 0) ∨ (10 ≤ (mW f L p).1 - p ∧ 10 ≤ (tk_word f (L - p) p (lN 0)).1 - p) := by
  unfold mW
  have g := tk_word_lim (f := f) (min (L - p) 10) (L - p) p (lN 0) (by omega)
  by_cases h : (tk_word f (min (L - p) 10) p (lN 0)).1 < p + min (L - p) 10
  · exact Or.inl (g.1 h).symm
  · by_cases h10 : L - p ≤ 10
    · rw [show min (L - p) 10 = L - p by omega]; exact Or.inl rfl
    · have := g.2 (by omega)
      exact Or.inr ⟨by omega, by omega⟩
theorem mN_two : mN f L p = tk_num f (L - p) p (lN 0) ∨ (10 ≤ (mN f L p).1 - p ∧ 10 ≤ (tk_num f (L - p) p (lN 0)).1 - p) := by
  unfold mN
  have g := tk_num_lim (f := f) (min (L - p) 10) (L - p) p (lN 0) (by omega)
  by_cases h : (tk_num f (min (L - p) 10) p (lN 0)).1 < p + min (L - p) 10
  · exact Or.inl (g.1 h).symm
  · by_cases h10 : L - p ≤ 10
    · rw [show min (L - p) 10 = L - p by omega]; exact Or.inl rfl
    · have := g.2 (by omega)
      exact Or.inr ⟨by omega, by omega⟩
theorem kap_99 : ∀ k, k < 27 → kap k < 99 := by decide
def TO1 (f : Nat → Nat) (L p k E : Nat) (w c : Int64) : Prop := (k = 27 ∧ mK f L p = 99) ∨ (k < 27 ∧ kap k = mK f L p ∧ E = mQ f L p ∧ E ≤ L ∧ ((k = 25 ∨ k = 26) → mV f L p w = c) ∧ (k = 26 → i32n c.toInt32 < 2 ^ 31))
theorem tok_one (hf : ∀ j, f j < 128) (hp : p < L) {Pl : Nat → Nat} {Ct : Nat → Int64} {E : Nat} (hE : tk_skip f (L - E) E = p) (hi : i < 150) (w : Int64) : ∃ k E' c, tk_tok f L i Pl Ct E = (k, va_up Pl i p, va_up Ct i c, E') ∧ TO1 f L p k E' w c := by
  unfold tk_tok
  rw [hE, if_neg (by omega), if_neg (by omega)]
  have hf2 : ∀ j, f j < 256 := fun j => Nat.lt_trans (hf j) (by decide)
  by_cases hL : isL (f p) = true
  · rw [if_pos hL]
    refine ⟨_, _, _, rfl, ?_⟩
    unfold TO1 mK mQ mV tk_wK
    rw [if_pos hL, if_pos hL, if_pos hL]
    have hv := tk_word_val hf2 (L - p) p 0
    have h1 : p < (tk_word f (L - p) p (lN 0)).1 := by
      rw [show L - p = (L - p - 1) + 1 by omega]
      unfold tk_word
      rw [hL, Bool.true_or, if_pos rfl]
      exact Nat.lt_of_lt_of_le (Nat.lt_succ_self p) (tk_word_ge _ _ _)
    rcases mW_two (f := f) (L := L) (p := p) with e | ⟨e1, e2⟩
    · rw [e]
      by_cases h6 : (tk_word f (L - p) p (lN 0)).1 - p ≤ 6
      · rw [if_pos h6, if_pos h6]
        obtain ⟨a1, a2⟩ := word_kind hf hL h1 h6
        exact Or.inr ⟨by omega, a1, rfl, by omega, fun _ => rfl, fun q => by omega⟩
      · rw [if_neg h6, if_neg h6]
        exact Or.inl ⟨rfl, rfl⟩
    · rw [if_neg (by omega), if_neg (by omega)]
      exact Or.inl ⟨rfl, rfl⟩
  · rw [if_neg hL]
    by_cases hD : isD (f p) = true
    · rw [if_pos hD]
      refine ⟨_, _, _, rfl, ?_⟩
      unfold TO1 mK mQ mV tk_nK
      rw [if_neg hL, if_neg hL, if_neg hL, if_pos hD, if_pos hD, if_pos hD]
      have hv := tk_num_val (f := f) (L - p) p 0
      rcases mN_two (f := f) (L := L) (p := p) with e | ⟨e1, e2⟩
      · rw [e]
        by_cases h6 : (tk_num f (L - p) p (lN 0)).1 - p ≤ 9
        · rw [if_pos h6, if_pos h6]
          exact Or.inr ⟨by decide, rfl, rfl, by omega, fun _ => rfl, fun _ => num_small h6⟩
        · rw [if_neg h6, if_neg h6]
          exact Or.inl ⟨rfl, rfl⟩
      · rw [if_neg (by omega), if_neg (by omega)]
        exact Or.inl ⟨rfl, rfl⟩
    · rw [if_neg hD]
      refine ⟨tk_sK f L p, tk_sE f L p, Ct i, by rw [va_id], ?_⟩
      unfold TO1 mK mQ
      rw [if_neg hL, if_neg hL, if_neg hD, if_neg hD]
      unfold tk_sK
      by_cases h58 : f p = 58
      · have e2 : tk_sE f L p = min L (p + 2) := by unfold tk_sE; rw [if_pos h58]
        by_cases hpL : p + 1 < L
        · rw [e2, show min L (p + 2) = p + 2 by omega, sg2_eq h58, sg2_ok _ (hf _)]
          by_cases h61 : f (p + 1) = 61
          · rw [if_pos h61, if_pos (mCo_y h58 hpL h61), if_pos (mCo_y h58 hpL h61)]
            exact Or.inr ⟨by decide, rfl, rfl, by omega, fun q => absurd q (by decide), fun q => absurd q (by decide)⟩
          · simp only [if_neg h61, if_neg (show ¬ mCo f L p = true from fun q => h61 (mCo_q q).2.2), h58]
            exact Or.inl ⟨trivial, rfl⟩
        · rw [e2, show min L (p + 2) = p + 1 by omega, sg1_eq]
          simp only [if_neg (show ¬ mCo f L p = true from fun q => hpL (mCo_q q).2.1), h58]
          exact Or.inl ⟨by decide, rfl⟩
      · have e2 : tk_sE f L p = p + 1 := by unfold tk_sE; rw [if_neg h58]; omega
        rw [e2, sg1_eq]
        simp only [if_neg (show ¬ mCo f L p = true from fun q => h58 (mCo_q q).1)]
        obtain ⟨a1, a2, a3, a4⟩ := sg1_ok (f p) (hf p) (Bool.eq_false_iff.2 hL) (Bool.eq_false_iff.2 hD)
        by_cases h27 : sg1 (f p) = 27
        · rw [h27] at a1
          exact Or.inl ⟨h27, a1.symm⟩
        · exact Or.inr ⟨by omega, a1, trivial, by omega, fun q => by omega, fun q => by omega⟩
theorem tk_skip_in : ∀ (r p : Nat), p ≤ tk_skip f r p ∧ tk_skip f r p ≤ p + r ∧ (tk_skip f r p < p + r → ¬ f (tk_skip f r p) = 32) := by
  intro r
  induction r with
  | zero => intro p; exact ⟨Nat.le_refl _, Nat.le_refl _, fun h => absurd h (by show ¬ p < p + 0; omega)⟩
  | succ r ih =>
    intro p
    unfold tk_skip
    by_cases hc : f p = 32
    · rw [if_pos hc]
      obtain ⟨a1, a2, a3⟩ := ih (p + 1)
      exact ⟨by omega, by omega, fun h => a3 (by omega)⟩
    · rw [if_neg hc]
      exact ⟨Nat.le_refl _, by omega, fun _ => hc⟩
theorem tf_all (hX : TX f L X) : ∀ (r i : Nat) (S : TS) (K : Nat → Nat) (W : Nat → Int64) (A B : Nat → Nat), i + r = 151 → i ≤ 150 → (∀ j, j < i → TJ S K W A j) → S.2.2.2 ≤ L → (S.2.2.2 = if i = 0 then 0 else B (i - 1)) → TF f L X (tk_read f L r i true S) i S.2.2.2 K W A B := by
  intro r
  induction r with
  | zero => intro i S K W A B h1 h2; omega
  | succ r ih =>
    intro i S K W A B h1 h2 hJ hE hB
    obtain ⟨a1, a2, a3⟩ := tk_skip_in (f := f) (L - S.2.2.2) S.2.2.2
    have sk : ∀ {X'}, cA 0 (tk_skip f (L - S.2.2.2) S.2.2.2) 0 0 (CX X K W A B i) X' → cA 0 S.2.2.2 0 0 (CX X K W A B i) X' := fun h => ca_skip hX (by omega) (L - S.2.2.2) S.2.2.2 (by omega) h
    by_cases hp : tk_skip f (L - S.2.2.2) S.2.2.2 = L
    · have e : tk_tok f L i S.2.1 S.2.2.1 S.2.2.2 = (28, va_up S.2.1 i S.2.2.2, S.2.2.1, S.2.2.2) := by
        unfold tk_tok
        rw [if_pos hp]
      rw [tk_stop e (Or.inr rfl)]
      rw [hp] at sk
      refine ⟨i, _, _, _, _, _, h2, ?_, ?_, sk (ca_end hX (by omega))⟩
      · intro j hj
        obtain ⟨k, b1, b2, b3, b4⟩ := TJ.keep (k := K i) (a := A i) (b := S.2.2.2) (c := W i) (d := S.2.2.1 i) (o := some 28) (E := S.2.2.2) hJ j hj
        rw [va_id, va_id, va_id] at *
        exact ⟨k, b1, b2, (zr_lo hj).trans b3, b4⟩
      · refine ⟨28, if_pos rfl, ?_, Or.inr ⟨rfl, rfl, ?_⟩⟩
        · unfold zr
          rw [if_pos (by omega)]
          rfl
        · exact (if_pos rfl).trans hB
    · have hpL : tk_skip f (L - S.2.2.2) S.2.2.2 < L := by omega
      have hc := a3 (by omega)
      have hany : ∀ {X'}, _ → cA 0 S.2.2.2 0 0 (CX X K W A B i) X' := fun {X'} h => sk (ca_any (X' := X') hX (by omega) hpL hc h)
      clear sk
      generalize hg : tk_skip f (L - S.2.2.2) S.2.2.2 = p at *
      by_cases hi : i = 150
      · have e : tk_tok f L i S.2.1 S.2.2.1 S.2.2.2 = (27, va_up S.2.1 i p, va_up S.2.2.1 i (S.2.2.1 i), S.2.2.2) := by
          unfold tk_tok
          rw [hg, if_neg hp, if_pos hi, va_id]
        rw [tk_stop e (Or.inl rfl)]
        refine tf_none hX hJ h2 (c := mV f L p (W i)) (B1 := va_up B i (mQ f L p)) (fun h => hany ?_)
        subst hi
        refine ca_3x hX ?_
        rw [bx_uu]
        exact h
      · obtain ⟨k, E', c, e, ho⟩ := tok_one (i := i) (Pl := S.2.1) (Ct := S.2.2.1) hX.2.2.2 hpL hg (by omega) (W i)
        rcases ho with ⟨h27, hk⟩ | ⟨h27, hk, hQ, hQL, hc1, hc2⟩
        · rw [tk_stop e (Or.inl h27), h27]
          refine tf_none hX hJ h2 (c := mV f L p (W i)) (B1 := va_up B i (mQ f L p)) (fun h => hany ?_)
          rw [hk]
          exact ca_3n hX (by omega) (if_pos rfl) h
        · rw [tk_go e h27]
          have u := TJ.up (E := E') (k := mK f L p) (a := p) (b := p) (c := mV f L p (W i)) (d := c) (o := some k) hJ ⟨k, rfl, h27, hk.symm, rfl, hc1, hc2⟩
          have eB : va_up B i (mQ f L p) i = mQ f L p := if_pos rfl
          have eK : va_up K i (mK f L p) i = mK f L p := if_pos rfl
          have key := ih (i + 1) _ _ _ _ (va_up B i (mQ f L p)) (by omega) (by omega) u hQL (by rw [if_neg (by omega), Nat.add_sub_cancel, eB]; exact hQ)
          obtain ⟨m, K', W', A', B', N, c1, c2, c3, c4⟩ := key
          refine ⟨m, K', W', A', B', N, c1, c2, c3, hany ?_⟩
          refine ca_3o hX (by omega) (by rw [eK, ← hk]; exact kap_99 k h27) ?_
          rw [eB]
          subst hQ
          exact c4
end
