/-! ===== a program's loop in the model ===== -/
def rP (X X' : MS) : Prop := ∃ n, mo_readProgram_go n 0 X X'
/-- behind a block's statements -/
def rK (X9 X' : MS) : Prop := (r_block X9) < 8 ∧ ((((r_around X9) (r_block X9)) = none ∧ (∃ S16, mo_need 46 (w_block X9 (r_block X9)) S16 ∧ (((r_wrong S16) = none ∧ ((r_at S16) < 155 ∧ (((r_kind S16) (r_at S16)) < 2147483648 ∧ ((((r_kind S16) (r_at S16)) = 0 ∧ (X' = S16)) ∨ (¬ ((r_kind S16) (r_at S16)) = 0 ∧ (∃ S22, mo_blame (r_at S16) S16 S22 ∧ (X' = S22))))))) ∨ (∃ t18, (r_wrong S16) = some t18 ∧ (t18 < 2147483648 ∧ (X' = S16)))))) ∨ (∃ t12, ((r_around X9) (r_block X9)) = some t12 ∧ (t12 < 2147483648 ∧ ((r_block X9) < 8 ∧ (∃ S28, mo_need 59 (w_block X9 t12) S28 ∧ rP S28 X')))))
theorem rP_w {X : MS} {t : Nat} (hw : r_wrong X = some t) (ht : t < 2147483648) : rP X X := by
  refine ⟨1, ?_⟩
  rw [mo_readProgram_go]
  exact Or.inr ⟨t, hw, ht, X, mo_need_w hw ht, Or.inr ⟨t, hw, ht, rfl⟩⟩
theorem rP_proc {X X4 X49 X' : MS} (hw : r_wrong X = none) (ht : mo_take 4 X true X4) (hp : mo_procedure X4 X49) (h : rP X49 X') : rP X X' := by
  obtain ⟨n, h⟩ := h
  refine ⟨n + 1, ?_⟩
  rw [mo_readProgram_go]
  exact Or.inl ⟨hw, true, X4, ht, Or.inl ⟨rfl, X49, hp, h⟩⟩
theorem rP_stm {X X6 X9 X' : MS} (hw : r_wrong X = none) (ht : mo_take 4 X false X) (h5 : mo_need 5 X X6) (h6 : r_wrong X6 = none) (hs : mo_statements X6 X9) (h : rK X9 X') : rP X X' := by
  obtain ⟨hb, ⟨h1, h2⟩ | ⟨t12, h1, h2, h3, S28, h4, n, h5'⟩⟩ := h
  · refine ⟨1, ?_⟩
    rw [mo_readProgram_go]
    exact Or.inl ⟨hw, false, X, ht, Or.inr ⟨by decide, X6, h5, Or.inl ⟨h6, X9, hs, hb, Or.inl ⟨h1, h2⟩⟩⟩⟩
  · refine ⟨n + 1, ?_⟩
    rw [mo_readProgram_go]
    exact Or.inl ⟨hw, false, X, ht, Or.inr ⟨by decide, X6, h5, Or.inl ⟨h6, X9, hs, hb, Or.inr ⟨t12, h1, h2, h3, S28, h4, h5'⟩⟩⟩⟩
theorem rP_nob {X X6 X' : MS} {t : Nat} (hw : r_wrong X = none) (ht : mo_take 4 X false X) (h5 : mo_need 5 X X6) (h6 : r_wrong X6 = some t) (h9 : t < 2147483648) (h : rK X6 X') : rP X X' := by
  obtain ⟨hb, ⟨h1, h2⟩ | ⟨t12, h1, h2, h3, S28, h4, n, h5'⟩⟩ := h
  · refine ⟨1, ?_⟩
    rw [mo_readProgram_go]
    exact Or.inl ⟨hw, false, X, ht, Or.inr ⟨by decide, X6, h5, Or.inr ⟨t, h6, h9, hb, Or.inl ⟨h1, h2⟩⟩⟩⟩
  · refine ⟨n + 1, ?_⟩
    rw [mo_readProgram_go]
    exact Or.inl ⟨hw, false, X, ht, Or.inr ⟨by decide, X6, h5, Or.inr ⟨t, h6, h9, hb, Or.inr ⟨t12, h1, h2, h3, S28, h4, h5'⟩⟩⟩⟩
section RB
variable {X : MS} {Y : MS2} {a d : Nat} {μ ν wi si : Nat → Nat}
theorem rK_w {t : Nat} (ht : t < 2147483648) (hb : Y.2.2.2.2.2.2.2.2.2.2.2 < 8) (hr : ∀ b, Y.2.2.2.2.2.2.2.2.1 Y.2.2.2.2.2.2.2.2.2.2.2 = some b → b < 2147483648) : ∃ Y', rK (BX X Y a (some t) μ ν wi si d) (BX X Y' a (some t) μ ν wi si d) := by
  rcases hr' : Y.2.2.2.2.2.2.2.2.1 Y.2.2.2.2.2.2.2.2.2.2.2 with _ | b
  · exact ⟨cY Y Y.2.2.2.2.2.2.2.2.2.2.2, hb, Or.inl ⟨hr', _, mo_need_w (X := BX X (cY Y Y.2.2.2.2.2.2.2.2.2.2.2) a (some t) μ ν wi si d) rfl ht, Or.inr ⟨t, rfl, ht, rfl⟩⟩⟩
  · exact ⟨cY Y b, hb, Or.inr ⟨b, hr', hr b hr', hb, _, mo_need_w (X := BX X (cY Y b) a (some t) μ ν wi si d) rfl ht, rP_w rfl ht⟩⟩
theorem rK_proc {b : Nat} {X' : MS} (ha : a < 155) (hb : Y.2.2.2.2.2.2.2.2.2.2.2 < 8) (hr : Y.2.2.2.2.2.2.2.2.1 Y.2.2.2.2.2.2.2.2.2.2.2 = some b) (hb2 : b < 8) (hk : r_kind X a = 59) (h : rP (BX X (cY Y b) (a + 1) none μ ν wi si d) X') : rK (BX X Y a none μ ν wi si d) X' :=
  ⟨hb, Or.inr ⟨b, hr, by omega, hb, _, mo_need_y (X := BX X (cY Y b) a none μ ν wi si d) rfl ha hk (by decide), h⟩⟩
theorem rK_procn {b : Nat} (ha : a < 155) (hb : Y.2.2.2.2.2.2.2.2.2.2.2 < 8) (hr : Y.2.2.2.2.2.2.2.2.1 Y.2.2.2.2.2.2.2.2.2.2.2 = some b) (hb2 : b < 8) (hk : ¬ r_kind X a = 59) (hl : r_kind X a < 2147483648) : rK (BX X Y a none μ ν wi si d) (BX X (cY Y b) a (some a) μ ν wi si d) :=
  ⟨hb, Or.inr ⟨b, hr, by omega, hb, _, mo_need_n (X := BX X (cY Y b) a none μ ν wi si d) rfl ha hk hl (by decide), rP_w (X := BX X (cY Y b) a (some a) μ ν wi si d) rfl (by omega)⟩⟩
theorem rK_main (ha : a + 1 < 155) (hb : Y.2.2.2.2.2.2.2.2.2.2.2 < 8) (hr : Y.2.2.2.2.2.2.2.2.1 Y.2.2.2.2.2.2.2.2.2.2.2 = none) (hk : r_kind X a = 46) (h0 : r_kind X (a + 1) = 0) : rK (BX X Y a none μ ν wi si d) (BX X Y (a + 1) none μ ν wi si d) :=
  ⟨hb, Or.inl ⟨hr, _, mo_need_y (X := BX X Y a none μ ν wi si d) rfl (show a < 155 by omega) hk (by decide), Or.inl ⟨rfl, ha, (show r_kind X (a + 1) < 2147483648 by omega), Or.inl ⟨h0, rfl⟩⟩⟩⟩
theorem rK_mainn (ha : a < 155) (hb : Y.2.2.2.2.2.2.2.2.2.2.2 < 8) (hr : Y.2.2.2.2.2.2.2.2.1 Y.2.2.2.2.2.2.2.2.2.2.2 = none) (hk : ¬ r_kind X a = 46) (hl : r_kind X a < 2147483648) : rK (BX X Y a none μ ν wi si d) (BX X Y a (some a) μ ν wi si d) :=
  ⟨hb, Or.inl ⟨hr, _, mo_need_n (X := BX X Y a none μ ν wi si d) rfl ha hk hl (by decide), Or.inr ⟨a, rfl, by omega, rfl⟩⟩⟩
theorem rK_mainx (ha : a + 1 < 155) (hb : Y.2.2.2.2.2.2.2.2.2.2.2 < 8) (hr : Y.2.2.2.2.2.2.2.2.1 Y.2.2.2.2.2.2.2.2.2.2.2 = none) (hk : r_kind X a = 46) (h0 : ¬ r_kind X (a + 1) = 0) (hl : r_kind X (a + 1) < 2147483648) : rK (BX X Y a none μ ν wi si d) (BX X Y (a + 1) (some (a + 1)) μ ν wi si d) :=
  ⟨hb, Or.inl ⟨hr, _, mo_need_y (X := BX X Y a none μ ν wi si d) rfl (show a < 155 by omega) hk (by decide), Or.inl ⟨rfl, ha, hl, Or.inr ⟨h0, _, mo_blame_n (X := BX X Y (a + 1) none μ ν wi si d) rfl, rfl⟩⟩⟩⟩
end RB
/-! a block's variables -/
def bP (A X' : MS) : Prop := ∃ X1, mo_beginBlock A X1 ∧ rP X1 X'
def vL (A X' : MS) : Prop := ∃ X1, (∃ n, mo_beginBlock_go n 0 A X1) ∧ rP X1 X'
def dP (k : Nat) (K : MS → MS → Prop) (A X' : MS) : Prop := ∃ B, mo_declare k A B ∧ K B X'
def pT (A X' : MS) : Prop := ∃ X1, (∃ n, mo_procedure_go n 1 0 A X1) ∧ rP X1 X'
def pL (p : Nat) (A X' : MS) : Prop := ∃ X1, (∃ n, mo_procedure_go n 0 p A X1) ∧ rP X1 X'
def aL (p : Nat) (K : MS → MS → Prop) (A X' : MS) : Prop := ∃ B, mo_parameter p A B ∧ K B X'
theorem vL_w {X : MS} {t : Nat} (hw : r_wrong X = some t) (ht : t < 2147483648) : vL X X := by
  refine ⟨X, ⟨1, ?_⟩, rP_w hw ht⟩
  rw [mo_beginBlock_go]
  exact ⟨false, X, mo_take_w hw ht, Or.inr ⟨by decide, X, mo_need_w hw ht, rfl⟩⟩
theorem vL_comma {A A1 X' : MS} (h : mo_take 44 A true A1) (k : dP 0 vL A1 X') : vL A X' := by
  obtain ⟨B, h1, X1, ⟨n, h2⟩, h3⟩ := k
  refine ⟨X1, ⟨n + 1, ?_⟩, h3⟩
  rw [mo_beginBlock_go]
  exact ⟨true, A1, h, Or.inl ⟨rfl, B, h1, h2⟩⟩
theorem vL_end {A A1 X' : MS} (h : mo_take 44 A false A) (hn : mo_need 59 A A1) (k : rP A1 X') : vL A X' := by
  refine ⟨A1, ⟨1, ?_⟩, k⟩
  rw [mo_beginBlock_go]
  exact ⟨false, A, h, Or.inr ⟨by decide, A1, hn, rfl⟩⟩
theorem bP_var {A A1 X' : MS} (h : mo_take 3 A true A1) (k : dP 0 vL A1 X') : bP A X' := by
  obtain ⟨B, h1, X1, h2, h3⟩ := k
  exact ⟨X1, ⟨true, A1, h, Or.inl ⟨rfl, B, h1, h2⟩⟩, h3⟩
theorem bP_no {A X' : MS} (h : mo_take 3 A false A) (k : rP A X') : bP A X' := ⟨A, ⟨false, A, h, Or.inr ⟨by decide, rfl⟩⟩, k⟩
theorem pT_of {A A1 X' : MS} (h : mo_need 59 A A1) (k : bP A1 X') : pT A X' := by
  obtain ⟨X1, h1, h2⟩ := k
  refine ⟨X1, ⟨1, ?_⟩, h2⟩
  rw [mo_procedure_go]
  exact ⟨A1, h, X1, h1, rfl⟩
theorem bP_w {X : MS} {t : Nat} (hw : r_wrong X = some t) (ht : t < 2147483648) : bP X X := bP_no (mo_take_w hw ht) (rP_w hw ht)
theorem pT_w {X : MS} {t : Nat} (hw : r_wrong X = some t) (ht : t < 2147483648) : pT X X := pT_of (mo_need_w hw ht) (bP_w hw ht)
theorem pL_comma {p : Nat} {A A1 X' : MS} (h : mo_take 44 A true A1) (k : aL p (pL p) A1 X') : pL p A X' := by
  obtain ⟨B, h1, X1, ⟨n, h2⟩, h3⟩ := k
  refine ⟨X1, ⟨n + 1, ?_⟩, h3⟩
  rw [mo_procedure_go]
  exact ⟨true, A1, h, Or.inl ⟨rfl, B, h1, h2⟩⟩
theorem pL_end {p : Nat} {A A1 X' : MS} (h : mo_take 44 A false A) (hn : mo_need 41 A A1) (k : pT A1 X') : pL p A X' := by
  obtain ⟨X1, ⟨n, h2⟩, h3⟩ := k
  refine ⟨X1, ⟨n + 1, ?_⟩, h3⟩
  rw [mo_procedure_go]
  exact ⟨false, A, h, Or.inr ⟨by decide, A1, hn, h2⟩⟩
theorem pL_w {p : Nat} {X : MS} {t : Nat} (hw : r_wrong X = some t) (ht : t < 2147483648) : pL p X X := pL_end (mo_take_w hw ht) (mo_need_w hw ht) (pT_w hw ht)
/-! the outcome of a reading -/
def BO (T : Tk) (m : Nat) (X : MS) (S : CS) (Y : MS2) (μ ν wi si : Nat → Nat) (de : Nat) (R : CR) (P Q : MS → MS → Prop) (E : Nat → CS → MS2 → (Nat → Nat) → (Nat → Nat) → Prop) : Prop :=
  match R with
  | (.inl q, _) => ∃ t Y' a μ' ν' wi' si' d', t ≤ m ∧ T.2.1 t = q ∧ P (BX X Y S.1 none μ ν wi si de) (BX X Y' a (some t) μ' ν' wi' si' d')
  | (.inr v, S1) => ∃ Y' μ' ν' wi' si' d', E v S1 Y' μ' ν' ∧ ∀ X', Q (BX X Y' S1.1 none μ' ν' wi' si' d') X' → P (BX X Y S.1 none μ ν wi si de) X'
section BOs
variable {T : Tk} {m : Nat} {X : MS} {S : CS} {Y : MS2} {μ ν wi si : Nat → Nat} {de : Nat}
theorem BO.bd {x : CS → CR} {f : Nat → CS → CR} {P Q Q' : MS → MS → Prop} {E E' : Nat → CS → MS2 → (Nat → Nat) → (Nat → Nat) → Prop} (h : BO T m X S Y μ ν wi si de (x S) P Q E) (k : ∀ v S1 Y' μ' ν' wi' si' d', x S = (.inr v, S1) → E v S1 Y' μ' ν' → BO T m X S1 Y' μ' ν' wi' si' d' (f v S1) Q Q' E') : BO T m X S Y μ ν wi si de (bd x f S) P Q' E' := by
  rcases hx : x S with ⟨q | v, S1⟩
  · rw [bd_no hx]; rw [hx] at h; exact h
  · rw [bd_ok hx]
    rw [hx] at h
    obtain ⟨Y', μ', ν', wi', si', d', h1, h2⟩ := h
    have k := k v S1 Y' μ' ν' wi' si' d' hx h1
    rcases hy : f v S1 with ⟨q | w, S2⟩
    · rw [hy] at k
      obtain ⟨t, Y2, a, μ2, ν2, wi2, si2, d2, k1, k2, k3⟩ := k
      exact ⟨t, Y2, a, μ2, ν2, wi2, si2, d2, k1, k2, h2 _ k3⟩
    · rw [hy] at k
      obtain ⟨Y2, μ2, ν2, wi2, si2, d2, k1, k2⟩ := k
      exact ⟨Y2, μ2, ν2, wi2, si2, d2, k1, fun X' hX => h2 _ (k2 X' hX)⟩
theorem BO.pre {S' : CS} {Y0 : MS2} {μ0 ν0 wi0 si0 : Nat → Nat} {d0 : Nat} {R : CR} {P P' Q : MS → MS → Prop} {E : Nat → CS → MS2 → (Nat → Nat) → (Nat → Nat) → Prop} (h : BO T m X S' Y0 μ0 ν0 wi0 si0 d0 R P' Q E) (k : ∀ X', P' (BX X Y0 S'.1 none μ0 ν0 wi0 si0 d0) X' → P (BX X Y S.1 none μ ν wi si de) X') : BO T m X S Y μ ν wi si de R P Q E := by
  rcases R with ⟨q | v, S1⟩
  · obtain ⟨t, Y', a, μ', ν', wi', si', d', h1, h2, h3⟩ := h
    exact ⟨t, Y', a, μ', ν', wi', si', d', h1, h2, k _ h3⟩
  · obtain ⟨Y', μ', ν', wi', si', d', h1, h2⟩ := h
    exact ⟨Y', μ', ν', wi', si', d', h1, fun X' hX => k _ (h2 X' hX)⟩
theorem BO.post {R : CR} {P Q : MS → MS → Prop} {E E' : Nat → CS → MS2 → (Nat → Nat) → (Nat → Nat) → Prop} (h : BO T m X S Y μ ν wi si de R P Q E) (k : ∀ v S1 Y' μ' ν', E v S1 Y' μ' ν' → E' v S1 Y' μ' ν') : BO T m X S Y μ ν wi si de R P Q E' := by
  rcases R with ⟨q | v, S1⟩
  · exact h
  · obtain ⟨Y', μ', ν', wi', si', d', h1, h2⟩ := h
    exact ⟨Y', μ', ν', wi', si', d', k _ _ _ _ _ h1, h2⟩
theorem BO.end {v : Nat} {P : MS → MS → Prop} {E : Nat → CS → MS2 → (Nat → Nat) → (Nat → Nat) → Prop} (h : E v S Y μ ν) : BO T m X S Y μ ν wi si de (.inr v, S) P P E := ⟨Y, μ, ν, wi, si, de, h, fun _ h => h⟩
theorem bo_bad {S' : CS} {t a : Nat} {Y' : MS2} {P Q : MS → MS → Prop} {E : Nat → CS → MS2 → (Nat → Nat) → (Nat → Nat) → Prop} (ht : t ≤ m) (h : P (BX X Y S.1 none μ ν wi si de) (BX X Y' a (some t) μ ν wi si de)) : BO T m X S Y μ ν wi si de (.inl (T.2.1 t), S') P Q E := ⟨t, Y', a, μ, ν, wi, si, de, ht, rfl, h⟩
end BOs
/-! the statements of a block -/
section TOP
variable {T : Tk} {m : Nat} {N : Nm} {σ bl : Nat → Nat} {X : MS}
def TO (T : Tk) (m : Nat) (N : Nm) (σ : Nat → Nat) (X : MS) (S : CS) (μ ν wi si : Nat → Nat) (R : CR) (P : MS → MS → Prop) (G : (Nat → Nat) → Prop) : Prop :=
  match R with
  | (.inl q, _) => ∃ t a μ' ν' wi' si' d', t ≤ m ∧ T.2.1 t = q ∧ P (QX X S.1 none μ ν wi si 0) (QX X a (some t) μ' ν' wi' si' d')
  | (.inr _, S1) => ∃ μ' ν' wi' si', MM T N σ S.1 S1.1 μ μ' ∧ (∀ t, t < S.1 ∨ S1.1 ≤ t → ν' t = ν t) ∧ (∀ νf : Nat → Nat, (∀ t, S.1 ≤ t → t < S1.1 → νf t = ν' t) → G νf) ∧ P (QX X S.1 none μ ν wi si 0) (QX X S1.1 none μ' ν' wi' si' 0)
theorem to_tend (h : ST T m N σ bl X) {S : CS} {μ ν wi si : Nat → Nat} {G : (Nat → Nat) → Prop} (o : Ok m S) (h11 : ¬ kd T S.1 = 11) (hG : ∀ νf, G νf) : TO T m N σ X S μ ν wi si (cp_expect T 3 S) sB G := by
  obtain ⟨t, hT, hN⟩ := h
  have tm := t.1
  have o1 := o.1
  unfold cp_expect
  by_cases h3 : kd T S.1 = 3
  · rw [if_pos h3]
    have e1 := adv_1 t o h3 (by decide)
    refine ⟨μ, ν, wi, si, ?_, fun _ _ => rfl, fun νf _ => hG νf, ?_⟩
    · rw [e1]; exact MM.rf.skip (by omega)
    · rw [e1]
      exact sB0_end (by omega) (hT.eq o.1 h3)
  · rw [if_neg h3]
    exact ⟨S.1, S.1, μ, ν, wi, si, 0, o.1, rfl, sB0_bad (by omega) (hT.ne t (j := 11) o.1 (by decide) h11) (hT.ne t (j := 3) o.1 (by decide) h3) (hT.lt t o.1)⟩
theorem to_step (h : ST T m N σ bl X) {S : CS} {μ ν wi si : Nat → Nat} {f : Nat → CS → CR} {G : (Nat → Nat) → Prop} (o : Ok m S) (c : C2 S) (e : S.2.1 = N) (hP : PA S.2.2 N σ X.2.2.1)
    (k : ∀ v S1 μ1 ν1 wi1 si1, cp_stm T 8 S = (.inr v, S1) → GS m S S1 → TO T m N σ X S1 μ1 ν1 wi1 si1 (f v S1) sB (fun νf => nxs T νf 8 S → G νf)) (hf : ∀ v S1 v2 S2, GS m S S1 → f v S1 = (.inr v2, S2) → S1.1 ≤ S2.1) : TO T m N σ X S μ ν wi si (bd (cp_stm T 8) f S) sH G := by
  have t := h.1
  have r := so_stm h 8 S μ ν wi si 0 (by omega) o c e hP
  rcases hR : cp_stm T 8 S with ⟨q | v, S1⟩
  · rw [bd_no hR]
    rw [hR] at r
    exact r
  · rw [bd_ok hR]
    rw [hR] at r
    obtain ⟨μ1, ν1, wi1, si1, x1, x2, x3, x4, x5⟩ := r
    have g := gs_stm t 8 S S1 v o c trivial hR
    have g1 := g.1
    have k := k v S1 μ1 ν1 wi1 si1 hR g
    have hf := fun v2 S2 => hf v S1 v2 S2 g
    rcases hR2 : f v S1 with ⟨q | v2, S2⟩
    · rw [hR2] at k
      obtain ⟨q', a, μ', ν', wi', si', d', y1, y2, y3⟩ := k
      exact ⟨q', a, μ', ν', wi', si', d', y1, y2, x5 _ y3⟩
    · have g2 := hf _ _ hR2
      rw [hR2] at k
      obtain ⟨μ2, ν2, wi2, si2, y1, y2, y3, y4⟩ := k
      refine ⟨μ2, ν2, wi2, si2, x1.tr g1 g2 y1, ?_, ?_, x5 _ y4⟩
      · intro q hq
        rw [y2 q (by omega), x2 q (by simp only [not_false_eq_true, true_and]; omega)]
      · intro νf hf2
        refine y3 νf (fun q h1 h2 => hf2 q (by omega) h2) (x4 νf fun q hq => ?_)
        have hq : S.1 ≤ q ∧ q < S1.1 := by rcases hq with hq | hq; exact absurd hq id; exact hq
        rw [hf2 q hq.1 (by omega), y2 q (by omega)]
theorem to_tail (h : ST T m N σ bl X) : ∀ k S μ ν wi si, m ≤ S.1 + k → Ok m S → C2 S → S.2.1 = N → PA S.2.2 N σ X.2.2.1 → TO T m N σ X S μ ν wi si (bd (cp_rep T 11 (cp_stm T 8) k) (fun _ => cp_expect T 3) S) sB (fun νf => nxr T (cp_stm T 8) (nxs T νf 8) k S) := by
  have t := h.1
  have hT := h.2.1
  have tm := t.1
  intro k
  induction k with
  | zero =>
    intro S μ ν wi si hm o c e hP
    rw [bd_rep_0]
    have o1 := o.1
    have hS : S.1 = m := by omega
    exact to_tend h o (by rw [hS]; rcases t.2.2 with q | q <;> omega) (fun _ => trivial)
  | succ k ih =>
    intro S μ ν wi si hm o c e hP
    have o1 := o.1
    by_cases h11 : kd T S.1 = 11
    · rw [bd_rep_t h11]
      have e1 := adv_1 t o h11 (by decide)
      have ga := gs_adv t o h11 (by decide)
      have k59 : r_kind X S.1 = 59 := hT.eq o.1 h11
      have r : TO T m N σ X (adv S) μ ν wi si (bd (cp_stm T 8) (fun _ => bd (cp_rep T 11 (cp_stm T 8) k) (fun _ => cp_expect T 3)) (adv S)) sH (fun νf => nxr T (cp_stm T 8) (nxs T νf 8) (k + 1) S) := by
        refine to_step h ga.2.1 (ga.c2 c) e hP (fun v S1 μ1 ν1 wi1 si1 hR g => ?_) (fun v S1 v2 S2 g hR2 => ?_)
        · have P1 : PA S1.2.2 N σ X.2.2.1 := hP.cong g.2.2.2.2.2.2.2.1 g.2.2.2.2.2.2.2.2
          have r2 := ih S1 μ1 ν1 wi1 si1 (by have := g.1; omega) g.2.1 (g.c2 (ga.c2 c)) (g.2.2.1.trans e) P1
          rcases hR2 : bd (cp_rep T 11 (cp_stm T 8) k) (fun _ => cp_expect T 3) S1 with ⟨q | v2, S2⟩
          · rw [hR2] at r2
            exact r2
          · rw [hR2] at r2
            obtain ⟨μ2, ν2, wi2, si2, y1, y2, y3, y4⟩ := r2
            refine ⟨μ2, ν2, wi2, si2, y1, y2, fun νf hf hn _ => ⟨hn, fun v' S1' h' => ?_⟩, y4⟩
            rw [hR] at h'
            cases h'
            exact y3 νf hf
        · obtain ⟨w3, S3, i1, i2⟩ := bd_inv hR2
          have k1 := gs_rep t (by decide) (gs_stm t 8) k S1 S3 w3 g.2.1 (g.c2 (ga.c2 c)) trivial i1
          have k2 := gs_expect t (by decide) k1.2.1 i2
          have := k1.1; have := k2.1; omega
      rcases hR : bd (cp_stm T 8) (fun _ => bd (cp_rep T 11 (cp_stm T 8) k) (fun _ => cp_expect T 3)) (adv S) with ⟨q | v2, S2⟩
      · rw [hR] at r
        obtain ⟨q', a, μ', ν', wi', si', d', y1, y2, y3⟩ := r
        rw [e1] at y3
        exact ⟨q', a, μ', ν', wi', si', d', y1, y2, sB0_semi (by omega) k59 y3⟩
      · rw [hR] at r
        obtain ⟨μ2, ν2, wi2, si2, y1, y2, y3, y4⟩ := r
        rw [e1] at y1 y2 y3 y4
        refine ⟨μ2, ν2, wi2, si2, y1.skip (by omega), fun q hq => y2 q (by omega), fun νf hf => y3 νf (fun q h1 h2 => hf q (by omega) h2), sB0_semi (by omega) k59 y4⟩
    · rw [bd_rep_f h11]
      exact to_tend h o h11 (fun _ hk => absurd hk h11)
theorem to_stmts (h : ST T m N σ bl X) {S : CS} {μ ν wi si : Nat → Nat} (o : Ok m S) (c : C2 S) (e : S.2.1 = N) (hP : PA S.2.2 N σ X.2.2.1) : TO T m N σ X S μ ν wi si (cp_stmts T (cp_stm T 8) S) sH (fun νf => nxl T (cp_stm T 8) (nxs T νf 8) S) := by
  have t := h.1
  have tm := t.1
  refine to_step h o c e hP (fun v S1 μ1 ν1 wi1 si1 hR g => ?_) (fun v S1 v2 S2 g hR2 => ?_)
  · have P1 : PA S1.2.2 N σ X.2.2.1 := hP.cong g.2.2.2.2.2.2.2.1 g.2.2.2.2.2.2.2.2
    have r2 := to_tail h 150 S1 μ1 ν1 wi1 si1 (by omega) g.2.1 (g.c2 c) (g.2.2.1.trans e) P1
    rcases hR2 : bd (cp_rep T 11 (cp_stm T 8) 150) (fun _ => cp_expect T 3) S1 with ⟨q | v2, S2⟩
    · rw [hR2] at r2
      exact r2
    · rw [hR2] at r2
      obtain ⟨μ2, ν2, wi2, si2, y1, y2, y3, y4⟩ := r2
      refine ⟨μ2, ν2, wi2, si2, y1, y2, fun νf hf hn => ⟨hn, fun v' S1' h' => ?_⟩, y4⟩
      rw [hR] at h'
      cases h'
      exact y3 νf hf
  · obtain ⟨w3, S3, i1, i2⟩ := bd_inv hR2
    have k1 := gs_rep t (by decide) (gs_stm t 8) 150 S1 S3 w3 g.2.1 (g.c2 c) trivial i1
    have k2 := gs_expect t (by decide) k1.2.1 i2
    have := k1.1; have := k2.1; omega
end TOP
