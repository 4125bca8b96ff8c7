/-! ===== conditions and calls: class and model ===== -/
theorem XO.seq {T : Tk} {m : Nat} {N : Nm} {σ : Nat → Nat} {X : MS} {S : CS} {μ : Nat → Nat} {x R : CR} {P Q Q' : MS → MS → Prop} {E E' : CS → Prop} (h : XO T m N σ X S μ x P Q E) (hno : ∀ q S', x = (.inl q, S') → ∃ S2, R = (.inl q, S2)) (k : ∀ v S1 μ', x = (.inr v, S1) → S.1 ≤ S1.1 → Ok m S1 → S1.2.1 = N → E S1 → XO T m N σ X S1 μ' R Q Q' E') : XO T m N σ X S μ R P Q' E' := by
  rcases hx : x with ⟨q | v, S1⟩
  · obtain ⟨S2, e⟩ := hno q S1 hx
    rw [hx] at h
    rw [e]
    exact h
  · rw [hx] at h
    obtain ⟨h1, h2, h3, h4, μ', h5, h6⟩ := h
    have k := k v S1 μ' hx h1 h2 h3 h4
    rcases hy : R with ⟨q | w, S2⟩
    · rw [hy] at k
      obtain ⟨t, a, μ2, k1, k2, k3, k4⟩ := k
      exact ⟨t, a, μ2, k1, k2, k3, h6 _ k4⟩
    · rw [hy] at k
      obtain ⟨k1, k2, k3, k4, μ2, k5, k6⟩ := k
      exact ⟨Nat.le_trans h1 k1, k2, k3, k4, μ2, h5.tr h1 k1 k5, fun X' hX => h6 _ (k6 X' hX)⟩
/-- a step of a longer one; what was refused stays so -/
theorem XO.conv {T : Tk} {m : Nat} {N : Nm} {σ : Nat → Nat} {X : MS} {S : CS} {μ : Nat → Nat} {R : CR} {P P' K : MS → MS → Prop} {E : CS → Prop} (h : XO T m N σ X S μ R P (fun A B => B = A) E) (hk : ∀ B X', P (EX X S.1 none μ) B → K B X' → P' (EX X S.1 none μ) X') (hb : ∀ a t μ', t ≤ m → a ≤ m → K (EX X a (some t) μ') (EX X a (some t) μ')) : XO T m N σ X S μ R P' K E := by
  rcases R with ⟨q | v, S1⟩
  · obtain ⟨t, a, μ', h1, h2, h3, h4⟩ := h
    exact ⟨t, a, μ', h1, h2, h3, hk _ _ h4 (hb _ _ _ h1 h3)⟩
  · obtain ⟨h1, h2, h3, h4, μ', h5, h6⟩ := h
    exact ⟨h1, h2, h3, h4, μ', h5, fun X' hX => hk _ _ (h6 _ rfl) hX⟩
theorem cmp_kap : ∀ k, k < 29 → (cmpop k = none → kap k < 60 ∨ 62 < kap k) ∧ (cmpop k ≠ none → 60 ≤ kap k ∧ kap k ≤ 62) := by decide +kernel
section PC
variable {T : Tk} {m : Nat} {N : Nm} {σ bl : Nat → Nat} {X : MS}
def kCond (B X' : MS) : Prop := ∀ A, mo_expression A B → mo_condition A X'
theorem px_cond (t : TkOk T m) (hT : TR T m X) (hN : NR N σ bl X.2.2.1) {S : CS} {μ : Nat → Nat} (o : Ok m S) (e : S.2.1 = N) : XO T m N σ X S μ (cp_cond T S) mo_condition (fun A B => B = A) (fun _ => True) := by
  have tm := t.1
  refine XO.bd (Q := kCond) (XO.conv (px_expression t hT hN o e) (fun B X' h k => k _ h) ?_) ?_
  · intro a q μ' hq ha A hA
    have h9 : q < 2147483648 := by omega
    exact ⟨_, hA, Or.inr ⟨q, rfl, h9, _, ex_blame_w h9, _, xE_w h9 (by decide), rfl⟩⟩
  · intro v S1 μ' _ h1 h2 h3 h4
    have o2 := h2.1
    have kk := hT.k h2.1
    have kl := hT.lt t h2.1
    have ck := cmp_kap _ (t.some h2.1).2
    split
    · rename_i hc
      refine ⟨S1.1, S1.1, μ', h2.1, rfl, h2.1, fun A hA => ?_⟩
      have h9 : S1.1 < 2147483648 := by omega
      have h15 : S1.1 < 155 := by omega
      rcases ck.1 hc with h | h
      · exact ⟨_, hA, Or.inl ⟨rfl, h15, kl, Or.inl ⟨by rw [← kk] at h; exact h, _, ex_blame_n, _, xE_w h9 (by decide), rfl⟩⟩⟩
      · exact ⟨_, hA, Or.inl ⟨rfl, h15, kl, Or.inr ⟨by rw [← kk] at h; show ¬ r_kind X S1.1 < 60; omega, h15, Or.inl ⟨by rw [← kk] at h; exact h, _, ex_blame_n, _, xE_w h9 (by decide), rfl⟩⟩⟩⟩
    · rename_i x hc
      have hl := (cmpop_lt hc).1
      have e1 := adv_1 t h2 rfl hl
      have h15 : S1.1 < 155 := by omega
      have c2 := ck.2 (by rw [hc]; simp)
      refine XO.skip (P' := mo_expression) (S' := adv S1) ?_ e1 (fun q => by rw [q] at hc; exact absurd (hc.symm.trans (show cmpop 25 = none by decide)) (by simp)) ?_
      · refine XO.bd (Q := fun A B => B = A) (px_expression t hT hN (ok_adv t h2 rfl hl) h3) fun v S2 μ2 _ k1 k2 k3 _ => ?_
        exact ⟨Nat.le_refl _, ok_add (ok_add k2 (cmpop_lt hc).2) (by decide), k3, trivial, μ2, MM.rf, fun _ h => h⟩
      · intro X' hX A hA
        rw [← kk] at c2
        exact ⟨_, hA, Or.inl ⟨rfl, h15, kl, Or.inr ⟨by show ¬ r_kind X S1.1 < 60; omega, h15, Or.inr ⟨by show ¬ 62 < r_kind X S1.1; omega, _, hX, rfl⟩⟩⟩⟩
/-- the class's procedure q is the model's symbol s -/
def PQ (C : Co) (q s : Nat) (Y : MS2) : Prop := C.2.2.2.2.1 q = Y.2.2.2.2.1 s ∧ Y.2.2.2.2.1 s ≤ 3 ∧ s + 1 + Y.2.2.2.2.1 s ≤ 18 ∧ (∀ k, k < Y.2.2.2.2.1 s → Y.2.1 (s + 1 + k) < 2147483648) ∧ (∀ k, co_isRef C q k = decide (k < Y.2.2.2.2.1 s ∧ Y.2.1 (s + 1 + k) = 2)) ∧ s + 1 + Y.2.2.2.2.1 s ≤ Y.2.2.2.2.2.1
def aP (s p r : Nat) (A X' : MS) : Prop := ∃ B, mo_argument s r A B ∧ ∃ n, mo_call_go p s n 0 (r + 1) B X'
theorem call_w {s p r a q : Nat} {μ : Nat → Nat} (hq : q < 2147483648) : ∃ n, mo_call_go p s n 0 r (EX X a (some q) μ) (EX X a (some q) μ) := by
  refine ⟨1, ?_⟩
  rw [mo_call_go]
  exact ⟨false, _, ex_take_w hq, Or.inr ⟨by decide, _, mo_need_w (X := EX X a (some q) μ) rfl hq, Or.inr ⟨q, rfl, hq, rfl⟩⟩⟩
theorem arg_w {s r a a0 q : Nat} {μ μ0 : Nat → Nat} (hs : s < 18) (hr : r < 2147483648) (ha0 : a0 < 155) (ha : a < 155) (hq : q < 2147483648) (hk : r_kind X a0 < 2147483648) (hx : mo_expression (EX X a0 none μ0) (EX X a (some q) μ)) : mo_argument s r (EX X a0 none μ0) (EX X a (some q) μ) := by
  refine ⟨_, hx, (show a < 2147483648 by omega), (show a0 + 1 < 2147483648 by omega), ?_⟩
  by_cases h1 : a = a0 + 1
  · refine Or.inl ⟨h1, ha0, hk, ?_⟩
    by_cases h2 : r_kind X a0 = 1
    · exact Or.inl ⟨h2, Or.inr ⟨q, rfl, hq, rfl⟩⟩
    · exact Or.inr ⟨h2, Or.inr ⟨q, rfl, hq, rfl⟩⟩
  · exact Or.inr ⟨h1, Or.inr ⟨q, rfl, hq, rfl⟩⟩
/-- an argument that was read: fit or not -/
theorem arg_ok {s r a a0 : Nat} {μ μ0 : Nat → Nat} (hs : s + 1 + r_wants X s ≤ 18) (hw : r_wants X s ≤ 3) (hso : ∀ k, k < r_wants X s → r_sort X (s + 1 + k) < 2147483648) (hr : r < 2147483648) (ha0 : a0 < 155) (ha : a < 155) (hk : r_kind X a0 < 2147483648) (hx : mo_expression (EX X a0 none μ0) (EX X a none μ)) : mo_argument s r (EX X a0 none μ0) (if (r < r_wants X s ∧ r_sort X (s + 1 + r) = 2) ∧ ¬ (a = a0 + 1 ∧ r_kind X a0 = 1) then EX X a (some a0) μ else EX X a none μ) := by
  refine ⟨_, hx, (show a < 2147483648 by omega), (show a0 + 1 < 2147483648 by omega), ?_⟩
  have hs18 : s < 18 := by omega
  have hw' : r_wants (EX X a none μ) s < 2147483648 := by show r_wants X s < _; omega
  have rest : ∀ (hne : ¬ (a = a0 + 1 ∧ r_kind X a0 = 1)) (Z : MS), (if (r < r_wants X s ∧ r_sort X (s + 1 + r) = 2) ∧ ¬ (a = a0 + 1 ∧ r_kind X a0 = 1) then EX X a (some a0) μ else EX X a none μ) = Z → ((r_wrong (EX X a none μ)) = none ∧ (s < 18 ∧ (r < 2147483648 ∧ (((r_wants (EX X a none μ)) s) < 2147483648 ∧ ((r < ((r_wants (EX X a none μ)) s) ∧ ((poF s r) < 18 ∧ (((r_sort (EX X a none μ)) (poF s r)) < 2147483648 ∧ ((((r_sort (EX X a none μ)) (poF s r)) = 2 ∧ (∃ S30, mo_blame (r_at (EX X a0 none μ0)) (EX X a none μ) S30 ∧ (Z = S30))) ∨ (¬ ((r_sort (EX X a none μ)) (poF s r)) = 2 ∧ (Z = (EX X a none μ))))))) ∨ (¬ r < ((r_wants (EX X a none μ)) s) ∧ (Z = (EX X a none μ)))))))) := by
    intro hne Z hZ
    refine ⟨rfl, hs18, hr, hw', ?_⟩
    by_cases h1 : r < r_wants X s
    · refine Or.inl ⟨h1, (show s + 1 + r < 18 by omega), hso r h1, ?_⟩
      by_cases h2 : r_sort X (s + 1 + r) = 2
      · rw [if_pos ⟨⟨h1, h2⟩, hne⟩] at hZ
        subst hZ
        exact Or.inl ⟨h2, _, ex_blame_n, rfl⟩
      · rw [if_neg (fun q => h2 q.1.2)] at hZ
        subst hZ
        exact Or.inr ⟨h2, rfl⟩
    · rw [if_neg (fun q => h1 q.1.1)] at hZ
      subst hZ
      exact Or.inr ⟨h1, rfl⟩
  by_cases h1 : a = a0 + 1
  · refine Or.inl ⟨h1, ha0, hk, ?_⟩
    by_cases h2 : r_kind X a0 = 1
    · rw [if_neg (fun q => q.2 ⟨h1, h2⟩)]
      exact Or.inl ⟨h2, Or.inl ⟨rfl, rfl⟩⟩
    · exact Or.inr ⟨h2, Or.inl (rest (fun q => h2 q.2) _ rfl)⟩
  · exact Or.inr ⟨h1, Or.inl (rest (fun q => h1 q.1) _ rfl)⟩
/-- the end of a call -/
def cp_fin (T : Tk) (i q t0 : Nat) (v : Nat) (S1 : CS) : CR := if v = S1.2.2.2.2.2.2.1 q then (.inr 0, cadd S1 18 (S1.2.1.2.2.2.2.2.2.1 - S1.2.1.2.2.1 i) q) else (.inl (T.2.1 t0), S1)
theorem px_fin (t : TkOk T m) (hT : TR T m X) {i q s t0 r : Nat} {S : CS} {μ : Nat → Nat} (o : Ok m S) (e : S.2.1 = N) (hP : PQ S.2.2 q s X.2.2.1) (h0 : t0 ≤ m) (hr : r < 2147483648) (hk12 : ¬ kd T S.1 = 12) : XO T m N σ X S μ (bd (bd (cp_expect T 14) (fun _ => cret r)) (cp_fin T i q t0) S) (fun A X' => ∃ n, mo_call_go t0 s n 0 r A X') (fun A B => B = A) (fun _ => True) := by
  have tm := t.1
  have o1 := o.1
  have hs18 : s < 18 := by have := hP.2.2.1; omega
  have n44 : ¬ r_kind X S.1 = 44 := hT.ne t o.1 (j := 12) (by decide) hk12
  have kl := hT.lt t o.1
  have w3 := hP.2.1
  rw [bd_assoc]
  unfold cp_expect
  by_cases h14 : kd T S.1 = 14
  · have e1 := adv_1 t o h14 (by decide)
    have k41 : r_kind X S.1 = 41 := hT.eq o.1 h14
    have hb : bd (fun S => if kd T S.1 = 14 then (.inr 0, adv S) else cp_no T S) (fun _ => bd (cret r) (cp_fin T i q t0)) S = cp_fin T i q t0 r (adv S) := by
      rw [bd_ok (v := 0) (S1 := adv S) (by rw [if_pos h14])]
      rfl
    rw [hb]
    unfold cp_fin
    split
    · rename_i hv
      refine ⟨by show S.1 ≤ (adv S).1; omega, ok_add (ok_adv t o h14 (by decide)) (by decide), e, trivial, μ, ?_, ?_⟩
      · show MM T N σ S.1 (adv S).1 μ μ
        rw [e1]
        exact MM.rf.skip (by omega)
      · show ∀ X', X' = EX X (adv S).1 none μ → _
        rw [e1]
        intro X' hX
        subst hX
        refine ⟨1, ?_⟩
        rw [mo_call_go]
        refine ⟨false, _, ex_take_n (by omega) n44 kl (by decide), Or.inr ⟨by decide, _, mo_need_y (X := EX X S.1 none μ) rfl (show S.1 < 155 by omega) k41 (by decide), Or.inl ⟨rfl, hs18, hr, (show X.2.2.1.2.2.2.2.1 s < 2147483648 by omega), Or.inl ⟨?_, rfl⟩⟩⟩⟩
        have : r = S.2.2.2.2.2.2.1 q := hv
        rw [this]
        exact hP.1
    · rename_i hv
      refine ⟨t0, S.1 + 1, μ, h0, rfl, by rw [← e1]; exact (ok_adv t o h14 (by decide)).1, 1, ?_⟩
      rw [mo_call_go]
      refine ⟨false, _, ex_take_n (by omega) n44 kl (by decide), Or.inr ⟨by decide, _, mo_need_y (X := EX X S.1 none μ) rfl (show S.1 < 155 by omega) k41 (by decide), Or.inl ⟨rfl, hs18, hr, (show X.2.2.1.2.2.2.2.1 s < 2147483648 by omega), Or.inr ⟨?_, _, mo_blame_n rfl, rfl⟩⟩⟩⟩
      intro h
      exact hv (h.trans hP.1.symm)
  · have hb : bd (fun S => if kd T S.1 = 14 then (.inr 0, adv S) else cp_no T S) (fun _ => bd (cret r) (cp_fin T i q t0)) S = (.inl (T.2.1 S.1), S) := by
      rw [bd_no (q := T.2.1 S.1) (S1 := S) (by rw [if_neg h14]; rfl)]
    rw [hb]
    refine ⟨S.1, S.1, μ, o.1, rfl, o.1, 1, ?_⟩
    rw [mo_call_go]
    have h9 : S.1 < 2147483648 := by omega
    exact ⟨false, _, ex_take_n (by omega) n44 kl (by decide), Or.inr ⟨by decide, _, mo_need_n (X := EX X S.1 none μ) rfl (show S.1 < 155 by omega) (hT.ne t o.1 (j := 14) (by decide) h14) kl (by decide), Or.inr ⟨S.1, rfl, h9, rfl⟩⟩⟩
theorem PQ.cong {C C' : Co} {q s : Nat} {Y : MS2} (h : PQ C q s Y) (e1 : C'.2.2.2.2.1 = C.2.2.2.2.1) (e2 : C'.2.2.2.2.2.1 = C.2.2.2.2.2.1) : PQ C' q s Y := by
  refine ⟨by rw [e1]; exact h.1, h.2.1, h.2.2.1, h.2.2.2.1, fun k => ?_, h.2.2.2.2.2⟩
  rw [← h.2.2.2.2.1 k]
  unfold co_isRef
  rw [e2]
theorem bd_cong {x y : CS → CR} {f : Nat → CS → CR} {S S' : CS} (h : x S = y S') : bd x f S = bd y f S' := by unfold bd; rw [h]
theorem XO.at {S S' : CS} {μ : Nat → Nat} {R : CR} {P Q : MS → MS → Prop} {E : CS → Prop} (e : S.1 = S'.1) (h : XO T m N σ X S μ R P Q E) : XO T m N σ X S' μ R P Q E := by
  unfold XO at *
  rw [← e]
  exact h
theorem XO.pre {S : CS} {μ : Nat → Nat} {R : CR} {P P' Q : MS → MS → Prop} {E : CS → Prop} (h : XO T m N σ X S μ R P' Q E) (k : ∀ X', P' (EX X S.1 none μ) X' → P (EX X S.1 none μ) X') : XO T m N σ X S μ R P Q E := by
  rcases R with ⟨q | v, S1⟩
  · obtain ⟨t, a, μ', h1, h2, h3, h4⟩ := h
    exact ⟨t, a, μ', h1, h2, h3, k _ h4⟩
  · obtain ⟨h1, h2, h3, h4, μ', h5, h6⟩ := h
    exact ⟨h1, h2, h3, h4, μ', h5, fun X' hX => k _ (h6 X' hX)⟩
theorem px_al (t : TkOk T m) (hT : TR T m X) (hN : NR N σ bl X.2.2.1) {i q s t0 : Nat} (h0 : t0 ≤ m) : ∀ n r S μ, m < S.1 + n → r + n ≤ 150 → Ok m S → Cp S → S.2.1 = N → PQ S.2.2 q s X.2.2.1 → XO T m N σ X S μ (bd (cp_al T q n r) (cp_fin T i q t0) S) (aP s t0 r) (fun A B => B = A) (fun _ => True) := by
  have tm := t.1
  intro n
  induction n with
  | zero => intro r S μ hm _ o; have := o.1; omega
  | succ n ih =>
    intro r S μ hm hrn o c e hP
    have o1 := o.1
    have hs18 : s < 18 := by have := hP.2.2.1; omega
    have kl0 := hT.lt t o.1
    have ex := px_expression (μ := μ) t hT hN o e
    refine XO.seq (Q := fun B X' => mo_expression (EX X S.1 none μ) B → aP s t0 r (EX X S.1 none μ) X') (XO.conv ex (fun B X' h k => ?_) ?_) ?_ ?_
    · exact k h
    · exact fun a q' μ' hq ha hA => ⟨_, arg_w hs18 (by omega) (by omega) (by omega) (by omega) kl0 hA, call_w (by omega)⟩
    · intro q' S' hx
      exact ⟨S', bd_no (by rw [cp_al]; exact bd_no hx)⟩
    · intro v S1 μ' hx h1 h2 h3 _
      have o2 := h2.1
      have g := gx_expr t 8 S S1 v o c trivial hx
      have hz : cz S1 = S1.2.2.2.2.2.2.2.2.1 := rfl
      have hP1 : PQ S1.2.2 q s X.2.2.1 := hP.cong g.1.2.2.2.2.2.2.2.1 g.1.2.2.2.2.2.2.2.2
      have ak : ∀ hA, mo_argument s r (EX X S.1 none μ) _ := fun hA => arg_ok (μ := μ') (μ0 := μ) (s := s) (r := r) (a := S1.1) (a0 := S.1) (X := X) hP.2.2.1 hP.2.1 hP.2.2.2.1 (by omega) (by omega) (by omega) kl0 hA
      have al : (kd T S.1 = 25 ∧ S1.2.2.2.2.2.2.2.2.1 = S.2.2.2.2.2.2.2.2.1 + 1) ↔ (S1.1 = S.1 + 1 ∧ r_kind X S.1 = 1) := by
        constructor
        · intro h
          exact ⟨(gx_name t o c h.1 hx).mpr h.2, hT.eq o.1 h.1⟩
        · intro h
          have : kd T S.1 = 25 := by
            rcases Nat.decEq (kd T S.1) 25 with q | q
            · exact absurd h.2 (hT.ne t o.1 (j := 25) (by decide) q)
            · exact q
          exact ⟨this, (gx_name t o c this hx).mp h.1⟩
      have fin : ∀ Z : CS, Z.1 = S1.1 → Ok m Z → Z.2.1 = N → Cp Z → PQ Z.2.2 q s X.2.2.1 → ¬ ((r < r_wants X s ∧ r_sort X (s + 1 + r) = 2) ∧ ¬ (S1.1 = S.1 + 1 ∧ r_kind X S.1 = 1)) → cp_al T q (n + 1) r S = (if kd T S1.1 = 12 then cp_al T q n (r + 1) (adv Z) else bd (cp_expect T 14) (fun _ => cret (r + 1)) Z) → XO T m N σ X S1 μ' (bd (cp_al T q (n + 1) r) (cp_fin T i q t0) S) (fun B X' => mo_expression (EX X S.1 none μ) B → aP s t0 r (EX X S.1 none μ) X') (fun A B => B = A) (fun _ => True) := by
        intro Z ez oz nz cz' pz hn hal
        refine XO.at ez ?_
        rw [← ez] at hal
        by_cases hk : kd T Z.1 = 12
        · rw [if_pos hk] at hal
          rw [bd_cong (y := cp_al T q n (r + 1)) (S' := adv Z) hal]
          have e1 := adv_1 t oz hk (by decide)
          have gz := ge_adv t oz hk (by decide)
          refine XO.skip (ih (r + 1) (adv Z) μ' (by omega) (by omega) gz.1.2.1 (gz.1.cp cz') nz pz) e1 (by omega) ?_
          intro X' hX hA
          obtain ⟨B, hB, n2, hn2⟩ := hX
          have hA' := ak (ez ▸ hA)
          rw [if_neg hn] at hA'
          refine ⟨_, hA', n2 + 1, ?_⟩
          rw [mo_call_go]
          rw [ez] at hB
          exact ⟨true, _, ex_take_y (by omega) (hT.eq (j := 12) h2.1 (ez ▸ hk)) (by decide), Or.inl ⟨rfl, B, hB, hn2⟩⟩
        · rw [if_neg hk] at hal
          rw [bd_cong (y := bd (cp_expect T 14) (fun _ => cret (r + 1))) (S' := Z) hal]
          refine XO.pre (px_fin t hT oz nz pz h0 (by omega) hk) ?_
          intro X' hX hA
          have hA' := ak (ez ▸ hA)
          rw [if_neg hn] at hA'
          rw [ez] at hX
          exact ⟨_, hA', hX⟩
      have hal : cp_al T q (n + 1) r S = (if co_isRef S1.2.2 q r = true then
        (if kd T S.1 = 25 ∧ S1.2.2.2.2.2.2.2.2.1 = S.2.2.2.2.2.2.2.2.1 + 1 then
          (if kd T S1.1 = 12 then cp_al T q n (r + 1) (adv (cadr S1 S.2.2.2.2.2.2.2.2.1)) else bd (cp_expect T 14) (fun _ => cret (r + 1)) (cadr S1 S.2.2.2.2.2.2.2.2.1))
        else (.inl (T.2.1 S.1), S1))
      else (if kd T S1.1 = 12 then cp_al T q n (r + 1) (adv S1) else bd (cp_expect T 14) (fun _ => cret (r + 1)) S1)) := by rw [cp_al, bd_ok hx]
      by_cases hr : co_isRef S1.2.2 q r = true
      · rw [if_pos hr] at hal
        have hr2 : r < r_wants X s ∧ r_sort X (s + 1 + r) = 2 := by
          rw [hP1.2.2.2.2.1 r] at hr
          exact of_decide_eq_true hr
        by_cases ha : kd T S.1 = 25 ∧ S1.2.2.2.2.2.2.2.2.1 = S.2.2.2.2.2.2.2.2.1 + 1
        · rw [if_pos ha] at hal
          have gA := ge_adr (k := S.2.2.2.2.2.2.2.2.1) g.1 (Nat.le_refl _)
          exact fin (cadr S1 S.2.2.2.2.2.2.2.2.1) rfl gA.2.1 h3 (gA.cp c) (hP.cong gA.2.2.2.2.2.2.2.1 gA.2.2.2.2.2.2.2.2) (fun q => q.2 (al.mp ha)) hal
        · rw [if_neg ha] at hal
          rw [bd_no hal]
          refine ⟨S.1, S1.1, μ', o.1, rfl, h2.1, fun hA => ?_⟩
          have hA' := ak hA
          rw [if_pos ⟨hr2, fun q => ha (al.mpr q)⟩] at hA'
          exact ⟨_, hA', call_w (by omega)⟩
      · rw [if_neg hr] at hal
        have hr2 : ¬ (r < r_wants X s ∧ r_sort X (s + 1 + r) = 2) := by
          rw [hP1.2.2.2.2.1 r] at hr
          exact fun q => hr (decide_eq_true q)
        exact fin S1 rfl h2 h3 (g.1.cp c) hP1 (fun q => hr2 q.1) hal
/-- a call: from behind the name on -/
theorem px_call (t : TkOk T m) (hT : TR T m X) (hN : NR N σ bl X.2.2.1) {i q s t0 : Nat} (h0 : t0 ≤ m) {S : CS} {μ : Nat → Nat} (o : Ok m S) (h1 : 1 ≤ S.1) (c : Cp S) (e : S.2.1 = N) (hP : PQ S.2.2 q s X.2.2.1) : XO T m N σ X S μ (bd (cp_args T q) (cp_fin T i q t0) S) (mo_call t0 s) (fun A B => B = A) (fun _ => True) := by
  have tm := t.1
  have o1 := o.1
  have kl := hT.lt t o.1
  have hs18 : s < 18 := by have := hP.2.2.1; omega
  have w3 := hP.2.1
  by_cases hk : kd T S.1 = 13
  · have e1 := adv_1 t o hk (by decide)
    have gz := ge_adv t o hk (by decide)
    rw [bd_cong (x := cp_args T q) (y := cp_al T q 150 0) (S' := adv S) (by unfold cp_args; rw [if_pos hk])]
    refine XO.skip (px_al t hT hN h0 150 0 (adv S) μ (by omega) (by omega) gz.1.2.1 (gz.1.cp c) e hP) e1 (by omega) ?_
    intro X' hX
    obtain ⟨B, hB, n2, hn2⟩ := hX
    exact ⟨true, _, ex_take_y (by omega) (hT.eq o.1 hk) (by decide), Or.inl ⟨rfl, B, hB, n2, hn2⟩⟩
  · have hb : bd (cp_args T q) (cp_fin T i q t0) S = cp_fin T i q t0 0 S := bd_ok (by unfold cp_args; rw [if_neg hk])
    rw [hb]
    have hwl : r_wants (EX X S.1 none μ) s < 2147483648 := by show X.2.2.1.2.2.2.2.1 s < _; omega
    have tn := ex_take_n (μ := μ) (show S.1 < 155 by omega) (hT.ne t o.1 (j := 13) (by decide) hk) kl (by decide)
    unfold cp_fin
    split
    · rename_i hv
      refine ⟨Nat.le_refl _, ok_add o (by decide), e, trivial, μ, MM.rf, fun X' hX => ?_⟩
      subst hX
      exact ⟨false, _, tn, Or.inr ⟨by decide, Or.inl ⟨rfl, hs18, hwl, Or.inl ⟨hv.trans hP.1, rfl⟩⟩⟩⟩
    · rename_i hv
      exact ⟨t0, S.1, μ, h0, rfl, o.1, false, _, tn, Or.inr ⟨by decide, Or.inl ⟨rfl, hs18, hwl, Or.inr ⟨fun h => hv (h.trans hP.1.symm), _, ex_blame_n, rfl⟩⟩⟩⟩
end PC
