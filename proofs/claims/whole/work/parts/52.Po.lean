/-! ===== procedures: class and model ===== -/
def wY (Y : MS2) (p : Nat) : MS2 := (Y.1, Y.2.1, Y.2.2.1, Y.2.2.2.1, va_up Y.2.2.2.2.1 p (Y.2.2.2.2.1 p + 1), Y.2.2.2.2.2)
section PO
variable {T : Tk} {m : Nat} {X : MS}
theorem par_ok {Y Y' : MS2} {a0 a1 a' d p km : Nat} {w' : Option Nat} {μ ν wi si : Nat → Nat} {b : Bool} (hb : km = if b = true then 2 else 1) (ht : mo_take 64 (BX X Y a0 none μ ν wi si d) b (BX X Y a1 none μ ν wi si d)) (hp : p < 18) (hw : Y.2.2.2.2.1 p < 3) (hd : mo_declare km (BX X Y a1 none μ ν wi si d) (BX X Y' a' w' μ ν wi si d)) : mo_parameter p (BX X Y a0 none μ ν wi si d) (BX X (wY Y' p) a' w' μ ν wi si d) := by
  refine ⟨b, _, ht, hp, (show Y.2.2.2.2.1 p < 2147483648 by omega), Or.inr ⟨(show ¬ Y.2.2.2.2.1 p = 3 by omega), ?_⟩⟩
  by_cases h : b = true
  · rw [if_pos h] at hb
    subst hb
    exact Or.inl ⟨h, _, hd, hp, hp, rfl⟩
  · rw [if_neg h] at hb
    subst hb
    exact Or.inr ⟨h, _, hd, hp, hp, rfl⟩
theorem par_3 {Y : MS2} {a0 a1 d p : Nat} {μ ν wi si : Nat → Nat} {b : Bool} (ha : a1 < 2147483648) (ht : mo_take 64 (BX X Y a0 none μ ν wi si d) b (BX X Y a1 none μ ν wi si d)) (hp : p < 18) (hw : Y.2.2.2.2.1 p = 3) : mo_parameter p (BX X Y a0 none μ ν wi si d) (BX X (wY Y p) a1 (some a1) μ ν wi si d) := by
  have hbl := mo_blame_n (X := BX X Y a1 none μ ν wi si d) (t := a1) rfl
  refine ⟨b, _, ht, hp, (show Y.2.2.2.2.1 p < 2147483648 by omega), Or.inl ⟨hw, _, hbl, ?_⟩⟩
  have dw := fun k => dc_w (X := X) (Y := Y) (a := a1) (d := d) (μ := μ) (ν := ν) (wi := wi) (si := si) (k := k) (t := a1) ha
  by_cases h : b = true
  · exact Or.inl ⟨h, _, dw 2, hp, hp, rfl⟩
  · exact Or.inr ⟨h, _, dw 1, hp, hp, rfl⟩
theorem or_bit : ∀ x, x < 8 → ∀ w, w < 3 → ∀ k, k < 3 → decide ((x ||| 2 ^ w) / 2 ^ k % 2 = 1) = (decide (k = w) || decide (x / 2 ^ k % 2 = 1)) := by decide +kernel
/-- a header is being read -/
def HV (T : Tk) (m : Nat) (S : CS) (Y : MS2) (μ ν σ bl : Nat → Nat) (p q : Nat) : Prop := IV T m S Y μ ν σ bl ∧ p < Y.2.2.2.2.2.1 ∧ Y.2.1 p = 3 ∧ cnt (pAll Y) p = q ∧ Y.2.2.2.1 p = Y.2.2.2.2.2.2.2.2.2.2.2 ∧ p + 1 + Y.2.2.2.2.1 p = Y.2.2.2.2.2.1 ∧ cnt (vIn Y (Y.2.2.2.1 p)) Y.2.2.2.2.2.1 = Y.2.2.2.2.1 p ∧ Y.2.2.2.2.2.1 ≤ 18 ∧ JJ T m q S Y μ ν bl ∧ q ≤ S.2.1.2.2.2.2.2.2.2.2
def EH (T : Tk) (m : Nat) (bl : Nat → Nat) (p q L a : Nat) (_ : Nat) (S1 : CS) (Y' : MS2) (μ' ν' : Nat → Nat) : Prop := (∃ σ', HV T m S1 Y' μ' ν' σ' bl p q) ∧ S1.2.1.2.2.2.2.2.2.1 = L ∧ a < S1.1
theorem hv_par {S : CS} {Y : MS2} {μ ν σ σ' bl : Nat → Nat} {p q k km : Nat} {w : Int64} {C' : Co} (hH : HV T m S Y μ ν σ bl p q) (hk : (k = 0 ∧ km = 1) ∨ (k = 1 ∧ km = 2)) (h3 : Y.2.2.2.2.1 p < 3) (hN : NR (nm_add S.2.1 w k) σ' bl (dY Y km w)) (o : Ok m (S.1 + 1, nm_add S.2.1 w k, S.2.2)) (oC : CoOk C')
    (e1 : C'.1 = S.2.2.1) (e2 : C'.2.1 = S.2.2.2.1) (e3 : C'.2.2.1 = S.2.2.2.2.1) (e4 : C'.2.2.2.1 = S.2.2.2.2.2.1) (e5 : C'.2.2.2.2.1 = va_up S.2.2.2.2.2.2.1 q (S.2.2.2.2.2.2.1 q + 1)) (e6 : C'.2.2.2.2.2.1 = if km = 2 then va_up S.2.2.2.2.2.2.2.1 q (S.2.2.2.2.2.2.2.1 q ||| 2 ^ S.2.2.2.2.2.2.1 q) else S.2.2.2.2.2.2.2.1) (e7 : C'.2.2.2.2.2.2 = S.2.2.2.2.2.2.2.2) : HV T m (S.1 + 1, nm_add S.2.1 w k, C') (wY (dY Y km w) p) μ ν σ' bl p q := by
  obtain ⟨hI, h1, h2, h4, h5, h6, h7, h8, hJs, hqp⟩ := hH
  have hk2 : k ≠ 2 := by omega
  have hk3 : km ≠ 3 := by omega
  have hI2 := hI.var0 hk2 hk3 hN o
  obtain ⟨hN0, o0, c0, hPH0, hbl0, hJ0⟩ := hI
  obtain ⟨hN1, o1, c1, hPH1, hbl1, hJ1, hpr1⟩ := hI2
  have sp : p ≠ Y.2.2.2.2.2.1 := by omega
  have up : ∀ {α : Type} (f : Nat → α) (z : α) (s : Nat), s < Y.2.2.2.2.2.1 → va_up f Y.2.2.2.2.2.1 z s = f s := fun f z s hs => by unfold va_up; rw [if_neg (by omega)]
  have wants1 : (dY Y km w).2.2.2.2.1 p = Y.2.2.2.2.1 p := up _ _ p h1
  have wants2 : (wY (dY Y km w) p).2.2.2.2.1 p = Y.2.2.2.2.1 p + 1 := by show va_up _ p _ p = _; rw [va_same, wants1]
  have sort1 : (dY Y km w).2.1 p = 3 := (up _ _ p h1).trans h2
  have sy1 : (dY Y km w).2.2.2.2.2.1 = Y.2.2.2.2.2.1 + 1 := rfl
  have cp1 : cnt (pAll (dY Y km w)) p = q := ((ext_dY (C := S.2.2) (a := 0) (a' := 0) (μ := μ) (ν := ν) (Nat.le_refl _)).cP (Nat.le_of_lt h1)).trans h4
  have x : EXT (dY Y km w) S.2.2 (S.1 + 1) μ ν (wY (dY Y km w) p) C' (S.1 + 1) μ ν := ⟨⟨Nat.le_refl _, fun _ _ => ⟨rfl, rfl, rfl⟩⟩, ⟨Nat.le_refl _, fun _ _ => rfl⟩, ⟨by rw [e7]; exact Nat.le_refl _, fun i _ => ⟨by rw [e1], by rw [e2], by rw [e3]⟩⟩, Nat.le_refl _, fun _ _ => ⟨rfl, rfl⟩⟩
  have new : Y.2.2.2.2.2.1 = p + 1 + Y.2.2.2.2.1 p := h6.symm
  obtain ⟨⟨q1, q2, q3, q4, q5, q6⟩, a1, a2, a3, a4⟩ := hPH1 p (by rw [sy1]; omega) sort1
  rw [cp1] at q1 q5 a1
  rw [wants1] at q1 q2 q3 q4 q5 q6 a4
  have par : S.2.2.2.2.2.2.1 q = Y.2.2.2.2.1 p := q1
  have own1 : (dY Y km w).2.2.2.1 p = Y.2.2.2.1 p := rfl
  have blk1 : (dY Y km w).2.2.2.2.2.2.2.2.2.2.2 = Y.2.2.2.2.2.2.2.2.2.2.2 := rfl
  have sortN : (dY Y km w).2.1 (p + 1 + Y.2.2.2.2.1 p) = km := by rw [h6]; exact va_same _ _ _
  have homeN : (dY Y km w).2.2.1 (p + 1 + Y.2.2.2.2.1 p) = Y.2.2.2.2.2.2.2.2.2.2.2 := by rw [h6]; exact va_same _ _ _
  have cV1 : cnt (vIn (dY Y km w) (Y.2.2.2.1 p)) Y.2.2.2.2.2.1 = Y.2.2.2.2.1 p := ((ext_dY (C := S.2.2) (a := 0) (a' := 0) (μ := μ) (ν := ν) (Nat.le_refl _)).cV (Nat.le_refl _)).trans h7
  have h18 : Y.2.2.2.2.2.1 + 1 ≤ 18 := by
    have z := hN1.1.2.2
    have z4 : (nm_add S.2.1 w k).2.2.2.2.2.2.2.1 ≤ 12 := o.2.1.2.1
    have z5 : (nm_add S.2.1 w k).2.2.2.2.2.2.2.2 ≤ 6 := o.2.1.2.2.1
    rw [sy1] at z
    have z6 : Y.2.2.2.2.2.1 + 1 = (nm_add S.2.1 w k).2.2.2.2.2.2.2.1 + (nm_add S.2.1 w k).2.2.2.2.2.2.2.2 := z
    omega
  have hPH : PH C' (wY (dY Y km w) p) := by
    intro s hs hs3
    have hs : s < (dY Y km w).2.2.2.2.2.1 := hs
    have hs3 : (dY Y km w).2.1 s = 3 := hs3
    by_cases hsp : s = p
    · subst hsp
      have cpw : cnt (pAll (wY (dY Y km w) s)) s = q := cp1
      rw [cpw, wants2]
      refine ⟨⟨?_, by omega, by omega, ?_, ?_, ?_⟩, a1, a2, a3, ?_⟩
      · rw [e5, va_same, wants2, par]
      · intro k' hk'
        rw [wants2] at hk'
        show (dY Y km w).2.1 (s + 1 + k') < 2147483648
        rcases Nat.lt_or_ge k' (Y.2.2.2.2.1 s) with z | z
        · exact q4 k' z
        · have : k' = Y.2.2.2.2.1 s := by omega
          subst this
          rw [sortN]; omega
      · intro k'
        rw [wants2]
        show co_isRef C' q k' = decide (k' < Y.2.2.2.2.1 s + 1 ∧ (dY Y km w).2.1 (s + 1 + k') = 2)
        have old := q5 k'
        unfold co_isRef at old ⊢
        rw [e6]
        have r8 : S.2.2.2.2.2.2.2.1 q < 8 := o0.2.2.2.2.1 q
        by_cases hkm : km = 2
        · rw [if_pos hkm, va_same, par]
          by_cases hk3 : k' < 3
          · rw [or_bit _ r8 _ h3 _ hk3]
            by_cases hkw : k' = Y.2.2.2.2.1 s
            · subst hkw
              rw [sortN]
              simp [hk3, hkm]
            · have e9 : (k' < Y.2.2.2.2.1 s + 1 ∧ (dY Y km w).2.1 (s + 1 + k') = 2) ↔ (k' < Y.2.2.2.2.1 s ∧ (dY Y km w).2.1 (s + 1 + k') = 2) := ⟨fun z => ⟨by omega, z.2⟩, fun z => ⟨by omega, z.2⟩⟩
              rw [decide_eq_decide.mpr e9, ← old]
              simp [hkw]
          · have e9 : ¬ (k' < Y.2.2.2.2.1 s + 1 ∧ (dY Y km w).2.1 (s + 1 + k') = 2) := fun z => by omega
            simp [hk3, e9]
        · rw [if_neg hkm]
          have e9 : (k' < Y.2.2.2.2.1 s + 1 ∧ (dY Y km w).2.1 (s + 1 + k') = 2) ↔ (k' < Y.2.2.2.2.1 s ∧ (dY Y km w).2.1 (s + 1 + k') = 2) := ⟨fun z => ⟨by
            rcases Nat.lt_or_ge k' (Y.2.2.2.2.1 s) with y | y
            · exact y
            · have : k' = Y.2.2.2.2.1 s := by omega
              subst this
              rw [sortN] at z
              exact absurd z.2 hkm, z.2⟩, fun z => ⟨by omega, z.2⟩⟩
          rw [decide_eq_decide.mpr e9, ← old]
      · rw [wants2]; show s + 1 + (Y.2.2.2.2.1 s + 1) ≤ Y.2.2.2.2.2.1 + 1; omega
      · intro k' hk'
        show (dY Y km w).2.2.1 (s + 1 + k') = Y.2.2.2.1 s ∧ ((dY Y km w).2.1 (s + 1 + k') = 1 ∨ (dY Y km w).2.1 (s + 1 + k') = 2) ∧ cnt (vIn (dY Y km w) (Y.2.2.2.1 s)) (s + 1 + k') = k'
        rcases Nat.lt_or_ge k' (Y.2.2.2.2.1 s) with z | z
        · exact a4 k' z
        · have : k' = Y.2.2.2.2.1 s := by omega
          subst this
          rw [sortN, homeN, h6]
          exact ⟨h5.symm, by omega, cV1⟩
    · have wa : (wY (dY Y km w) p).2.2.2.2.1 s = (dY Y km w).2.2.2.2.1 s := by show va_up _ p _ s = _; unfold va_up; rw [if_neg hsp]
      have hqs : cnt (pAll (dY Y km w)) s ≠ q := by
        rw [← cp1]
        rcases Nat.lt_or_ge s p with z | z
        · have := cnt_lt (p := pAll (dY Y km w)) z (decide_eq_true hs3)
          omega
        · have := cnt_lt (p := pAll (dY Y km w)) (show p < s by omega) (decide_eq_true sort1)
          omega
      refine hPH1.old x hs hs3 rfl wa ?_ ?_
      · show C'.2.2.2.2.1 _ = S.2.2.2.2.2.2.1 _
        rw [e5]; unfold va_up; rw [if_neg hqs]
      · show C'.2.2.2.2.2.1 _ = S.2.2.2.2.2.2.2.1 _
        rw [e6]
        split
        · unfold va_up; rw [if_neg hqs]
        · rfl
  have hRF : RF (wY (dY Y km w) p) := by
    intro s' hs' h
    have hs' : s' < Y.2.2.2.2.2.1 + 1 := hs'
    have h : va_up Y.2.1 Y.2.2.2.2.2.1 km s' = 2 := h
    rcases Nat.lt_or_ge s' Y.2.2.2.2.2.1 with z | z
    · rw [up _ _ s' z] at h
      obtain ⟨s, k', q1', q2', q3', q4'⟩ := hbl0.2 s' z h
      refine ⟨s, k', by show s < Y.2.2.2.2.2.1 + 1; omega, (up _ _ s q1').trans q2', ?_, q4'⟩
      by_cases hsp : s = p
      · subst hsp
        rw [wants2]; omega
      · show k' < va_up (dY Y km w).2.2.2.2.1 p _ s
        unfold va_up
        rw [if_neg hsp]
        show k' < va_up Y.2.2.2.2.1 Y.2.2.2.2.2.1 0 s
        rw [up _ _ s q1']; exact q3'
    · exact ⟨p, Y.2.2.2.2.1 p, by show p < Y.2.2.2.2.2.1 + 1; omega, sort1, by rw [wants2]; omega, by omega⟩
  have hJd : JJ T m q (S.1 + 1, nm_add S.2.1 w k, S.2.2) (dY Y km w) μ ν bl := by
    have x0 : EXT Y S.2.2 S.1 μ ν (dY Y km w) S.2.2 (S.1 + 1) μ ν := ext_dY (by omega)
    have ea : (nm_add S.2.1 w k).2.2.2.2.2.2.1 = S.2.1.2.2.2.2.2.2.1 := by unfold nm_add; rw [if_neg hk2]
    refine JJ.ext (S := S) (S' := (S.1 + 1, nm_add S.2.1 w k, S.2.2)) x0 (fun _ _ => ⟨rfl, rfl⟩) hJs fun q' z1 z2 => ?_
    have z1 : q' < (nm_add S.2.1 w k).2.2.2.2.2.2.2.2 := z1
    have z2 : ∀ l, l ≤ (nm_add S.2.1 w k).2.2.2.2.2.2.1 → bl l ≠ q' + 1 := z2
    rw [hpr1] at z1
    rw [ea] at z2
    exact ⟨z1, z2, rfl, rfl⟩
  have hJn : JJ T m q (S.1 + 1, nm_add S.2.1 w k, C') (wY (dY Y km w) p) μ ν bl := by
    refine JJ.ext (S := (S.1 + 1, nm_add S.2.1 w k, S.2.2)) (S' := (S.1 + 1, nm_add S.2.1 w k, C')) x (fun q' hq' => ⟨?_, ?_⟩) hJd fun q' z1 z2 => ⟨z1, z2, ?_, rfl⟩
    · show C'.2.2.2.2.1 q' = S.2.2.2.2.2.2.1 q'
      rw [e5]; unfold va_up; rw [if_neg (by omega)]
    · show C'.2.2.2.2.2.1 q' = S.2.2.2.2.2.2.2.1 q'
      rw [e6]
      split
      · unfold va_up; rw [if_neg (by omega)]
      · rfl
    · show C'.2.2.2.1 q' = S.2.2.2.2.2.1 q'
      rw [e4]
  refine ⟨⟨hN1, ⟨o.1, o.2.1, oC⟩, ?_, hPH, ⟨hbl1, hRF⟩, ?_⟩, ?_, sort1, cp1, h5, ?_, ?_, ?_⟩
  · show C'.2.2.2.2.2.2.1 ≤ 2 * (S.1 + 1)
    rw [e7]; exact c1
  · refine (hJn).mono ?_
    show q ≤ (nm_add S.2.1 w k).2.2.2.2.2.2.2.2
    rw [hpr1]; exact hqp
  · show p < Y.2.2.2.2.2.1 + 1; omega
  · rw [wants2]; show p + 1 + (Y.2.2.2.2.1 p + 1) = Y.2.2.2.2.2.1 + 1; omega
  · rw [wants2]
    show cnt (vIn (dY Y km w) (Y.2.2.2.1 p)) Y.2.2.2.2.2.1 + (if vIn (dY Y km w) (Y.2.2.2.1 p) Y.2.2.2.2.2.1 = true then 1 else 0) = _
    rw [cV1]
    have e : vIn (dY Y km w) (Y.2.2.2.1 p) Y.2.2.2.2.2.1 = true := by
      show (decide (va_up Y.2.2.1 Y.2.2.2.2.2.1 _ Y.2.2.2.2.2.1 = Y.2.2.2.1 p) && decide (va_up Y.2.1 Y.2.2.2.2.2.1 km Y.2.2.2.2.2.1 ≠ 3)) = true
      rw [va_same, va_same]
      simp [h5, hk3]
    rw [e]; rfl
  · exact ⟨h18, hJn, by show q ≤ (nm_add S.2.1 w k).2.2.2.2.2.2.2.2; rw [hpr1]; exact hqp⟩
theorem cp_dec_k {k : Nat} {S : CS} {v : Nat} {S1 : CS} (h : cp_dec T k S = (.inr v, S1)) : kd T S.1 = 25 := by
  unfold cp_dec at h
  split at h
  · assumption
  · cases h
theorem hv_adv {S : CS} {Y : MS2} {μ ν σ bl : Nat → Nat} {p q k : Nat} (t : TkOk T m) (hH : HV T m S Y μ ν σ bl p q) (hk : kd T S.1 = k) (hq : k < 27) : HV T m (adv S) Y μ ν σ bl p q := by
  obtain ⟨hI, h1, h2, h4, h5, h6, h7, h8, hJs, hqp⟩ := hH
  have ga := gs_adv t hI.2.1 hk hq
  exact ⟨iv_adv t hI hk hq, h1, h2, h4, h5, h6, h7, h8, JJ.ext (S := S) (S' := adv S) ⟨⟨Nat.le_refl _, fun _ _ => ⟨rfl, rfl, rfl⟩⟩, ⟨Nat.le_refl _, fun _ _ => rfl⟩, ⟨Nat.le_refl _, fun _ _ => ⟨rfl, rfl, rfl⟩⟩, ga.1, fun _ _ => ⟨rfl, rfl⟩⟩ (fun _ _ => ⟨rfl, rfl⟩) hJs fun q h1 h2 => ⟨h1, h2, rfl, rfl⟩, hqp⟩
theorem bo_par {S : CS} {Y : MS2} {μ ν σ bl wi si : Nat → Nat} {de p q : Nat} {K : MS → MS → Prop} (t : TkOk T m) (hT : TR T m X) (hK : ∀ Z q, r_wrong Z = some q → q < 2147483648 → K Z Z) (hH : HV T m S Y μ ν σ bl p q) : BO T m X S Y μ ν wi si de (cp_par T q S) (aL p K) K (EH T m bl p q S.2.1.2.2.2.2.2.2.1 S.1) := by
  have tm := t.1
  have o := hH.1.2.1
  have o1 := o.1
  have p18 : p < 18 := by have := hH.2.2.2.2.2.2.2.1; have := hH.2.1; omega
  have pq := (hH.1.2.2.2.1 p hH.2.1 hH.2.2.1).1
  rw [hH.2.2.2.1] at pq
  have par : S.2.2.2.2.2.2.1 q = Y.2.2.2.2.1 p := pq.1
  have w3 : Y.2.2.2.2.1 p ≤ 3 := pq.2.1
  -- the declaration, at Z: S or behind its @
  have main : ∀ (Z : CS) (b : Bool) (k km : Nat) (C' : Co), HV T m Z Y μ ν σ bl p q → S.1 ≤ Z.1 → Z.2.1 = S.2.1 → ((k = 0 ∧ km = 1) ∨ (k = 1 ∧ km = 2)) → km = (if b = true then 2 else 1) → Y.2.2.2.2.1 p < 3 → mo_take 64 (BX X Y S.1 none μ ν wi si de) b (BX X Y Z.1 none μ ν wi si de) → CoOk C' → C'.1 = Z.2.2.1 → C'.2.1 = Z.2.2.2.1 → C'.2.2.1 = Z.2.2.2.2.1 → C'.2.2.2.1 = Z.2.2.2.2.2.1 → C'.2.2.2.2.1 = va_up Z.2.2.2.2.2.2.1 q (Z.2.2.2.2.2.2.1 q + 1) → C'.2.2.2.2.2.1 = (if km = 2 then va_up Z.2.2.2.2.2.2.2.1 q (Z.2.2.2.2.2.2.2.1 q ||| 2 ^ Z.2.2.2.2.2.2.1 q) else Z.2.2.2.2.2.2.2.1) → C'.2.2.2.2.2.2 = Z.2.2.2.2.2.2.2.2 → ∀ f : Nat → CS → CR, (∀ N1 : Nm, f 0 (Z.1 + 1, N1, Z.2.2) = (.inr 0, (Z.1 + 1, N1, C'))) → BO T m X S Y μ ν wi si de (bd (cp_dec T k) f Z) (aL p K) K (EH T m bl p q S.2.1.2.2.2.2.2.2.1 S.1) := by
    intro Z b k km C' hZ hle hnm hk hb hw ht oC e1 e2 e3 e4 e5 e6 e7 f hf
    have oZ := hZ.1.2.1.1
    rcases dec_cases (wi := wi) (si := si) (de := de) (km := km) (k := k) t hT hZ.1 (by rcases hk with z | z; exact Or.inr (Or.inr ⟨z.1, by omega⟩); exact Or.inr (Or.inl z)) with ⟨S', d1, d2⟩ | ⟨hk25, d1, d2, d3, d4, _⟩
    · rw [bd_no d1]
      exact ⟨Z.1, wY Y p, Z.1, μ, ν, wi, si, de, oZ, rfl, _, par_ok hb ht p18 hw d2, hK _ Z.1 rfl (by omega)⟩
    · rw [bd_ok d1, hf]
      have ea : (nm_add Z.2.1 (T.2.2.1 Z.1) k).2.2.2.2.2.2.1 = Z.2.1.2.2.2.2.2.2.1 := by unfold nm_add; rw [if_neg (by omega)]
      exact ⟨wY (dY Y km (T.2.2.1 Z.1)) p, μ, ν, wi, si, de, ⟨⟨_, hv_par hZ hk hw d3 d4 oC e1 e2 e3 e4 e5 e6 e7⟩, by rw [ea, hnm], by show S.1 < Z.1 + 1; omega⟩, fun X' hX => ⟨_, par_ok hb ht p18 hw d2, hX⟩⟩
  unfold cp_par
  by_cases h24 : kd T S.1 = 24
  · rw [if_pos h24]
    have e1 := adv_1 t o h24 (by decide)
    have tk : mo_take 64 (BX X Y S.1 none μ ν wi si de) true (BX X Y (adv S).1 none μ ν wi si de) := by rw [e1]; exact mo_take_y (X := BX X Y S.1 none μ ν wi si de) rfl (show S.1 < 155 by omega) (hT.eq (j := 24) o.1 h24) (by decide)
    have oA := ok_adv t o h24 (by decide)
    have hlt := t.lt o.1 h24 (by decide)
    by_cases h3 : S.2.2.2.2.2.2.1 q = 3
    · rw [if_pos h3]
      exact ⟨(adv S).1, wY Y p, (adv S).1, μ, ν, wi, si, de, oA.1, rfl, _, par_3 (by omega) tk p18 (by rw [← par]; exact h3), hK _ (adv S).1 rfl (by omega)⟩
    · rw [if_neg h3]
      have hw : Y.2.2.2.2.1 p < 3 := by omega
      refine main (adv S) true 1 2 (S.2.2.1, S.2.2.2.1, S.2.2.2.2.1, S.2.2.2.2.2.1, va_up S.2.2.2.2.2.2.1 q (S.2.2.2.2.2.2.1 q + 1), va_up S.2.2.2.2.2.2.2.1 q (S.2.2.2.2.2.2.2.1 q ||| 2 ^ S.2.2.2.2.2.2.1 q), S.2.2.2.2.2.2.2.2) (hv_adv t hH h24 (by decide)) (by omega) rfl (Or.inr ⟨rfl, rfl⟩) rfl hw tk ⟨o.2.2.1, o.2.2.2.1, fun i => ?_, fun i => ?_⟩ rfl rfl rfl rfl rfl (by rw [if_pos rfl]; rfl) rfl _ (fun N1 => rfl)
      · show va_up S.2.2.2.2.2.2.2.1 q _ i < 8
        unfold va_up
        split
        · exact or_lt8 (o.2.2.2.2.1 q) (by omega)
        · exact o.2.2.2.2.1 i
      · show va_up S.2.2.2.2.2.2.1 q _ i ≤ 3
        unfold va_up
        split
        · omega
        · exact o.2.2.2.2.2 i
  · rw [if_neg h24]
    have tk : mo_take 64 (BX X Y S.1 none μ ν wi si de) false (BX X Y S.1 none μ ν wi si de) := mo_take_n (X := BX X Y S.1 none μ ν wi si de) rfl (show S.1 < 155 by omega) (hT.ne t (j := 24) o.1 (by decide) h24) (hT.lt t o.1) (by decide)
    by_cases h3 : S.2.2.2.2.2.2.1 q = 3
    · rw [if_pos h3]
      exact ⟨S.1, wY Y p, S.1, μ, ν, wi, si, de, o.1, rfl, _, par_3 (by omega) tk p18 (by rw [← par]; exact h3), hK _ S.1 rfl (by omega)⟩
    · rw [if_neg h3]
      have hw : Y.2.2.2.2.1 p < 3 := by omega
      refine main S false 0 1 (S.2.2.1, S.2.2.2.1, S.2.2.2.2.1, S.2.2.2.2.2.1, va_up S.2.2.2.2.2.2.1 q (S.2.2.2.2.2.2.1 q + 1), S.2.2.2.2.2.2.2.1, S.2.2.2.2.2.2.2.2) hH (Nat.le_refl _) rfl (Or.inl ⟨rfl, rfl⟩) rfl hw tk ⟨o.2.2.1, o.2.2.2.1, o.2.2.2.2.1, fun i => ?_⟩ rfl rfl rfl rfl rfl (by rw [if_neg (by decide)]) rfl _ (fun N1 => rfl)
      show va_up S.2.2.2.2.2.2.1 q _ i ≤ 3
      unfold va_up
      split
      · omega
      · exact o.2.2.2.2.2 i
theorem bo_prep (t : TkOk T m) (hT : TR T m X) {bl : Nat → Nat} {L p q a : Nat} : ∀ k S Y μ ν σ wi si de, m ≤ S.1 + k → a ≤ S.1 → HV T m S Y μ ν σ bl p q → S.2.1.2.2.2.2.2.2.1 = L → BO T m X S Y μ ν wi si de (bd (cp_rep T 12 (cp_par T q) k) (fun _ => cp_expect T 14) S) (pL p) pT (EH T m bl p q L a) := by
  have tm := t.1
  have fin : ∀ (S : CS) Y μ ν σ wi si de, a ≤ S.1 → HV T m S Y μ ν σ bl p q → S.2.1.2.2.2.2.2.2.1 = L → ¬ kd T S.1 = 12 → BO T m X S Y μ ν wi si de (cp_expect T 14 S) (pL p) pT (EH T m bl p q L a) := by
    intro S Y μ ν σ wi si de ha hH hL h12
    have o := hH.1.2.1
    have o1 := o.1
    have n44 : mo_take 44 (BX X Y S.1 none μ ν wi si de) false (BX X Y S.1 none μ ν wi si de) := mo_take_n (X := BX X Y S.1 none μ ν wi si de) rfl (show S.1 < 155 by omega) (hT.ne t (j := 12) o.1 (by decide) h12) (hT.lt t o.1) (by decide)
    unfold cp_expect
    by_cases h14 : kd T S.1 = 14
    · rw [if_pos h14]
      have e1 := adv_1 t o h14 (by decide)
      refine ⟨Y, μ, ν, wi, si, de, ⟨⟨σ, hv_adv t hH h14 (by decide)⟩, hL, by rw [e1]; omega⟩, fun X' hX => ?_⟩
      rw [e1] at hX
      exact pL_end n44 (mo_need_y (X := BX X Y S.1 none μ ν wi si de) rfl (show S.1 < 155 by omega) (hT.eq (j := 14) o.1 h14) (by decide)) hX
    · rw [if_neg h14]
      exact bo_bad o.1 (pL_end n44 (mo_need_n (X := BX X Y S.1 none μ ν wi si de) rfl (show S.1 < 155 by omega) (hT.ne t (j := 14) o.1 (by decide) h14) (hT.lt t o.1) (by decide)) (pT_w (X := BX X Y S.1 (some S.1) μ ν wi si de) rfl (by omega)))
  intro k
  induction k with
  | zero =>
    intro S Y μ ν σ wi si de hm ha hH hL
    rw [bd_rep_0]
    have o1 := hH.1.2.1.1
    have hS : S.1 = m := by omega
    exact fin S Y μ ν σ wi si de ha hH hL (by rw [hS]; rcases t.2.2 with q | q <;> omega)
  | succ k ih =>
    intro S Y μ ν σ wi si de hm ha hH hL
    have o := hH.1.2.1
    have o1 := o.1
    by_cases h12 : kd T S.1 = 12
    · rw [bd_rep_t h12]
      have e1 := adv_1 t o h12 (by decide)
      refine BO.pre (P' := aL p (pL p)) (S' := adv S) (Y0 := Y) (μ0 := μ) (ν0 := ν) (wi0 := wi) (si0 := si) (d0 := de) (BO.bd (bo_par (K := pL p) t hT (fun Z q h1 h2 => pL_w h1 h2) (hv_adv t hH h12 (by decide))) fun v S1 Y' μ' ν' wi' si' d' _ hE => ?_) (fun X' hX => ?_)
      · obtain ⟨⟨σ', hH'⟩, hL', hlt⟩ := hE
        exact ih S1 Y' μ' ν' σ' wi' si' d' (by omega) (by omega) hH' (hL'.trans hL)
      · rw [e1] at hX
        exact pL_comma (mo_take_y (X := BX X Y S.1 none μ ν wi si de) rfl (show S.1 < 155 by omega) (hT.eq (j := 12) o.1 h12) (by decide)) hX
    · rw [bd_rep_f h12]
      exact fin S Y μ ν σ wi si de ha hH hL h12
theorem bo_pend (t : TkOk T m) (hT : TR T m X) {S : CS} {Y : MS2} {μ ν σ bl wi si : Nat → Nat} {de p q L a : Nat} (ha : a ≤ S.1) (hH : HV T m S Y μ ν σ bl p q) (hL : S.2.1.2.2.2.2.2.2.1 = L) : BO T m X S Y μ ν wi si de (cp_expect T 11 S) pT bP (EH T m bl p q L a) := by
  have tm := t.1
  have o := hH.1.2.1
  have o1 := o.1
  unfold cp_expect
  by_cases h11 : kd T S.1 = 11
  · rw [if_pos h11]
    have e1 := adv_1 t o h11 (by decide)
    refine ⟨Y, μ, ν, wi, si, de, ⟨⟨σ, hv_adv t hH h11 (by decide)⟩, hL, by rw [e1]; omega⟩, fun X' hX => ?_⟩
    rw [e1] at hX
    exact pT_of (mo_need_y (X := BX X Y S.1 none μ ν wi si de) rfl (show S.1 < 155 by omega) (hT.eq (j := 11) o.1 h11) (by decide)) hX
  · rw [if_neg h11]
    exact bo_bad o.1 (pT_of (mo_need_n (X := BX X Y S.1 none μ ν wi si de) rfl (show S.1 < 155 by omega) (hT.ne t (j := 11) o.1 (by decide) h11) (hT.lt t o.1) (by decide)) (bP_w (X := BX X Y S.1 (some S.1) μ ν wi si de) rfl (by omega)))
/-- the header behind the name -/
def hQ (p : Nat) (A X' : MS) : Prop := ∃ v A1, mo_take 40 A v A1 ∧ ((v = true ∧ aL p (pL p) A1 X') ∨ (¬ v = true ∧ pT A1 X'))
theorem bo_pHead (t : TkOk T m) (hT : TR T m X) {S : CS} {Y : MS2} {μ ν σ bl wi si : Nat → Nat} {de p q : Nat} (hH : HV T m S Y μ ν σ bl p q) : BO T m X S Y μ ν wi si de (cp_pHead T q S) (hQ p) bP (EH T m bl p q S.2.1.2.2.2.2.2.2.1 S.1) := by
  have tm := t.1
  have o := hH.1.2.1
  have o1 := o.1
  unfold cp_pHead
  by_cases h13 : kd T S.1 = 13
  · rw [if_pos h13]
    have e1 := adv_1 t o h13 (by decide)
    refine BO.pre (P' := aL p (pL p)) (S' := adv S) (Y0 := Y) (μ0 := μ) (ν0 := ν) (wi0 := wi) (si0 := si) (d0 := de) ?_ (fun X' hX => ?_)
    · refine BO.bd (Q := pT) (E := EH T m bl p q S.2.1.2.2.2.2.2.2.1 S.1) ?_ fun v S1 Y' μ' ν' wi' si' d' _ hE => ?_
      · refine BO.bd (bo_par (K := pL p) t hT (fun Z q h1 h2 => pL_w h1 h2) (hv_adv t hH h13 (by decide))) fun v S1 Y' μ' ν' wi' si' d' _ hE => ?_
        obtain ⟨⟨σ', hH'⟩, hL', hlt⟩ := hE
        exact bo_prep t hT 150 S1 Y' μ' ν' σ' wi' si' d' (by omega) (by omega) hH' hL'
      · obtain ⟨⟨σ', hH'⟩, hL', hlt⟩ := hE
        exact bo_pend t hT (by omega) hH' hL'
    · rw [e1] at hX
      exact ⟨true, _, mo_take_y (X := BX X Y S.1 none μ ν wi si de) rfl (show S.1 < 155 by omega) (hT.eq (j := 13) o.1 h13) (by decide), Or.inl ⟨rfl, hX⟩⟩
  · rw [if_neg h13]
    exact BO.pre (bo_pend t hT (Nat.le_refl _) hH rfl) fun X' hX => ⟨false, _, mo_take_n (X := BX X Y S.1 none μ ν wi si de) rfl (show S.1 < 155 by omega) (hT.ne t (j := 13) o.1 (by decide) h13) (hT.lt t o.1) (by decide), Or.inr ⟨by decide, hX⟩⟩
end PO
