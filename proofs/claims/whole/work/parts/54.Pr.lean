/-! ===== a program: class and model ===== -/
section PR
variable {T : Tk} {m : Nat} {X : MS}
/-- a program that was read, as its running needs it -/
def PG (T : Tk) (m : Nat) (Y : MS2) (C : Co) (μ ν : Nat → Nat) : Prop := ∃ a lim, PH C Y ∧ RF Y ∧ Y.2.2.2.2.2.1 ≤ 18 ∧ cnt (pAll Y) Y.2.2.2.2.2.1 ≤ 6 ∧ cnt (vAll Y) Y.2.2.2.2.2.1 ≤ 12 ∧ (∀ s, s < Y.2.2.2.2.2.1 → Y.2.1 s ≤ 3) ∧ BI T m lim Y C a μ ν 0 C.2.2.2.2.2.2.2 (Y.2.2.2.2.2.2.2.2.2.1 0) ∧ ∀ q, q < cnt (pAll Y) Y.2.2.2.2.2.1 → BI T m lim Y C a μ ν (q + 1) (C.2.2.2.1 q) (Y.2.2.2.2.2.2.2.2.2.1 (q + 1))
theorem cnt_not (Y : MS2) (n : Nat) : cnt (vAll Y) n + cnt (pAll Y) n = n := by
  induction n with
  | zero => rfl
  | succ n ih =>
    show cnt (vAll Y) n + (if vAll Y n = true then 1 else 0) + (cnt (pAll Y) n + (if pAll Y n = true then 1 else 0)) = n + 1
    have e1 : vAll Y n = decide (Y.2.1 n ≠ 3) := rfl
    have e2 : pAll Y n = decide (Y.2.1 n = 3) := rfl
    rw [e1, e2]
    by_cases h : Y.2.1 n = 3
    · simp only [h, ne_eq, not_true_eq_false, decide_false, decide_true, if_true, Bool.false_eq_true, if_false]; omega
    · simp only [h, ne_eq, not_false_eq_true, decide_false, decide_true, if_true, Bool.false_eq_true, if_false]; omega
def Y00 (Y : MS2) : MS2 := (Y.1, Y.2.1, Y.2.2.1, Y.2.2.2.1, Y.2.2.2.2.1, 0, 0, 0, va_up Y.2.2.2.2.2.2.2.2.1 0 none, Y.2.2.2.2.2.2.2.2.2.1, 1, 0)
theorem nr_00 {N : Nm} {Y : MS2} {σ : Nat → Nat} : NR (nm_clear N) σ (fun _ => 0) (Y00 Y) := by
  have e : (nm_clear N).2.2.2.2.2.2.1 = 0 := rfl
  have e2 : (nm_clear N).2.2.2.2.2.1 = 0 := rfl
  refine ⟨⟨rfl, rfl, rfl⟩, ⟨rfl, by show 0 < 1; decide, by show 1 ≤ 7; decide⟩, ⟨rfl, va_same Y.2.2.2.2.2.2.2.2.1 0 none, fun l hl => by rw [e] at hl; omega⟩, fun i hi => by rw [e2] at hi; omega, fun i j _ hj => by rw [e2] at hj; omega, fun s l hs => absurd hs (by show ¬ s < 0; omega), fun i j hi => by rw [e2] at hi; omega, fun l hl => ?_, fun s hs => absurd hs (by show ¬ s < 0; omega), rfl⟩
  rw [e] at hl
  have : l = 0 := by omega
  subst this
  exact va_same N.2.2.2.2.1 0 0
theorem nmOk_clear {N : Nm} (o : NmOk N) : NmOk (nm_clear N) := by
  obtain ⟨o1, o2, o3, o4, o5, o6, o7, o8, o9⟩ := o
  exact ⟨Nat.le_refl _, by show 0 ≤ 12; omega, by show 0 ≤ 6; omega, by show 0 < 4; omega, o5, o6, o7, fun i j _ hj => absurd hj (by show ¬ j < 0; omega), fun i hi => absurd hi (by show ¬ i < 0; omega)⟩
theorem iv_00 {N : Nm} {C : Co} {Y : MS2} {μ ν σ : Nat → Nat} (oN : NmOk N) (oC : CoOk C) : IV T m (cp_s0 N C) (Y00 Y) μ ν σ (fun _ => 0) := by
  refine ⟨nr_00, ⟨Nat.zero_le _, nmOk_clear oN, ⟨by show 0 ≤ 300; omega, oC.2⟩⟩, Nat.le_refl _, fun s hs => absurd hs (by show ¬ s < 0; omega), ⟨rfl, fun s hs => absurd hs (by show ¬ s < 0; omega)⟩, fun q hq => absurd hq (by show ¬ q < 0; omega)⟩
theorem iv_pg {S : CS} {Y : MS2} {μ ν σ : Nat → Nat} {bl : Nat → Nat} (hI : IV T m S Y μ ν σ bl) (h0 : S.2.1.2.2.2.2.2.2.1 = 0) (hB : BI T m S.2.1.2.2.2.2.2.2.2.2 Y S.2.2 S.1 μ ν (bl 0) S.2.2.2.2.2.2.2.2.2 (Y.2.2.2.2.2.2.2.2.2.1 (bl 0))) : PG T m Y S.2.2 μ ν := by
  obtain ⟨hN, o, c, hPH, hbl, hJ⟩ := hI
  have hcp := hN.2.2.2.2.2.2.2.2.2
  have hsy := hN.1.2.2
  have n := cnt_not Y Y.2.2.2.2.2.1
  have oN := o.2.1
  have := oN.2.1
  have := oN.2.2.1
  have b0 := hN.2.2.1.1
  refine ⟨S.1, S.2.1.2.2.2.2.2.2.2.2, hPH, hbl.2, by omega, by omega, by omega, fun s hs => (hN.2.2.2.2.2.2.2.2.1 s hs).2, ?_, fun q hq => ?_⟩
  · rw [b0] at hB; exact hB
  · rw [hcp] at hq
    refine hJ q hq fun l hl => ?_
    rw [h0] at hl
    have : l = 0 := by omega
    rw [this, b0]; omega
/-- the whole text -/
def AO (T : Tk) (m : Nat) (X : MS) (R : CR) : Prop :=
  match R with
  | (.inl q, _) => ∃ t Y' a μ' ν' wi' si' d', t ≤ m ∧ T.2.1 t = q ∧ mo_readProgram X (BX X Y' a (some t) μ' ν' wi' si' d')
  | (.inr v, S1) => ∃ Y' μ' ν' wi' si' d', v = Y'.2.2.2.2.2.1 ∧ Ok m S1 ∧ PG T m Y' S1.2.2 μ' ν' ∧ mo_readProgram X (BX X Y' S1.1 none μ' ν' wi' si' d')
theorem read_all (t : TkOk T m) (hT : TR T m X) (ha : r_at X = 0) (hw : r_wrong X = none) {N : Nm} {C : Co} (oN : NmOk N) (oC : CoOk C) : AO T m X (cp_all T (cp_s0 N C)) := by
  have tm := t.1
  have hI := iv_00 (T := T) (m := m) (Y := X.2.2.1) (μ := X.2.1.2.2.2.2.1) (ν := X.2.1.2.2.2.2.2.1) (σ := fun _ => 0) oN oC
  have r := bo_block t hT 3 (cp_s0 N C) (Y00 X.2.2.1) X.2.1.2.2.2.2.1 X.2.1.2.2.2.2.2.1 (fun _ => 0) (fun _ => 0) X.2.2.2.2.1.2.2.1 X.2.2.2.2.1.2.2.2.1 X.2.2.2.2.1.2.2.2.2 rfl hI
  have X0 : ∀ X', bP (BX X (Y00 X.2.2.1) 0 none X.2.1.2.2.2.2.1 X.2.1.2.2.2.2.2.1 X.2.2.2.2.1.2.2.1 X.2.2.2.2.1.2.2.2.1 X.2.2.2.2.1.2.2.2.2) X' → mo_readProgram X X' := by
    intro X' ⟨X1, h1, h2⟩
    refine ⟨_, ⟨(show 0 < 8 by decide), rfl⟩, X1, ?_, h2⟩
    have e : BX X (Y00 X.2.2.1) 0 none X.2.1.2.2.2.2.1 X.2.1.2.2.2.2.2.1 X.2.2.2.2.1.2.2.1 X.2.2.2.2.1.2.2.2.1 X.2.2.2.2.1.2.2.2.2 = BX X (Y00 X.2.2.1) (r_at X) (r_wrong X) X.2.1.2.2.2.2.1 X.2.1.2.2.2.2.2.1 X.2.2.2.2.1.2.2.1 X.2.2.2.2.1.2.2.2.1 X.2.2.2.2.1.2.2.2.2 := by rw [ha, hw]
    rw [e] at h1
    exact h1
  have ec : cp_all T (cp_s0 N C) = bd (cp_block T 3) (fun e S1 => bd (cp_expect T 15) (fun _ S2 => if kd T S2.1 = 28 then (.inr (S2.2.1.2.2.2.2.2.2.2.1 + S2.2.1.2.2.2.2.2.2.2.2), S2) else cp_no T S2) (cp_start e S1)) (cp_s0 N C) := rfl
  rw [ec]
  rcases hR : cp_block T 3 (cp_s0 N C) with ⟨q | e, S1⟩
  · rw [bd_no hR]
    rw [hR] at r
    obtain ⟨t', Y', a, μ', ν', wi', si', d', h1, h2, h3⟩ := r
    exact ⟨t', Y', a, μ', ν', wi', si', d', h1, h2, X0 _ h3⟩
  · rw [bd_ok hR]
    rw [hR] at r
    obtain ⟨Y', μ', ν', wi', si', d', ⟨⟨σ', hI'⟩, hL, _, hB⟩, h2⟩ := r
    have hL : S1.2.1.2.2.2.2.2.2.1 = 0 := hL
    have hN := hI'.1
    have b8 : Y'.2.2.2.2.2.2.2.2.2.2.2 < 8 := by have := hN.2.1; omega
    have bl0 : Y'.2.2.2.2.2.2.2.2.2.2.2 = 0 := by have := hN.2.1.1; rw [hL] at this; exact this
    have ar : Y'.2.2.2.2.2.2.2.2.1 Y'.2.2.2.2.2.2.2.2.2.2.2 = none := by rw [bl0]; exact hN.2.2.1.2.1
    have o := hI'.2.1
    have o1 := o.1
    have p1 : (cp_start e S1).1 = S1.1 := rfl
    have hIs : IV T m (cp_start e S1) Y' μ' ν' σ' (fun _ => 0) := by
      obtain ⟨a1, a2, a3, a4, a5, a6⟩ := hI'
      have x : EXT Y' S1.2.2 S1.1 μ' ν' Y' (cp_start e S1).2.2 (cp_start e S1).1 μ' ν' := ⟨⟨Nat.le_refl _, fun _ _ => ⟨rfl, rfl, rfl⟩⟩, ⟨Nat.le_refl _, fun _ _ => rfl⟩, ⟨Nat.le_refl _, fun _ _ => ⟨rfl, rfl, rfl⟩⟩, Nat.le_refl _, fun _ _ => ⟨rfl, rfl⟩⟩
      exact ⟨a1, a2, a3, fun s hs h3 => a4.old x hs h3 rfl rfl rfl rfl, a5, JJ.ext (S := S1) (S' := cp_start e S1) x (fun _ _ => ⟨rfl, rfl⟩) a6 fun q z1 z2 => ⟨z1, z2, rfl, rfl⟩⟩
    have xs : EXT Y' S1.2.2 S1.1 μ' ν' Y' (cp_start e S1).2.2 S1.1 μ' ν' := ⟨⟨Nat.le_refl _, fun _ _ => ⟨rfl, rfl, rfl⟩⟩, ⟨Nat.le_refl _, fun _ _ => rfl⟩, ⟨Nat.le_refl _, fun _ _ => ⟨rfl, rfl, rfl⟩⟩, Nat.le_refl _, fun _ _ => ⟨rfl, rfl⟩⟩
    have hBs : BI T m S1.2.1.2.2.2.2.2.2.2.2 Y' (cp_start e S1).2.2 S1.1 μ' ν' 0 e (Y'.2.2.2.2.2.2.2.2.2.1 0) := hB.ext xs (fun _ _ => ⟨rfl, rfl⟩)
    by_cases h15 : kd T S1.1 = 15
    · have e2 := adv_1 (S := cp_start e S1) t hIs.2.1 h15 (by decide)
      have oA := ok_adv (S := cp_start e S1) t hIs.2.1 h15 (by decide)
      have hlt := t.lt o.1 h15 (by decide)
      have k46 : r_kind X S1.1 = 46 := hT.eq o.1 h15
      rw [bd_ok (v := 0) (S1 := adv (cp_start e S1)) (by unfold cp_expect; rw [if_pos (show kd T (cp_start e S1).1 = 15 from h15)])]
      have e3 : (adv (cp_start e S1)).1 = S1.1 + 1 := e2
      by_cases h28 : kd T (adv (cp_start e S1)).1 = 28
      · rw [if_pos h28]
        have hIa := iv_adv t hIs (show kd T (cp_start e S1).1 = 15 from h15) (by decide)
        rw [e3] at h28
        have k0 : r_kind X (S1.1 + 1) = 0 := hT.eq (j := 28) (by omega) h28
        refine ⟨Y', μ', ν', wi', si', d', hN.1.2.2.symm, oA, iv_pg hIa hL ?_, X0 _ (h2 _ ?_)⟩
        · exact hBs.ext ⟨⟨Nat.le_refl _, fun _ _ => ⟨rfl, rfl, rfl⟩⟩, ⟨Nat.le_refl _, fun _ _ => rfl⟩, ⟨Nat.le_refl _, fun _ _ => ⟨rfl, rfl, rfl⟩⟩, by rw [e3]; omega, fun _ _ => ⟨rfl, rfl⟩⟩ (fun _ _ => ⟨rfl, rfl⟩)
        · rw [e3]
          exact rK_main (by omega) b8 ar k46 k0
      · rw [if_neg h28]
        rw [e3] at h28
        refine ⟨S1.1 + 1, Y', S1.1 + 1, μ', ν', wi', si', d', by omega, by rw [← e3], X0 _ (h2 _ ?_)⟩
        exact rK_mainx (by omega) b8 ar k46 (hT.ne t (j := 28) (by omega) (by decide) h28) (hT.lt t (by omega))
    · rw [bd_no (q := T.2.1 S1.1) (S1 := cp_start e S1) (by unfold cp_expect; rw [if_neg (show ¬ kd T (cp_start e S1).1 = 15 from h15)]; rfl)]
      exact ⟨S1.1, Y', S1.1, μ', ν', wi', si', d', o.1, rfl, X0 _ (h2 _ (rK_mainn (by omega) b8 ar (hT.ne t (j := 15) o.1 (by decide) h15) (hT.lt t o.1)))⟩
end PR
