/-! ===== run: class and model ===== -/
section CH2
variable {T : Tk} {m : Nat} {Y : MS2} {D : Co} {μ ν : Nat → Nat} {X : MS} {M : Mc}
theorem rg_ux {th fl st gr lo wr : Nat} (h : RG T m Y μ ν X) : RG T m Y μ ν (UX X th fl st gr lo wr) := h
theorem bx_1 {p : Nat} : (bX X p).1 = (0, X.1.2) ∧ (bX X p).2.1 = X.2.1 ∧ (bX X p).2.2.1 = X.2.2.1 ∧ (bX X p).2.2.2.1 = X.2.2.2.1 ∧ (bX X p).2.2.2.2.1 = X.2.2.2.2.1 := ⟨rfl, rfl, rfl, rfl, rfl⟩
/-- what stays over a run, and that nothing was thrown before -/
def GZ (X X' : MS) : Prop := X'.1 = (0, X.1.2) ∧ X'.2.1 = X.2.1 ∧ X'.2.2.1 = X.2.2.1 ∧ X'.2.2.2.1 = X.2.2.2.1 ∧ X'.2.2.2.2.1 = X.2.2.2.2.1
theorem run_both (pf : PF2 T m Y) (hPG : PG T m Y D μ ν) (hG : RG T m Y μ ν X) (hp : r_program X = true) : (∃ K' X', mc_run D 1000000 (mc_begin D M) = (none, K') ∧ mo_run X (r_written X') X' ∧ OBS K' X' ∧ GZ X X') ∨ (∃ E K' X', mc_run D 1000000 (mc_begin D M) = (some E, K') ∧ fcode E (r_failure X') ∧ mo_run X 0 (w_thrown X' (r_failure X')) ∧ OBS K' X' ∧ GZ X X') := by
  have hGb : RG T m Y μ ν (bX X (r_pBody X 0)) := rg_gr (rg_ux hG) nx_GR
  have b1 := bx_1 (X := X) (p := r_pBody X 0)
  have gz : ∀ X', GR (bX X (r_pBody X 0)) X' → GZ X X' := fun X' g => ⟨g.1.trans b1.1, g.2.1.trans b1.2.1, g.2.2.1.trans b1.2.2.1, g.2.2.2.1.trans b1.2.2.2.1, g.2.2.2.2.trans b1.2.2.2.2⟩
  have lv0 : r_level (bX X (r_pBody X 0)) 0 = 0 := va_same (r_level X) 0 0
  have bo0 : r_blockOf (bX X (r_pBody X 0)) 0 = 0 := va_same (r_blockOf X) 0 0
  rcases run_same (K := mc_begin D M) pf hPG hGb (at_begin pf hPG hG) lv0 bo0 rfl with ⟨K', X', r1, r2, r3, r4, _⟩ | ⟨E, K', X', r1, r2, r3, r4, r5⟩
  · exact Or.inl ⟨K', X', r1, mo_run_of hp r2, r3, gz _ r4⟩
  · exact Or.inr ⟨E, K', X', r1, r2, mo_run_of hp r3, r4, gz _ r5⟩
end CH2
