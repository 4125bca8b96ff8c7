/-! ===== the beginning of a run ===== -/
def UX (X : MS) (th fl st gr lo wr : Nat) : MS := ((th, X.1.2), X.2.1, X.2.2.1, X.2.2.2.1, X.2.2.2.2.1, (X.2.2.2.2.2.1.1, X.2.2.2.2.2.1.2.1, X.2.2.2.2.2.1.2.2.1, X.2.2.2.2.2.1.2.2.2.1, X.2.2.2.2.2.1.2.2.2.2.1, X.2.2.2.2.2.1.2.2.2.2.2.1, X.2.2.2.2.2.1.2.2.2.2.2.2.1, X.2.2.2.2.2.1.2.2.2.2.2.2.2.1, X.2.2.2.2.2.1.2.2.2.2.2.2.2.2.1, X.2.2.2.2.2.1.2.2.2.2.2.2.2.2.2.1, fl, st, gr, lo, X.2.2.2.2.2.1.2.2.2.2.2.2.2.2.2.2.2.2.2.2.1, wr), X.2.2.2.2.2.2)
section CG
variable {X : MS} {th fl st gr lo wr q : Nat}
theorem ux_0 : w_thrown X th = UX X th (r_failure X) (r_steps X) (r_greatest X) (r_lost X) (r_written X) := rfl
theorem ux_st : w_steps (UX X th fl st gr lo wr) q = UX X th fl q gr lo wr := rfl
theorem ux_gr : w_greatest (UX X th fl st gr lo wr) q = UX X th fl st q lo wr := rfl
theorem ux_lo : w_lost (UX X th fl st gr lo wr) q = UX X th fl st gr q wr := rfl
theorem ux_wr : w_written (UX X th fl st gr lo wr) q = UX X th fl st gr lo q := rfl
theorem ux_fl : w_failure (UX X th fl st gr lo wr) q = UX X th q st gr lo wr := rfl
theorem ux_all : w_failure (w_written (w_lost (w_greatest (w_steps (w_thrown X 0) 0) 0) 0) 0) 0 = UX X 0 0 0 0 0 0 := by
  rw [ux_0, ux_st, ux_gr, ux_lo, ux_wr, ux_fl]
/-- the model as a run begins -/
def bX (X : MS) (p : Nat) : MS := NX (UX X 0 0 0 0 0 0) (some 0) (va_up (r_blockOf X) 0 0) (va_up (r_outer X) 0 none) (va_up (r_back X) 0 0) (va_up (r_level X) 0 0) 0 (clr (r_cell X) 0 12) (r_stands X) p
theorem run_go0 {v : Nat} {Z' : MS} {fr : Option Nat} {bo ba le : Nat → Nat} {ou : Nat → Option Nat} {g p : Nat} {ce : Nat → Int32} {sd : Nat → Nat} (h : rN (NX X fr bo ou ba le g (clr ce 0 12) sd (r_pBody X 0)) v Z') : ∃ n, mo_run_go n 0 0 (NX X fr bo ou ba le g ce sd p) v Z' := by
  have main : ∀ j k, k + j = 12 → ∃ fu, mo_run_go fu 0 k (NX X fr bo ou ba le g (clr ce 0 k) sd p) v Z' := by
    intro j
    induction j with
    | zero =>
      intro k hk
      have : k = 12 := by omega
      subst this
      obtain ⟨fu, h⟩ := h
      refine ⟨fu + 1, ?_⟩
      rw [mo_run_go]
      refine ⟨by omega, Or.inl ⟨by omega, ?_⟩⟩
      rw [nx_body, nx_pc]
      exact h
    | succ j ih =>
      intro k hk
      obtain ⟨fu, h⟩ := ih (k + 1) (by omega)
      refine ⟨fu + 1, ?_⟩
      rw [mo_run_go]
      refine ⟨by omega, Or.inr ⟨by omega, by omega, ?_⟩⟩
      have e := clr_up (ce := ce) (f := 0) (j := k)
      rw [show 12 * 0 + k = k by omega] at e
      rw [nx_rce, nx_ce, e]
      exact h
  have := main 12 0 rfl
  have e : clr ce 0 0 = ce := by funext i; unfold clr; rw [if_neg (by omega)]
  rw [e] at this
  exact this
theorem mo_run_of {v : Nat} {Z' : MS} (hp : r_program X = true) (h : rN (bX X (r_pBody X 0)) v Z') : mo_run X v Z' := by
  refine Or.inl ⟨hp, ?_⟩
  rw [ux_all, nx_fr, nx_bo, nx_ou, nx_ba, nx_le]
  exact run_go0 (X := UX X 0 0 0 0 0 0) h
theorem mo_run_no (hp : ¬ r_program X = true) : mo_run X 0 (w_thrown (w_thrown X 0) 1) := Or.inr ⟨hp, 0, _, ⟨rfl, rfl⟩, rfl, rfl⟩
/-- both stand at the beginning of the program -/
theorem at_begin {T : Tk} {m : Nat} {Y : MS2} {D : Co} {μ ν : Nat → Nat} {M : Mc} (pf : PF2 T m Y) (hPG : PG T m Y D μ ν) (hG : RG T m Y μ ν X) : AT Y (mc_begin D M) (bX X (r_pBody X 0)) 0 D.2.2.2.2.2.2.2 (Y.2.2.2.2.2.2.2.2.2.1 0) := by
  obtain ⟨aa, lim, hPH, hRF, h18, h6, h12, h3, hB0, hBq⟩ := hPG
  obtain ⟨Sb, Sb1, σb, blb, vb, k1, k2, k3, k4, k5, k6, k7, k8, k9, k10, k11, k12, k13, k14, k15, k16, k17⟩ := hB0
  have bo0 : r_blockOf (bX X (r_pBody X 0)) 0 = 0 := va_same (r_blockOf X) 0 0
  refine ⟨⟨rfl, rfl, by omega, ⟨rfl, Nat.zero_le _, fun j hj => absurd hj (Nat.not_lt_zero j), rfl, rfl, Nat.zero_le _, rfl, Nat.zero_le _⟩, fun g hg => ?_, fun g s hg hs hh h3' => ?_⟩, rfl, rfl, hG.2.2.1 0 (by decide), rfl⟩
  · have : g = 0 := by omega
    subst this
    rw [bo0]
    refine ⟨by omega, fun b' hb' => ?_⟩
    rw [k8.2.1] at hb'
    cases hb'
  · have : g = 0 := by omega
    subst this
    rw [bo0] at hh
    have gl := gsl_lt h12 hs h3'
    have ll := lsl_le (Y := Y) (s := s)
    refine ⟨fun _ => ?_, fun z2 => ?_⟩
    · show (if 0 * 12 ≤ 12 * 0 + lsl Y s ∧ 12 * 0 + lsl Y s < 0 * 12 + 12 then nI 0 else M.1 (12 * 0 + lsl Y s)) = clr (r_cell X) 0 12 (12 * 0 + gsl Y s)
      unfold clr
      rw [if_pos (by omega), if_pos (by omega)]
    · obtain ⟨s9, k9', r1, r2, r3, r4⟩ := hRF s hs z2
      obtain ⟨_, t1, _, _, t4⟩ := hPH s9 r1 r2
      have t5 := (t4 k9' r3).1
      rw [← r4, hh, t1] at t5
      omega
end CG
