/-! ===== a whole run ===== -/
section CF
variable {T : Tk} {m : Nat} {Y : MS2} {D : Co} {μ ν : Nat → Nat}
theorem vm_ret0 {K : Mc} {st : Nat → Int32} {τ c : Nat} (hf : K.2.2.2.2.2.1 = 0) (hc : c < D.2.2.2.2.2.2.1) (hx : D.1 c = 19) : VR D 1 (KX K st τ c) (KX K st τ D.2.2.2.2.2.2.1) := by
  refine vm1 hc ?_
  rw [hx]
  show (none, mc_leave D (KX K st τ (c + 1))) = _
  unfold mc_leave
  rw [if_pos (show (KX K st τ (c + 1)).2.2.2.2.2.1 = 0 from hf)]
  rfl
theorem run_stop {K : Mc} {n : Nat} (h : D.2.2.2.2.2.2.1 ≤ K.2.2.2.2.2.2.1) : mc_run D n K = (none, K) := by
  cases n with
  | zero => rfl
  | succ n => rw [mc_run, if_pos h]
/-- the class's run and the model's come to the same -/
theorem run_same {K : Mc} {X : MS} (pf : PF2 T m Y) (hPG : PG T m Y D μ ν) (hG : RG T m Y μ ν X) (hA : AT Y K X 0 D.2.2.2.2.2.2.2 (Y.2.2.2.2.2.2.2.2.2.1 0)) (hl : r_level X 0 = 0) (hbo : r_blockOf X 0 = 0) (hk0 : ks K = 0) : (∃ K' X', mc_run D 1000000 K = (none, K') ∧ rN X (r_written X') X' ∧ OBS K' X' ∧ GR X X' ∧ r_thrown X' = r_thrown X) ∨ (∃ E K' X', mc_run D 1000000 K = (some E, K') ∧ fcode E (r_failure X') ∧ rN X 0 (w_thrown X' (r_failure X')) ∧ OBS K' X' ∧ GR X X') := by
  have t := pf.1
  have tm := t.1
  have hst := run_stm pf hPG 400 8
  have hPG' := hPG
  obtain ⟨aa, lim, hPH, hRF, h18, h6, h12, h3, hB0, hBq⟩ := hPG
  obtain ⟨Sb, Sb1, σb, blb, vb, k1, k2, k3, k4, k5, k6, k7, k8, k9, k10, k11, k12, k13, k14, k15, k16, k17⟩ := hB0
  have r := ro_list (f := 0) (N := Sb.2.1) (σ := σb) (bl := blb) (K := K) (X := X) pf hst hG ⟨k6.2.1, k8, k9, by rw [hbo, k4]⟩ k6 k7 rfl ⟨k16.2, k17⟩ k10 ⟨Nat.le_of_lt k12, fun j j1 j2 => k11 j (by omega) j2⟩ k14 (k15 ν fun _ _ _ => rfl) (by rw [k2, k1]; exact hA) (by rw [hl]) (Or.inl hl) (by omega)
  obtain ⟨r, L1, L2⟩ := r
  have gL := gs_stmts t (gs_stm t 8) Sb Sb1 vb k6 k7 trivial k10
  have szb : cz Sb1 ≤ 300 := gL.2.1.2.2.1
  have oSb := gL.2.1.1
  rw [hl] at r
  rcases r with ⟨kb, K3, X3, r1, r2, r3, r4, r5, r6, r7, r8, r9, r10, r11, r12⟩ | ⟨kb, E, K3, X3, f3, r1, r2, r3, r4, r5, r6, r7, r8, r9⟩
  · left
    have s400 : ks K3 ≤ 400 := r8.2.2.2.1.2.2.2.2.2.1
    have vr := vm_ret0 (D := D) (K := K3) (st := K3.2.2.2.1) (τ := 0) (c := cz Sb1) r8.2.1 k12 k13
    rw [← kx_eta r5 r4] at vr
    have hG3 := rg_gr hG r10.1
    have all := r1.tr vr
    have run := all (1000000 - (kb + 1))
    rw [show 1000000 - (kb + 1) + (kb + 1) = 1000000 by omega, run_stop (K := KX K3 K3.2.2.2.1 0 D.2.2.2.2.2.2.1) (Nat.le_refl _)] at run
    refine ⟨_, w_frame (w_pc X3 (r_back X3 0)) none, run, r12 _ _ ?_, ?_, r10.1.tr (wf_frl (f := 0) (lv := 0)).1, ?_⟩
    · refine ov_ret r8.1 (by decide) r9 (by rw [r6]; omega) (by rw [r6]; exact kind_ne t hG3 (by omega) (k := 11) (by decide) (by rw [L2]; decide)) (by rw [r6]; exact kind_lt t hG3 (by omega)) ?_
      exact ov_none rfl (rN_end rfl (by rw [wfr_fl]; exact r7))
    · have ob : OBS K3 (w_frame (w_pc X3 (r_back X3 0)) none) := r8.2.2.2.1.cong rfl rfl rfl rfl rfl rfl
      exact ob.kx
    · show X3.1.1 = X.1.1
      rw [r10.1.1]
  · right
    have s400 : ks K3 ≤ 400 := r5.2.2.2.2.2.1
    have run := r1 (1000000 - kb)
    rw [show 1000000 - kb + kb = 1000000 by omega] at run
    have fc : ¬ r_failure X3 = 0 ∧ r_failure X3 < 2147483648 := by rcases r4 with z | z | z <;> omega
    exact ⟨E, K3, X3, run, r4, r9 _ _ (rN_fail r7 r8 fc.1 fc.2), r5, r6⟩
end CF
