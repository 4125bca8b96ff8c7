/-! ===== running if and while, the branches ===== -/
theorem wpc_self {Z : MS} : w_pc Z (r_pc Z) = Z := rfl
theorem px_pc {X : MS} {f k p : Nat} : r_pc (pX X f k p) = r_pc X := rfl
theorem wpc_same {Z : MS} {q f k p : Nat} : w_pc (pX (w_pc Z q) f k p) q = pX (w_pc Z q) f k p := by
  have h : r_pc (pX (w_pc Z q) f k p) = q := px_pc.trans wpc_pc
  have h2 := wpc_self (Z := pX (w_pc Z q) f k p)
  rw [h] at h2
  exact h2
section RY
variable {T : Tk} {m : Nat} {Y : MS2} {D : Co} {μ ν : Nat → Nat} {N : Nm} {σ bl : Nat → Nat} {f : Nat} {K : Mc} {X : MS}
set_option maxRecDepth 4000 in
theorem ro_while {b n : Nat} (pf : PF2 T m Y) (hs : ∀ b', b' < b → ∀ n', STMT T m Y D μ ν b' n') {S S1 : CS} {v0 : Nat} (hG : RG T m Y μ ν X) (hN : NB Y N σ bl (r_blockOf X f)) (o : Ok m S) (c : C2 S) (e : S.2.1 = N) (hT : TB D S N) (hk : kd T S.1 = 7) (h : cp_while T (cp_stm T n) (adv S) = (.inr v0, S1)) (hst : cp_stm T (n + 1) S = (.inr v0, S1)) (hD : AGd D (cz S) S1) (hμ : MU T N σ μ S.1 S1.1) (hn : nxw T ν (cp_stm T n) (nxs T ν n) S) (hns : nxs T ν (n + 1) S) (hA : AT Y K X f (cz S) S.1) (hl : r_level X f + (n + 1) = 8) (hb : 400 ≤ ks K + b) : RO Y D (cz S) (cz S1) S1.1 (r_level X f) (r_level X f) K X f (rN X) := by
  have t := pf.1
  have tm := t.1
  have o1 := o.1
  have hlt := t.lt o.1 hk (by decide)
  obtain ⟨ee, Sc, h1, h2⟩ := bd_inv h
  obtain ⟨w3, S2, h3, h4⟩ := bd_inv h2
  obtain ⟨w4, S4, h5, h6⟩ := bd_inv h4
  obtain ⟨g1, g2, g3, g4, g5, g6, g7, g8, g9, _, _⟩ := gs_head t o c hk (by decide) h1 (by decide) h3
  have gS2 : GS m S S2 := ⟨by omega, g2, g3, by omega, g5⟩
  have e3 := ge_expect t (by decide) (gs_cond t (ok_add (ge_adv t o hk (by decide)).1.2.1 (by decide)) (step_cp (S := adv S) (S0 := S) rfl (ge_adv t o hk (by decide)).2 c (by omega)).2 h1).2.1 h3
  have zc : cz S2 = cz Sc := by rw [e3.2.2.1]; rfl
  have k4 := gs_stm t n S2 S4 w4 g2 (gS2.c2 c) trivial h5
  have gS4 := gS2.tr k4
  have q4 := k4.2.2.2.1
  have q5 := k4.2.1.1
  have z4 : cz S4 < 300 := by unfold C2 at c; omega
  have z5 := cz_add (x := 16) (f := (adv S).2.2.2.2.2.2.2.2.1) (t := 0) z4
  have nx := hn ee Sc w3 S2 h1 h3
  have nx2 := nx.2 w4 S4 h5
  cases h6
  have J := jmp_ag hD
  rw [z5] at J
  have p24 := k4.2.2.2.2
  have p241 := p24.1
  have zend : cz (cjmp (cadd S4 16 (adv S).2.2.2.2.2.2.2.2.1 0) ee) = cz S4 + 1 := by rw [cz_jmp, z5]
  have pend : (cjmp (cadd S4 16 (adv S).2.2.2.2.2.2.2.2.1 0) ee).1 = S4.1 := rfl
  have WE : PF S4 (cadd S4 16 (adv S).2.2.2.2.2.2.2.2.1 0) := PF.rf.add z4
  -- the code
  have De : D.1 ee = 17 ∧ D.2.1 ee = cz S4 + 1 := by
    have q := J.2.2 (by omega) (by omega)
    have q1 := (p24.tr WE).2.1 ee (by omega)
    have gc := gs_cond t (ok_add (ge_adv t o hk (by decide)).1.2.1 (by decide)) (step_cp (S := adv S) (S0 := S) rfl (ge_adv t o hk (by decide)).2 c (by omega)).2 h1
    obtain ⟨_, _, _, _, _, ge, _, w5, w6, S5, S6, x, _, _, _, hSc, _, _, _, z7, z8, z9⟩ := gc
    have q2 := add_at (S := cadd S6 x 0 0) (x := 17) (f := 0) (t := 0) (by omega)
    have e17 : S2.2.2.1 ee = 17 := by
      rw [e3.2.2.1]
      show Sc.2.2.1 ee = 17
      rw [hSc, show ee = cz (cadd S6 x 0 0) by omega]
      exact q2.1
    exact ⟨q.1.trans (q1.1.trans e17), q.2⟩
  have Dj : D.1 (cz S4) = 16 ∧ D.2.1 (cz S4) = cz S := by
    have q := J.2.1 (cz S4) (by omega) (by omega) (by omega)
    have q2 := add_at (x := 16) (f := (adv S).2.2.2.2.2.2.2.2.1) (t := 0) z4
    exact ⟨q.1.trans q2.1, q.2.1.trans q2.2.1⟩
  have low : ∀ i, cz S ≤ i → i < cz S4 → i ≠ ee → D.1 i = S4.2.2.1 i ∧ D.2.1 i = S4.2.2.2.1 i ∧ D.2.2.1 i = S4.2.2.2.2.1 i := by
    intro i i1 i2 i3
    have q := J.2.1 i i1 (by omega) i3
    have q2 := WE.2.1 i i2
    exact ⟨q.1.trans q2.1, q.2.1.trans q2.2.1, q.2.2.trans q2.2.2⟩
  have AB : AGd D (cz S2) S4 := ⟨by omega, fun i i1 i2 => low i (by omega) i2 (by omega)⟩
  have hc2 : ∀ i, cz S ≤ i → i < ee → D.1 i = Sc.2.2.1 i ∧ D.2.1 i = Sc.2.2.2.1 i ∧ D.2.2.1 i = Sc.2.2.2.2.1 i := by
    intro i i1 i2
    have q := low i i1 (by omega) (by omega)
    have q2 := p24.2.1 i (by omega)
    rw [e3.2.2.1] at q2
    exact ⟨q.1.trans q2.1, q.2.1.trans q2.2.1, q.2.2.trans q2.2.2⟩
  have co := ro_cond pf hG hN o c e hk (Or.inr rfl) h1 (by omega) hc2 De.1 (hμ.sub (Nat.le_refl _) (by rw [pend]; have := k4.1; omega)) hA
  have hA' := hA
  obtain ⟨hS, a1, a2, a3, a4⟩ := hA
  have s3 := hS.2.2.1
  have kX : r_pKind X S.1 = 10 := kind_of hG o.1 hk
  have nxE : r_pNext X S.1 = S4.1 := (hG.2.2.2 S.1 (by omega)).2.trans nx2
  rcases co with co | ⟨hs4, bb, k, st', v1, v2, su', te', ss', ts', hh⟩
  · exact ro_fail co (by omega)
  · have st400 : r_steps X < 400 := by rw [hS.2.2.2.1.2.2.2.2.1]; exact hs4
    have kp4 : KP X (VX (sX X) Sc.1 0 su' te' ss' ts') := KP.sx.tr KP.vx
    have hG4 := rg_gr hG kp4.1
    have kX4 : r_pKind (VX (sX X) Sc.1 0 su' te' ss' ts') S.1 = 10 := kind_of hG4 o.1 hk
    have nX4 : r_pNext (VX (sX X) Sc.1 0 su' te' ss' ts') S.1 = S4.1 := (hG4.2.2.2 S.1 (by omega)).2.trans nx2
    have pc15 : r_pc X < 155 := by omega
    have kk : r_pKind X (r_pc X) = 7 ∨ r_pKind X (r_pc X) = 10 := by rw [a3]; exact Or.inr kX
    cases bb with
    | true =>
      rw [if_pos rfl] at v1
      obtain ⟨b1, b2, b3, b4, b5, b6, b7⟩ := br_at (S1 := Sc) (S2 := S2) (st := st') (su := su') (te := te') (ss := ss') (ts := ts') (c := cz Sc) (k := 10) (p := S.1) (p2 := Sc.1 + 1) hA' hs4
      have stp : ∀ v Z', rN (w_pc (pX (w_pc (VX (sX X) Sc.1 0 su' te' ss' ts') (Sc.1 + 1)) f 10 S.1) (Sc.1 + 1)) v Z' → rN X v Z' := by
        intro v Z' hr
        have ty := te_y (X := X) (X4 := VX (sX X) Sc.1 0 su' te' ss' ts') (p := S.1) (f := f) st400 a4 hh vx_fl (by omega) (kp4.2.1.trans hS.1) (by omega) (by rw [kp4.2.2.2.2.2.1]; omega)
        rw [kX4, vx_pc, ← wpc_same] at ty
        exact rN_step hS.1 (by omega) a4 (st_test pc15 kk (by rw [a3]; exact ty)) hr
      have hbp : 1 ≤ b := by omega
      have body := hs (b - 1) (by omega) n S2 S4 w4 N σ bl f (KX (mc_step K) st' 0 (cz Sc)) (w_pc (pX (w_pc (VX (sX X) Sc.1 0 su' te' ss' ts') (Sc.1 + 1)) f 10 S.1) (Sc.1 + 1)) (rg_gr hG b2.1) (by rw [(b2.2.1 f (Nat.le_refl _)).1]; exact hN) g2 (gS2.c2 c) (g3.trans e) (hT.pf g5) h5 AB (hμ.sub (by omega) (Nat.le_refl _)) nx.1 (by rw [zc, g8]; exact b1) (by rw [b3]; omega) (by rw [b7]; omega)
      rw [b3] at body
      rcases body with ⟨kb, K6, X6, r1, r2, r3, r4, r5, r6, r7, r8, r9, r10, r11, r12⟩ | ⟨kb, E, K6, X6, f6, r1, r2, r3, r4, r5, r6, r7, r8, r9⟩
      · rw [b7] at r2 r3
        have vj := vm_jump (D := D) (K := K6) (st := K6.2.2.2.1) (τ := 0) (c := cz S4) (by omega) Dj.1
        rw [Dj.2, ← kx_eta r5 r4] at vj
        have F7 : FRL f (r_level X f) X (w_pc (lX X6 f (r_level X f)) S.1) := ((b2.tr (r10.weak (by omega))).tr lx_frl).tr KP.pc.frl
        have lv7 : r_level (w_pc (lX X6 f (r_level X f)) S.1) f = r_level X f := by rw [wpc_lv]; exact lx_lv
        have fl7 : r_failure (w_pc (lX X6 f (r_level X f)) S.1) = 0 := by rw [wpc_fl, lx_fl]; exact r7
        have hA7 : AT Y (KX K6 K6.2.2.2.1 0 (cz S)) (w_pc (lX X6 f (r_level X f)) S.1) f (cz S) S.1 := ⟨SIM.kx (SIM.pc (SIM.lx r8)), rfl, rfl, wpc_pc, fl7⟩
        have hN7 : NB Y N σ bl (r_blockOf (w_pc (lX X6 f (r_level X f)) S.1) f) := by rw [(F7.2.1 f (Nat.le_refl _)).1]; exact hN
        have hb7 : 400 ≤ ks (KX K6 K6.2.2.2.1 0 (cz S)) + (b - 1) := by
          have q := ks_kx (K := K6) (st := K6.2.2.2.1) (τ := 0) (c := cz S)
          omega
        have hl7 : r_level (w_pc (lX X6 f (r_level X f)) S.1) f + (n + 1) = 8 := by rw [lv7]; exact hl
        have loop := hs (b - 1) (by omega) (n + 1) S _ _ N σ bl f (KX K6 K6.2.2.2.1 0 (cz S)) (w_pc (lX X6 f (r_level X f)) S.1) (rg_gr hG F7.1) hN7 o c e hT hst hD hμ hns hA7 hl7 hb7
        rw [lv7] at loop
        refine RO.pre loop ((v1.tr r1).tr vj) ?_ ?_ F7 (fun g hg => (r11 g hg).trans (b6 g hg)) (fun v Z' hr => stp _ _ (r12 _ _ ?_))
        · rw [ks_kx]; omega
        · rw [ks_kx]; omega
        · have top : r_doing X6 (10 * f + r_level X6 f - 1) = 10 ∧ r_doneAt X6 (10 * f + r_level X6 f - 1) = S.1 := by
            rw [r9, show 10 * f + (r_level X f + 1) - 1 = 10 * f + r_level X f by omega]
            have q := r10.2.2.2 (10 * f + r_level X f) (by omega)
            exact ⟨q.1.trans b4, q.2.trans b5⟩
          refine ov_10 r8.1 (by omega) (by omega) (by omega) top.1 ?_
          rw [top.2, r9, show r_level X f + 1 - 1 = r_level X f by omega]
          exact hr
      · rw [b7] at r2 r3
        exact Or.inr ⟨k + kb, E, K6, X6, f6, v1.te r1, by omega, by omega, r4, r5, b2.1.tr r6, r7, r8, fun v Z' hr => stp _ _ (r9 _ _ hr)⟩
    | false =>
      rw [if_neg (by decide), De.2] at v1
      have kp5 : KP X (w_pc (VX (sX X) Sc.1 0 su' te' ss' ts') S4.1) := kp4.tr KP.pc
      refine Or.inl ⟨k, KX (mc_step K) st' 0 (cz S4 + 1), w_pc (VX (sX X) Sc.1 0 su' te' ss' ts') S4.1, v1, ?_, ?_, zend.symm, rfl, wpc_pc, by rw [wpc_fl, vx_fl], SIM.kx (SIM.pc (SIM.vx (at_step hA' hs4))), by rw [kp5.2.2.2.2.2.1], kp5.frl, fun g hg => rfl, fun v Z' hr => ?_⟩
      · rw [ks_kx, ks_step, zend]; omega
      · rw [ks_kx, ks_step]; omega
      · obtain ⟨nn, X1, ho, hr⟩ := hr
        refine rN_step hS.1 (by omega) a4 (st_test pc15 kk ?_) hr
        rw [a3]
        refine te_no st400 a4 hh vx_fl (by omega) (by rw [kX4]; decide) (fun z => by rw [kX4] at z; cases z) ⟨nn, ?_⟩
        rw [nX4]
        exact ho
end RY
