/-! ===== running if ===== -/
section RZ
variable {T : Tk} {m : Nat} {Y : MS2} {D : Co} {μ ν : Nat → Nat} {N : Nm} {σ bl : Nat → Nat} {f : Nat} {K : Mc} {X : MS}
/-- the jump of a condition, in the code -/
theorem cond_17 {S Sc S2 : CS} {q e q2 v : Nat} (t : TkOk T m) (o : Ok m S) (c : C2 S) (hk : kd T S.1 = q) (hq : q < 27) (hq2 : q2 < 27) (h : cp_cond T (cadd (adv S) 0 0 0) = (.inr e, Sc)) (h3 : cp_expect T q2 Sc = (.inr v, S2)) : S2.2.2.1 e = 17 ∧ cz S2 = cz Sc ∧ S2 = adv Sc := by
  have tm := t.1
  have hl := t.lt o.1 hk hq
  have gc := gs_cond t (ok_add (ge_adv t o hk hq).1.2.1 (by decide)) (step_cp (S := adv S) (S0 := S) rfl (ge_adv t o hk hq).2 c (by omega)).2 h
  have e3 := ge_expect t hq2 gc.2.1 h3
  obtain ⟨_, _, _, _, _, ge, _, w5, w6, S5, S6, x, _, _, _, hSc, _, _, _, z7, z8, z9⟩ := gc
  have q2 := add_at (S := cadd S6 x 0 0) (x := 17) (f := 0) (t := 0) (by omega)
  refine ⟨?_, by rw [e3.2.2.1]; rfl, e3.2.2.1⟩
  rw [e3.2.2.1]
  show Sc.2.2.1 e = 17
  rw [hSc, show e = cz (cadd S6 x 0 0) by omega]
  exact q2.1
set_option maxRecDepth 4000 in
theorem ro_if {b n : Nat} (pf : PF2 T m Y) (hs : ∀ b', b' < b → ∀ n', STMT T m Y D μ ν b' n') {S S1 : CS} {v0 : Nat} (hG : RG T m Y μ ν X) (hN : NB Y N σ bl (r_blockOf X f)) (o : Ok m S) (c : C2 S) (e : S.2.1 = N) (hT : TB D S N) (hk : kd T S.1 = 4) (h : cp_if T (cp_stm T n) (adv S) = (.inr v0, S1)) (hD : AGd D (cz S) S1) (hμ : MU T N σ μ S.1 S1.1) (hn : nxi T ν (cp_stm T n) (nxs T ν n) S) (hA : AT Y K X f (cz S) S.1) (hl : r_level X f + (n + 1) = 8) (hb : 400 ≤ ks K + b) : RO Y D (cz S) (cz S1) S1.1 (r_level X f) (r_level X f) K X f (rN X) := by
  have t := pf.1
  have tm := t.1
  have o1 := o.1
  have hlt := t.lt o.1 hk (by decide)
  obtain ⟨ee, Sc, h1, h2⟩ := bd_inv h
  obtain ⟨w3, S2, h3, h4⟩ := bd_inv h2
  obtain ⟨w4, S4, h5, h6⟩ := bd_inv h4
  obtain ⟨g1, g2, g3, g4, g5, g6, g7, g8, g9, _, _⟩ := gs_head t o c hk (by decide) h1 (by decide) h3
  have gS2 : GS m S S2 := ⟨by omega, g2, g3, by omega, g5⟩
  have c17 := cond_17 t o c hk (by decide) (by decide) h1 h3
  have zc : cz S2 = cz Sc := c17.2.1
  have k4 := gs_stm t n S2 S4 w4 g2 (gS2.c2 c) trivial h5
  have gS4 := gS2.tr k4
  have k41 := k4.1
  have oS4 := k4.2.1.1
  have p24 := k4.2.2.2.2
  have p241 := p24.1
  have nx := hn ee Sc w3 S2 h1 h3
  have nx2 := nx.2 w4 S4 h5
  have hA' := hA
  obtain ⟨hS, a1, a2, a3, a4⟩ := hA
  have s3 := hS.2.2.1
  have kX : r_pKind X S.1 = 7 := kind_of hG o.1 hk
  have pc15 : r_pc X < 155 := by omega
  have kk : r_pKind X (r_pc X) = 7 ∨ r_pKind X (r_pc X) = 10 := by rw [a3]; exact Or.inl kX
  have hbp : ks K < 400 → 1 ≤ b := fun z => by omega
  -- what both kinds of if have in common
  have common : ∀ (cE tE : Nat) (gt : Nat), (∀ i, cz S ≤ i → i < cz S4 → i ≠ ee → D.1 i = S4.2.2.1 i ∧ D.2.1 i = S4.2.2.2.1 i ∧ D.2.2.1 i = S4.2.2.2.2.1 i) → D.1 ee = 17 → D.2.1 ee = gt → cz S4 ≤ D.2.2.2.2.2.2.1 → cz S4 ≤ cE → MU T N σ μ S.1 S4.1 →
      -- behind the then part
      (∀ K' X', K'.2.2.2.2.2.2.1 = cz S4 → K'.2.2.2.2.1 = 0 → r_pc X' = S4.1 → r_failure X' = 0 → SIM Y K' X' f → r_level X' f = r_level X f + 1 → FRL f (r_level X f) X X' → FRK f K K' → ks K ≤ ks K' → r_doing X' (10 * f + r_level X f) = 7 → r_doneAt X' (10 * f + r_level X f) = S.1 → RO Y D (cz S4) cE tE (r_level X f) (r_level X f) K' X' f (oV X')) →
      -- the condition does not hold
      (∀ k st' su' te' ss' ts', ks K < 400 → VR D k K (KX (mc_step K) st' 0 gt) → k + cz S ≤ cz Sc → mo_holds (w_pc (sX X) (S.1 + 1)) false (VX (sX X) Sc.1 0 su' te' ss' ts') → RO Y D (cz S) cE tE (r_level X f) (r_level X f) K X f (rN X)) →
      RO Y D (cz S) cE tE (r_level X f) (r_level X f) K X f (rN X) := by
    intro cE tE gt low D17 Dgt hsz hcE hμ4 thn els
    have AB : AGd D (cz S2) S4 := ⟨hsz, fun i i1 i2 => low i (by omega) i2 (by omega)⟩
    have hc2 : ∀ i, cz S ≤ i → i < ee → D.1 i = Sc.2.2.1 i ∧ D.2.1 i = Sc.2.2.2.1 i ∧ D.2.2.1 i = Sc.2.2.2.2.1 i := by
      intro i i1 i2
      have q := low i i1 (by omega) (by omega)
      have q2 := p24.2.1 i (by omega)
      rw [c17.2.2] at q2
      exact ⟨q.1.trans q2.1, q.2.1.trans q2.2.1, q.2.2.trans q2.2.2⟩
    have co := ro_cond pf hG hN o c e hk (Or.inl rfl) h1 (by omega) hc2 D17 (hμ4.sub (Nat.le_refl _) (by omega)) hA'
    rcases co with co | ⟨hs4, bb, k, st', v1, v2, su', te', ss', ts', hh⟩
    · exact ro_fail co (by omega)
    · have st400 : r_steps X < 400 := by rw [hS.2.2.2.1.2.2.2.2.1]; exact hs4
      have kp4 : KP X (VX (sX X) Sc.1 0 su' te' ss' ts') := KP.sx.tr KP.vx
      have hG4 := rg_gr hG kp4.1
      have kX4 : r_pKind (VX (sX X) Sc.1 0 su' te' ss' ts') S.1 = 7 := kind_of hG4 o.1 hk
      cases bb with
      | true =>
        rw [if_pos rfl] at v1
        obtain ⟨b1, b2, b3, b4, b5, b6, b7⟩ := br_at (S1 := Sc) (S2 := S2) (st := st') (su := su') (te := te') (ss := ss') (ts := ts') (c := cz Sc) (k := 7) (p := S.1) (p2 := Sc.1 + 1) hA' hs4
        have stp : ∀ v Z', rN (w_pc (pX (w_pc (VX (sX X) Sc.1 0 su' te' ss' ts') (Sc.1 + 1)) f 7 S.1) (Sc.1 + 1)) v Z' → rN X v Z' := by
          intro v Z' hr
          have ty := te_y (X := X) (X4 := VX (sX X) Sc.1 0 su' te' ss' ts') (p := S.1) (f := f) st400 a4 hh vx_fl (by omega) (kp4.2.1.trans hS.1) (by omega) (by rw [kp4.2.2.2.2.2.1]; omega)
          rw [kX4, vx_pc, ← wpc_same] at ty
          exact rN_step hS.1 (by omega) a4 (st_test pc15 kk (by rw [a3]; exact ty)) hr
        have hbb := hbp hs4
        have body := hs (b - 1) (by omega) n S2 S4 w4 N σ bl f (KX (mc_step K) st' 0 (cz Sc)) (w_pc (pX (w_pc (VX (sX X) Sc.1 0 su' te' ss' ts') (Sc.1 + 1)) f 7 S.1) (Sc.1 + 1)) (rg_gr hG b2.1) (by rw [(b2.2.1 f (Nat.le_refl _)).1]; exact hN) g2 (gS2.c2 c) (g3.trans e) (hT.pf g5) h5 AB (hμ4.sub (by omega) (Nat.le_refl _)) nx.1 (by rw [zc, g8]; exact b1) (by rw [b3]; omega) (by rw [b7]; omega)
        rw [b3] at body
        have pre : RO Y D (cz S) (cz S4) S4.1 (r_level X f) (r_level X f + 1) K X f (rN X) ∧ True := ⟨RO.pre (body.weak (by omega)) v1 (by rw [b7]; omega) (by rw [b7]; omega) b2 b6 stp, trivial⟩
        rcases body with ⟨kb, K6, X6, r1, r2, r3, r4, r5, r6, r7, r8, r9, r10, r11, r12⟩ | ⟨kb, E, K6, X6, f6, r1, r2, r3, r4, r5, r6, r7, r8, r9⟩
        · rw [b7] at r2 r3
          have q := r10.2.2.2 (10 * f + r_level X f) (by omega)
          have th := thn K6 X6 r4 r5 r6 r7 r8 r9 (b2.tr (r10.weak (by omega))) (fun g hg => (r11 g hg).trans (b6 g hg)) (by omega) (q.1.trans b4) (q.2.trans b5)
          exact RO.pre th (v1.tr r1) (by omega) (by omega) (b2.tr (r10.weak (by omega))) (fun g hg => (r11 g hg).trans (b6 g hg)) (fun v Z' hr => stp _ _ (r12 _ _ hr))
        · rw [b7] at r2 r3
          exact Or.inr ⟨k + kb, E, K6, X6, f6, v1.te r1, by omega, by omega, r4, r5, b2.1.tr r6, r7, r8, fun v Z' hr => stp _ _ (r9 _ _ hr)⟩
      | false =>
        rw [if_neg (by decide), Dgt] at v1
        exact els k st' su' te' ss' ts' hs4 v1 v2 hh
  by_cases h6k : kd T S4.1 = 6
  · -- with an else
    rw [if_pos h6k] at h6
    obtain ⟨w7, S6, h7, h8⟩ := bd_inv h6
    have e4 := adv_1 t k4.2.1 h6k (by decide)
    have hl4 := t.lt oS4 h6k (by decide)
    have c4 := gS4.c2 c
    have zA : cz (adv S4) < 300 := by show cz S4 < 300; unfold C2 at c4; omega
    have z1 := cz_add (x := 16) (f := 0) (t := 0) zA
    have zz : cz (adv S4) = cz S4 := rfl
    have q4 := gS4.2.2.2.1
    have gS4' : GS m S (cadd (adv S4) 16 0 0) := ⟨by show S.1 ≤ (adv S4).1; omega, ok_add (ok_adv t k4.2.1 h6k (by decide)) (by decide), gS4.2.2.1, by rw [z1]; show cz (adv S4) + 1 + 2 * S.1 ≤ cz S + 2 * (adv S4).1; omega, gS4.2.2.2.2.adv.add zA⟩
    have gS5 : GS m S (cjmp (cadd (adv S4) 16 0 0) ee) := gs_jmp gS4' (by omega)
    have e5 : (cjmp (cadd (adv S4) 16 0 0) ee).1 = S4.1 + 1 := e4
    have z5 : cz (cjmp (cadd (adv S4) 16 0 0) ee) = cz S4 + 1 := by rw [cz_jmp, z1, zz]
    have k6 := gs_stm t n _ S6 w7 gS5.2.1 (gS5.c2 c) trivial h7
    have k61 := k6.1
    have k6z := k6.2.2.2.2.1
    have oS6 := k6.2.1.1
    cases h8
    have zE : cz (cjmp S6 (adv S4).2.2.2.2.2.2.2.2.1) = cz S6 := cz_jmp
    have pE : (cjmp S6 (adv S4).2.2.2.2.2.2.2.2.1).1 = S6.1 := rfl
    have jE : (adv S4).2.2.2.2.2.2.2.2.1 = cz S4 := rfl
    have J := jmp_ag hD
    rw [jE] at J
    have JU := jmp_op (W := cadd (adv S4) 16 0 0) (k := ee)
    have U4 : PF S4 (cadd (adv S4) 16 0 0) := PF.rf.adv.add zA
    have a16 := add_at (S := adv S4) (x := 16) (f := 0) (t := 0) zA
    rw [zz] at a16
    have low : ∀ i, cz S ≤ i → i < cz S4 → i ≠ ee → D.1 i = S4.2.2.1 i ∧ D.2.1 i = S4.2.2.2.1 i ∧ D.2.2.1 i = S4.2.2.2.2.1 i := by
      intro i i1 i2 i3
      have q1 := J.2.1 i i1 (by omega) (by omega)
      have q2 := k6.2.2.2.2.2.1 i (by omega)
      have q3 := U4.2.1 i i2
      rw [JU.1, JU.2.1, JU.2.2.1 i i3] at q2
      exact ⟨q1.1.trans (q2.1.trans q3.1), q1.2.1.trans (q2.2.1.trans q3.2.1), q1.2.2.trans (q2.2.2.trans q3.2.2)⟩
    have De : D.1 ee = 17 ∧ D.2.1 ee = cz S4 + 1 := by
      have q1 := J.2.1 ee (by omega) (by omega) (by omega)
      have q2 := k6.2.2.2.2.2.1 ee (by omega)
      have q3 := U4.2.1 ee (by omega)
      have q5 := p24.2.1 ee (by omega)
      rw [JU.1, JU.2.2.2 (by omega)] at q2
      exact ⟨q1.1.trans (q2.1.trans (q3.1.trans (q5.1.trans c17.1))), q1.2.1.trans (q2.2.1.trans (by omega))⟩
    have Dj : D.1 (cz S4) = 16 ∧ D.2.1 (cz S4) = cz S6 := by
      have q1 := J.2.2 (by omega) (by omega)
      have q2 := k6.2.2.2.2.2.1 (cz S4) (by omega)
      rw [JU.1] at q2
      exact ⟨q1.1.trans (q2.1.trans a16.1), q1.2⟩
    have AE : AGd D (cz (cjmp (cadd (adv S4) 16 0 0) ee)) S6 := ⟨J.1, fun i i1 i2 => J.2.1 i (by omega) i2 (by omega)⟩
    have nxe := nx2.2 h6k
    have nxS : ν S.1 = S4.1 := nx2.1
    have nxE : ν S4.1 = S6.1 := nxe.2 w7 S6 h7
    refine common _ _ (cz S4 + 1) low De.1 De.2 (by have := J.1; omega) (by omega) (hμ.sub (Nat.le_refl _) (by rw [pE]; omega)) ?_ ?_
    · intro K' X' r4 r5 r6 r7 r8 r9 r10 r11 r3 d7 dA
      have vj := vm_jump (D := D) (K := K') (st := K'.2.2.2.1) (τ := 0) (c := cz S4) (by have := J.1; omega) Dj.1
      rw [Dj.2, ← kx_eta r5 r4] at vj
      have hG' := rg_gr hG r10.1
      have nS' : r_pNext X' S.1 = S4.1 := (hG'.2.2.2 S.1 (by omega)).2.trans nxS
      have nE' : r_pNext X' S4.1 = S6.1 := (hG'.2.2.2 S4.1 (by omega)).2.trans nxE
      refine Or.inl ⟨1, KX K' K'.2.2.2.1 0 (cz S6), w_pc (lX X' f (r_level X f)) S6.1, vj, ?_, ?_, zE.symm, rfl, by rw [wpc_pc, pE], by rw [wpc_fl, lx_fl]; exact r7, SIM.kx (SIM.pc (SIM.lx r8)), by rw [wpc_lv]; exact lx_lv, lx_frl.tr KP.pc.frl, fun g hg => rfl, fun v Z' hr => ?_⟩
      · have q := ks_kx (K := K') (st := K'.2.2.2.1) (τ := 0) (c := cz S6)
        omega
      · exact Nat.le_of_eq ks_kx.symm
      · have ti : 10 * f + r_level X' f - 1 = 10 * f + r_level X f := by omega
        refine ov_7e r8.1 (by omega) (by omega) (by omega) (by rw [ti]; exact d7) (by rw [r6]; omega) (by rw [r6]; exact kind_of hG' oS4 h6k) (by rw [ti, dA]; omega) (by rw [ti, dA, nS', r6]) ?_
        rw [r6, nE', r9, show r_level X f + 1 - 1 = r_level X f by omega]
        exact hr
    · intro k st' su' te' ss' ts' hs4 v1 v2 hh
      have st400 : r_steps X < 400 := by rw [hS.2.2.2.1.2.2.2.2.1]; exact hs4
      have kp4 : KP X (VX (sX X) Sc.1 0 su' te' ss' ts') := KP.sx.tr KP.vx
      have hG4 := rg_gr hG kp4.1
      have kX4 : r_pKind (VX (sX X) Sc.1 0 su' te' ss' ts') S.1 = 7 := kind_of hG4 o.1 hk
      have nX4 : r_pNext (VX (sX X) Sc.1 0 su' te' ss' ts') S.1 = S4.1 := (hG4.2.2.2 S.1 (by omega)).2.trans nxS
      obtain ⟨b1, b2, b3, b4, b5, b6, b7⟩ := br_at (S1 := Sc) (S2 := S2) (st := st') (su := su') (te := te') (ss := ss') (ts := ts') (c := cz S4 + 1) (k := 9) (p := S4.1) (p2 := S4.1 + 1) hA' hs4
      have stp : ∀ v Z', rN (w_pc (pX (w_pc (VX (sX X) Sc.1 0 su' te' ss' ts') (Sc.1 + 1)) f 9 S4.1) (S4.1 + 1)) v Z' → rN X v Z' := by
        intro v Z' hr
        have ty := te_else (X := X) (X4 := VX (sX X) Sc.1 0 su' te' ss' ts') (p := S.1) (f := f) st400 a4 hh vx_fl (by omega) kX4 (by rw [nX4]; omega) (by rw [nX4]; exact kind_of hG4 oS4 h6k) (kp4.2.1.trans hS.1) (by omega) (by rw [kp4.2.2.2.2.2.1]; omega)
        rw [nX4, vx_pc] at ty
        exact rN_step hS.1 (by omega) a4 (st_test pc15 kk (by rw [a3]; exact ty)) hr
      have hbb := hbp hs4
      have body := hs (b - 1) (by omega) n (cjmp (cadd (adv S4) 16 0 0) ee) S6 w7 N σ bl f (KX (mc_step K) st' 0 (cz S4 + 1)) (w_pc (pX (w_pc (VX (sX X) Sc.1 0 su' te' ss' ts') (Sc.1 + 1)) f 9 S4.1) (S4.1 + 1)) (rg_gr hG b2.1) (by rw [(b2.2.1 f (Nat.le_refl _)).1]; exact hN) gS5.2.1 (gS5.c2 c) (gS5.2.2.1.trans e) (hT.pf gS5.2.2.2.2) h7 AE (hμ.sub (by omega) (Nat.le_refl _)) nxe.1 (by rw [z5, e5]; exact b1) (by rw [b3]; omega) (by rw [b7]; omega)
      rw [b3, z5] at body
      rcases body with ⟨kb, K6, X6, r1, r2, r3, r4, r5, r6, r7, r8, r9, r10, r11, r12⟩ | ⟨kb, E, K6, X6, f6, r1, r2, r3, r4, r5, r6, r7, r8, r9⟩
      · rw [b7] at r2 r3
        have F7 : FRL f (r_level X f) X (lX X6 f (r_level X f)) := (b2.tr (r10.weak (by omega))).tr lx_frl
        refine Or.inl ⟨k + kb, K6, lX X6 f (r_level X f), v1.tr r1, by rw [zE]; omega, by omega, by rw [zE]; exact r4, r5, by rw [lx_pc, pE]; exact r6, by rw [lx_fl]; exact r7, SIM.lx r8, lx_lv, F7, (fun g hg => (r11 g hg).trans (b6 g hg)), fun v Z' hr => stp _ _ (r12 _ _ ?_)⟩
        have ti : 10 * f + r_level X6 f - 1 = 10 * f + r_level X f := by omega
        have q := r10.2.2.2 (10 * f + r_level X f) (by omega)
        refine ov_9 r8.1 (by omega) (by omega) (by omega) (by rw [ti]; exact q.1.trans b4) ?_
        rw [r9, show r_level X f + 1 - 1 = r_level X f by omega]
        exact hr
      · rw [b7] at r2 r3
        exact Or.inr ⟨k + kb, E, K6, X6, f6, v1.te r1, by rw [zE]; omega, by omega, r4, r5, b2.1.tr r6, r7, r8, fun v Z' hr => stp _ _ (r9 _ _ hr)⟩
  · -- without one
    rw [if_neg h6k] at h6
    cases h6
    have zE : cz (cjmp S4 ee) = cz S4 := cz_jmp
    have pE : (cjmp S4 ee).1 = S4.1 := rfl
    have J := jmp_ag hD
    have De : D.1 ee = 17 ∧ D.2.1 ee = cz S4 := by
      have q1 := J.2.2 (by omega) (by omega)
      have q5 := p24.2.1 ee (by omega)
      exact ⟨q1.1.trans (q5.1.trans c17.1), q1.2⟩
    have nxS : ν S.1 = S4.1 := nx2.1
    refine common _ _ (cz S4) (fun i i1 i2 i3 => J.2.1 i i1 i2 i3) De.1 De.2 J.1 (by omega) hμ ?_ ?_
    · intro K' X' r4 r5 r6 r7 r8 r9 r10 r11 r3 d7 dA
      have hG' := rg_gr hG r10.1
      rw [zE]
      refine ro_stay r5 r4 (by rw [lx_pc, pE]; exact r6) (by rw [lx_fl]; exact r7) (SIM.lx (g := f) (l := r_level X f) r8) lx_lv lx_frl fun v Z' hr => ?_
      have ti : 10 * f + r_level X' f - 1 = 10 * f + r_level X f := by omega
      refine ov_7n r8.1 (by omega) (by omega) (by omega) (by rw [ti]; exact d7) (by rw [r6]; omega) (by rw [r6]; exact kind_ne t hG' oS4 (k := 6) (by decide) h6k) (by rw [r6]; exact kind_lt t hG' oS4) ?_
      rw [r9, show r_level X f + 1 - 1 = r_level X f by omega]
      exact hr
    · intro k st' su' te' ss' ts' hs4 v1 v2 hh
      have st400 : r_steps X < 400 := by rw [hS.2.2.2.1.2.2.2.2.1]; exact hs4
      have kp4 : KP X (VX (sX X) Sc.1 0 su' te' ss' ts') := KP.sx.tr KP.vx
      have hG4 := rg_gr hG kp4.1
      have kX4 : r_pKind (VX (sX X) Sc.1 0 su' te' ss' ts') S.1 = 7 := kind_of hG4 o.1 hk
      have nX4 : r_pNext (VX (sX X) Sc.1 0 su' te' ss' ts') S.1 = S4.1 := (hG4.2.2.2 S.1 (by omega)).2.trans nxS
      have kp5 : KP X (w_pc (VX (sX X) Sc.1 0 su' te' ss' ts') S4.1) := kp4.tr KP.pc
      refine Or.inl ⟨k, KX (mc_step K) st' 0 (cz S4), w_pc (VX (sX X) Sc.1 0 su' te' ss' ts') S4.1, v1, ?_, ?_, zE.symm, rfl, wpc_pc, by rw [wpc_fl, vx_fl], SIM.kx (SIM.pc (SIM.vx (at_step hA' hs4))), by rw [kp5.2.2.2.2.2.1], kp5.frl, fun g hg => rfl, fun v Z' hr => ?_⟩
      · have q := ks_kx (K := mc_step K) (st := st') (τ := 0) (c := cz S4)
        have q2 := ks_step (K := K)
        omega
      · have q := ks_kx (K := mc_step K) (st := st') (τ := 0) (c := cz S4)
        have q2 := ks_step (K := K)
        omega
      · obtain ⟨nn, X1, ho, hr⟩ := hr
        refine rN_step hS.1 (by omega) a4 (st_test pc15 kk ?_) hr
        rw [a3]
        refine te_no st400 a4 hh vx_fl (by omega) (by rw [kX4]; decide) (fun _ => ?_) ⟨nn, ?_⟩
        · rw [nX4]
          exact ⟨by omega, kind_lt t hG4 oS4, kind_ne t hG4 oS4 (k := 6) (by decide) h6k⟩
        · rw [nX4]
          exact ho
end RZ
