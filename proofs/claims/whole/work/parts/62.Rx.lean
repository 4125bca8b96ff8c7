/-! ===== running if and while: class and model ===== -/
theorem vx_wpc {X : MS} {p q fl : Nat} {su te : Nat → Int32} {ss ts : Nat → Nat} : w_pc (VX X p fl su te ss ts) q = VX X q fl su te ss ts := rfl
theorem vx_pc {X : MS} {p fl : Nat} {su te : Nat → Int32} {ss ts : Nat → Nat} : r_pc (VX X p fl su te ss ts) = p := rfl
theorem vx_fl {X : MS} {p fl : Nat} {su te : Nat → Int32} {ss ts : Nat → Nat} : r_failure (VX X p fl su te ss ts) = fl := rfl
theorem bI_0 {b : Bool} : bI b = 0 ↔ b = false := by cases b <;> decide
theorem cmpop_k {k x : Nat} (h : cmpop k = some x) : (k = 16 ∨ k = 17 ∨ k = 18) ∧ x = k - 3 := by
  unfold cmpop at h
  split at h
  · cases h; omega
  · split at h
    · cases h; omega
    · split at h
      · cases h; omega
      · cases h
theorem jmp_op {W : CS} {k : Nat} : (cjmp W k).2.2.1 = W.2.2.1 ∧ (cjmp W k).2.2.2.2.1 = W.2.2.2.2.1 ∧ (∀ i, i ≠ k → (cjmp W k).2.2.2.1 i = W.2.2.2.1 i) ∧ (k < cz W → (cjmp W k).2.2.2.1 k = cz W) := by
  have e : cjmp W k = (W.1, W.2.1, co_jump W.2.2 k) := rfl
  unfold co_jump at e
  split at e
  · rename_i h
    rw [e]
    exact ⟨rfl, rfl, fun _ _ => rfl, fun z => absurd h (Nat.not_le.mpr z)⟩
  · rw [e]
    refine ⟨rfl, rfl, fun i hi => ?_, fun _ => va_same _ _ _⟩
    show va_up W.2.2.2.1 k _ i = _
    unfold va_up; rw [if_neg hi]
theorem jmp_ag {D : Co} {a k : Nat} {W : CS} (h : AGd D a (cjmp W k)) : cz W ≤ D.2.2.2.2.2.2.1 ∧ (∀ i, a ≤ i → i < cz W → i ≠ k → D.1 i = W.2.2.1 i ∧ D.2.1 i = W.2.2.2.1 i ∧ D.2.2.1 i = W.2.2.2.2.1 i) ∧ (a ≤ k → k < cz W → D.1 k = W.2.2.1 k ∧ D.2.1 k = cz W) := by
  have j := jmp_op (W := W) (k := k)
  refine ⟨by have := h.1; rw [cz_jmp] at this; exact this, fun i h1 h2 h3 => ?_, fun h1 h2 => ?_⟩
  · have q := h.2 i h1 (by rw [cz_jmp]; exact h2)
    rw [j.1, j.2.1, j.2.2.1 i h3] at q
    exact q
  · have q := h.2 k h1 (by rw [cz_jmp]; exact h2)
    rw [j.1, j.2.2.2 h2] at q
    exact ⟨q.1, q.2.1⟩
/-! the model's test -/
section TE
variable {X X4 X5 : MS} {p f : Nat} {b : Bool}
theorem te_y (hs : r_steps X < 400) (h0 : r_failure X = 0) (hh : mo_holds (w_pc (sX X) (p + 1)) true X4) (h4 : r_failure X4 = 0) (hp : p < 155) (hf : r_frame X4 = some f) (hl : f < 11) (h9 : r_level X4 f < 10) : mo_test p X (pX (w_pc X4 (r_pc X4 + 1)) f (r_pKind X4 p) p) :=
  ⟨_, step_y hs, (show r_failure X < 2147483648 by omega), Or.inl ⟨h0, true, X4, hh, by omega, Or.inl ⟨h4, Or.inl ⟨rfl, hp, _, push_ok (X := w_pc X4 (r_pc X4 + 1)) hf hl h9, rfl⟩⟩⟩⟩
theorem te_else (hs : r_steps X < 400) (h0 : r_failure X = 0) (hh : mo_holds (w_pc (sX X) (p + 1)) false X4) (h4 : r_failure X4 = 0) (hp : p < 155) (hk : r_pKind X4 p = 7) (hn : r_pNext X4 p < 155) (h9 : r_pKind X4 (r_pNext X4 p) = 9) (hf : r_frame X4 = some f) (hl : f < 11) (hl9 : r_level X4 f < 10) : mo_test p X (w_pc (pX (w_pc X4 (r_pc X4 + 1)) f 9 (r_pNext X4 p)) (r_pNext X4 p + 1)) :=
  ⟨_, step_y hs, (show r_failure X < 2147483648 by omega), Or.inl ⟨h0, false, X4, hh, by omega, Or.inl ⟨h4, Or.inr ⟨by decide, hp, by omega, Or.inl ⟨hk, hp, hn, by omega, Or.inl ⟨h9, hp, _, push_ok (X := w_pc X4 (r_pc X4 + 1)) hf hl hl9, hp, rfl⟩⟩⟩⟩⟩⟩
theorem te_no (hs : r_steps X < 400) (h0 : r_failure X = 0) (hh : mo_holds (w_pc (sX X) (p + 1)) false X4) (h4 : r_failure X4 = 0) (hp : p < 155) (hkb : r_pKind X4 p < 2147483648) (hk : r_pKind X4 p = 7 → r_pNext X4 p < 155 ∧ r_pKind X4 (r_pNext X4 p) < 2147483648 ∧ ¬ r_pKind X4 (r_pNext X4 p) = 9) (ho : mo_over (w_pc X4 (r_pNext X4 p)) X5) : mo_test p X X5 := by
  refine ⟨_, step_y hs, (show r_failure X < 2147483648 by omega), Or.inl ⟨h0, false, X4, hh, by omega, Or.inl ⟨h4, Or.inr ⟨by decide, hp, hkb, ?_⟩⟩⟩⟩
  by_cases h7 : r_pKind X4 p = 7
  · obtain ⟨k1, k2, k3⟩ := hk h7
    exact Or.inl ⟨h7, hp, k1, k2, Or.inr ⟨k3, hp, X5, ho, rfl⟩⟩
  · exact Or.inr ⟨h7, hp, X5, ho, rfl⟩
theorem te_f (hs : r_steps X < 400) (h0 : r_failure X = 0) (hh : mo_holds (w_pc (sX X) (p + 1)) b X4) (h4 : ¬ r_failure X4 = 0) (h5 : r_failure X4 < 2147483648) : mo_test p X X4 :=
  ⟨_, step_y hs, (show r_failure X < 2147483648 by omega), Or.inl ⟨h0, b, X4, hh, h5, Or.inr ⟨h4, rfl⟩⟩⟩
end TE
section RX
variable {T : Tk} {m : Nat} {Y : MS2} {D : Co} {μ ν : Nat → Nat} {N : Nm} {σ bl : Nat → Nat} {f : Nat} {K : Mc} {X : MS}
/-- what a condition comes to -/
def CO (Y : MS2) (D : Co) (S S1 : CS) (e : Nat) (K : Mc) (X : MS) : Prop :=
  (∃ k E K' X' f', VE D k K E K' ∧ k + cz S + 700 * ks K ≤ cz S1 + 700 * ks K' ∧ ks K ≤ ks K' ∧ fcode E (r_failure X') ∧ OBS K' X' ∧ GR X X' ∧ r_frame X' = some f' ∧ f' < 2147483648 ∧ ∀ v Z', rN X' v Z' → rN X v Z') ∨
  (ks K < 400 ∧ ∃ b k st', VR D k K (KX (mc_step K) st' 0 (if b = true then cz S1 else D.2.1 e)) ∧ k + cz S ≤ cz S1 ∧ ∃ su' te' ss' ts', mo_holds (w_pc (sX X) (S.1 + 1)) b (VX (sX X) S1.1 0 su' te' ss' ts'))
theorem ro_cond {S S1 : CS} {q e : Nat} (pf : PF2 T m Y) (hG : RG T m Y μ ν X) (hN : NB Y N σ bl (r_blockOf X f)) (o : Ok m S) (c : C2 S) (eN : S.2.1 = N) (hk : kd T S.1 = q) (hq : q = 4 ∨ q = 7) (h : cp_cond T (cadd (adv S) 0 0 0) = (.inr e, S1)) (hD1 : cz S1 ≤ D.2.2.2.2.2.2.1) (hD2 : ∀ i, cz S ≤ i → i < e → D.1 i = S1.2.2.1 i ∧ D.2.1 i = S1.2.2.2.1 i ∧ D.2.2.1 i = S1.2.2.2.2.1 i) (hD3 : D.1 e = 17) (hμ : MU T N σ μ S.1 S1.1) (hA : AT Y K X f (cz S) S.1) : CO Y D S S1 e K X := by
  have t := pf.1
  have tm := t.1
  have o1 := o.1
  have hl := t.lt o.1 hk (by omega)
  have ha := ge_adv t o hk (by omega)
  have sc := step_cp (S := adv S) (S0 := S) rfl ha.2 c (by omega)
  have oA : Ok m (cadd (adv S) 0 0 0) := ok_add ha.1.2.1 (by decide)
  obtain ⟨g1, g2, g3, g4, g5, g6, g7, w2, w3, S2, S3, x, h1, hx, h3, hS1, gE1, gE2, p3, z3, z4, z5⟩ := gs_cond t oA sc.2 h
  have zA : cz (adv S) < 300 := by show cz S < 300; unfold C2 at c; omega
  have zz : cz (adv S) = cz S := rfl
  have pA : (cadd (adv S) 0 0 0).1 = S.1 + 1 := ha.2
  have hc := cmpop_k hx
  have e3 : e = cz S3 + 1 := by omega
  have zS3 : cz S3 < 300 := by omega
  have zS3' : cz (cadd S3 x 0 0) < 300 := by omega
  have A3 : AGd D (cz S) (cadd S3 x 0 0) := by
    refine ⟨by omega, fun i i1 i2 => ?_⟩
    have q1 := hD2 i i1 (by omega)
    have q2 := (PF.rf.add (S0 := cadd S3 x 0 0) (x := 17) (f := 0) (t := 0) zS3').2.1 i i2
    rw [hS1] at q1
    exact ⟨q1.1.trans q2.1, q1.2.1.trans q2.2.1, q1.2.2.trans q2.2.2⟩
  have pf1 : PF (cadd (adv S) 0 0 0) S3 := gE1.2.2.2.2.tr gE2.2.2.2.2
  have D0 := A3.at (S := adv S) (x := 0) (f := 0) (t := 0) zA (pf1.add zS3) (Nat.le_refl _)
  have Dx := A3.at (S := S3) (x := x) (f := 0) (t := 0) zS3 PF.rf (by have := pf1.1; omega)
  have c2 : Cp S2 := gE1.cp sc.2
  have gA2 := ge_adv t gE1.2.1 rfl (cmpop_lt hx).1
  have zz2 : cz (adv S2) = cz S2 := rfl
  have pz1 := gE1.2.2.2.2.1
  have pz2 := gE2.2.2.2.2.1
  have oS3 := gE2.2.1.1
  have oS2 := gE1.2.1.1
  have S1p : S1.1 = S3.1 := by rw [hS1]; rfl
  have s12 := gE1.1
  have s23 := gE2.1
  have kq : r_pKind X S.1 = 7 ∨ r_pKind X S.1 = 10 := by
    have := kind_of hG o.1 hk
    rcases hq with z | z <;> subst z
    · exact Or.inl this
    · exact Or.inr this
  have hs400 : ks K ≤ 400 := hA.1.2.2.2.1.2.2.2.2.2.1
  rcases Nat.lt_or_ge (ks K) 400 with hs | hs
  · have hSs := at_step hA hs
    have hGs : RG T m Y μ ν (sX X) := rg_gr hG KP.sx.1
    obtain ⟨⟨s1, s2, s3, s4, s5, s6⟩, b1, b2, b3, b4⟩ := hA
    have b4' : r_failure (sX X) = 0 := b4
    have V1 : VV T N (mc_step K) (sX X) (cadd (adv S) 0 0 0).1 S2.1 := vvx pf hGs hN hSs oS2 (hμ.sub (by omega) (by omega))
    have V2 : VV T N (mc_step K) (sX X) (adv S2).1 S3.1 := vvx pf hGs hN hSs oS3 (hμ.sub (by omega) (by omega))
    have tv := ev_top (K := mc_step K) (X := sX X) (st := K.2.2.2.1) (τ := 0) (su := r_sum X) (te := r_term X) (ss := r_sumSign X) (ts := r_termSign X) t hGs.1 oA sc.2 eN h1 ((A3.pf ((gE2.2.2.2.2.adv.tr PF.rf).add zS3)).lo (by omega)) V1 (by decide)
    have vst := vm_step (K := K) (st := K.2.2.2.1) (τ := 0) (c := cz S) D0.1 D0.2.1 hs
    rw [← kx_eta b1 b2] at vst
    have st400 : r_steps X < 400 := by rw [s4.2.2.2.2.1]; exact hs
    have kk : r_pKind X (r_pc X) = 7 ∨ r_pKind X (r_pc X) = 10 := by rw [b3]; exact kq
    have pc15 : r_pc X < 155 := by omega
    have nm2 : S2.2.1 = N := gE1.2.2.1.trans eN
    unfold TV at tv
    rw [pA, sc.1] at tv
    rcases tv with ⟨a, k, st', v1, v2, v3, v4, su', te', ss', ts', v5⟩ | ⟨k, st', τ', c', v1, v2, v, pc', su', te', ss', ts', hpc, v5⟩
    · have hev : mo_evaluate (w_pc (sX X) (S.1 + 1)) a (VX (sX X) S2.1 0 su' te' ss' ts') := by
        rw [wpc_vx _ b4']; exact v5
      have tv2 := ev_top (K := mc_step K) (X := sX X) (st := st') (τ := 1) (su := su') (te := te') (ss := ss') (ts := ts') t hGs.1 gA2.1.2.1 (gA2.1.cp c2) nm2 h3 ((A3.pf (PF.rf.add zS3)).lo (by omega)) V2 (by decide)
      unfold TV at tv2
      rw [p3, zz2] at tv2
      have kS2 : r_pKind (VX (sX X) S2.1 0 su' te' ss' ts') S2.1 = kap (kd T S2.1) := (rg_gr hGs KP.vx.1).1.1 S2.1 oS2
      rcases tv2 with ⟨bv, k2, st2, u1, u2, u3, u4, su2, te2, ss2, ts2, u5⟩ | ⟨k2, st2, τ2, c2', u1, u2, v, pc', su2, te2, ss2, ts2, hpc, u5⟩
      · right
        refine ⟨hs, mc_cmp x a bv, 1 + k + k2 + 1 + 1, upd st2 0 (bI (mc_cmp x a bv)), ?_, by omega, su2, te2, ss2, ts2, ?_⟩
        · have t0 : st2 0 = a := (u4 0 (by decide)).trans v3
          have vop := kx_op (K := mc_step K) (D := D) (st := st2) (τ := 0) (c := cz S3) (x := x) (by decide) Dx.1 Dx.2.1 (by omega) (by omega) (fun hh => by omega)
          rw [if_pos (show 13 ≤ x by omega), t0, show st2 (0 + 1) = bv from u3] at vop
          have vj := vm_ju (K := mc_step K) (D := D) (st := upd st2 0 (bI (mc_cmp x a bv))) (τ := 0) (c := cz S3 + 1) (by omega) (by rw [← e3]; exact hD3)
          rw [upd_same] at vj
          have hif : (if bI (mc_cmp x a bv) = 0 then D.2.1 (cz S3 + 1) else cz S3 + 1 + 1) = (if mc_cmp x a bv = true then cz S1 else D.2.1 e) := by
            by_cases hb : mc_cmp x a bv = true
            · rw [if_pos hb, if_neg (fun z => by rw [bI_0.mp z] at hb; cases hb)]; omega
            · rw [if_neg hb, if_pos (bI_0.mpr (eq_false_of_ne_true hb)), e3]
          rw [hif] at vj
          exact (((vst.tr v1).tr u1).tr vop).tr vj
        · have hh := ho_cmp (X := w_pc (sX X) (S.1 + 1)) (X1 := VX (sX X) S2.1 0 su' te' ss' ts') (X2 := VX (sX X) S3.1 0 su2 te2 ss2 ts2) (a := a) (b := bv) (k := kd T S2.1) hev (by rw [vx_pc]; omega) vx_fl (by rw [vx_pc, vx_wpc]; exact u5) (by rw [vx_pc]; exact kS2) hc.1
          rw [hc.2, S1p]
          exact hh
      · left
        obtain ⟨hv, hh⟩ := ho_f2 (X := w_pc (sX X) (S.1 + 1)) (X1 := VX (sX X) S2.1 0 su' te' ss' ts') (X2 := VX (sX X) pc' 2 su2 te2 ss2 ts2) (a := a) (b := v) hev (by rw [vx_pc]; omega) vx_fl (by rw [vx_pc, kS2]; have := kap_lt9 _ (t.some oS2).2; omega) (by rw [vx_pc, vx_wpc]; exact u5)
        refine ⟨1 + k + k2, ARE, _, VX (sX X) pc' 2 su2 te2 ss2 ts2, f, (vst.tr v1).te u1, ?_, ?_, Or.inl ⟨rfl, vx_fl⟩, hSs.2.2.2.1.vx.kx, (KP.sx.tr KP.vx).1, (KP.sx.tr KP.vx).2.1.trans s1, by omega, fun v' Z' hh' => ?_⟩
        · rw [ks_kx, ks_step]; omega
        · rw [ks_kx, ks_step]; omega
        · rw [← b3] at hh
          exact rN_step s1 (by omega) b4 (st_test pc15 kk (te_f st400 b4 hh (by rw [vx_fl]; decide) (by rw [vx_fl]; decide))) hh'
    · left
      have hev : mo_evaluate (w_pc (sX X) (S.1 + 1)) v (VX (sX X) pc' 2 su' te' ss' ts') := by
        rw [wpc_vx _ b4']; exact v5
      have hh := ho_f1 (X := w_pc (sX X) (S.1 + 1)) (X1 := VX (sX X) pc' 2 su' te' ss' ts') hev (by rw [vx_pc]; exact hpc) (by rw [vx_fl]; decide) (by rw [vx_fl]; decide)
      rw [vx_pc, vx_wpc] at hh
      refine ⟨1 + k, ARE, _, VX (sX X) (pc' + 1) 2 su' te' ss' ts', f, vst.te v1, ?_, ?_, Or.inl ⟨rfl, vx_fl⟩, hSs.2.2.2.1.vx.kx, (KP.sx.tr KP.vx).1, (KP.sx.tr KP.vx).2.1.trans s1, by omega, fun v' Z' hh' => ?_⟩
      · rw [ks_kx, ks_step]; omega
      · rw [ks_kx, ks_step]; omega
      · rw [← b3] at hh
        exact rN_step s1 (by omega) b4 (st_test pc15 kk (te_f st400 b4 hh (by rw [vx_fl]; decide) (by rw [vx_fl]; decide))) hh'
  · left
    exact fl_step3 t hG.1 hA o.1 (by omega) D0.1 D0.2.1 (by omega) (by omega)
/-- a failure before the branches is the whole statement's -/
theorem ro_fail {c0 c1 c2 t1 lv lv' : Nat} {P : Nat → MS → Prop} (h : ∃ k E K' X' f', VE D k K E K' ∧ k + c0 + 700 * ks K ≤ c1 + 700 * ks K' ∧ ks K ≤ ks K' ∧ fcode E (r_failure X') ∧ OBS K' X' ∧ GR X X' ∧ r_frame X' = some f' ∧ f' < 2147483648 ∧ ∀ v Z', rN X' v Z' → P v Z') (hc : c1 ≤ c2) : RO Y D c0 c2 t1 lv lv' K X f P := by
  obtain ⟨k, E, K', X', f', h1, h2, h3⟩ := h
  exact Or.inr ⟨k, E, K', X', f', h1, by omega, h3⟩
theorem sx_st {X : MS} : r_level (sX X) = r_level X := rfl
theorem vx_lv {X : MS} {p fl : Nat} {su te : Nat → Int32} {ss ts : Nat → Nat} : r_level (VX X p fl su te ss ts) = r_level X := rfl
/-- the branch that is run with an entry (k, p) on the frame's list -/
theorem br_at {S S1 S2 : CS} {st su te : Nat → Int32} {ss ts : Nat → Nat} {c k p p2 : Nat} (hA : AT Y K X f (cz S) S.1) (hs : ks K < 400) : AT Y (KX (mc_step K) st 0 c) (w_pc (pX (w_pc (VX (sX X) S1.1 0 su te ss ts) (S1.1 + 1)) f k p) p2) f c p2 ∧ FRL f (r_level X f) X (w_pc (pX (w_pc (VX (sX X) S1.1 0 su te ss ts) (S1.1 + 1)) f k p) p2) ∧ r_level (w_pc (pX (w_pc (VX (sX X) S1.1 0 su te ss ts) (S1.1 + 1)) f k p) p2) f = r_level X f + 1 ∧ r_doing (w_pc (pX (w_pc (VX (sX X) S1.1 0 su te ss ts) (S1.1 + 1)) f k p) p2) (10 * f + r_level X f) = k ∧ r_doneAt (w_pc (pX (w_pc (VX (sX X) S1.1 0 su te ss ts) (S1.1 + 1)) f k p) p2) (10 * f + r_level X f) = p ∧ FRK f K (KX (mc_step K) st 0 c) ∧ ks (KX (mc_step K) st 0 c) = ks K + 1 := by
  have hSs := at_step hA hs
  have k1 : KP X (w_pc (VX (sX X) S1.1 0 su te ss ts) (S1.1 + 1)) := (KP.sx.tr KP.vx).tr KP.pc
  have hlv : r_level (w_pc (VX (sX X) S1.1 0 su te ss ts) (S1.1 + 1)) f = r_level X f := by rw [k1.2.2.2.2.2.1]
  refine ⟨⟨SIM.kx (SIM.pc (SIM.px (SIM.pc (SIM.vx hSs)))), rfl, rfl, wpc_pc, by rw [wpc_fl, px_fl, wpc_fl, vx_fl]⟩, (k1.frl.tr (px_frl hlv)).tr KP.pc.frl, ?_, ?_, ?_, fun g hg => rfl, by rw [ks_kx, ks_step]⟩
  · rw [wpc_lv, px_lv, hlv]
  · rw [wpc_do, ← hlv]; exact px_do
  · rw [wpc_at, ← hlv]; exact px_at
end RX
