/-! ===== running a call ===== -/
theorem ax_kp {X : MS} {n : Nat} : KP X (aX X n) := by
  unfold aX
  split
  · exact KP.rf
  · exact KP.pc
theorem SIM.ax {Y : MS2} {K : Mc} {X : MS} {f n : Nat} (h : SIM Y K X f) : SIM Y K (aX X n) f := by
  unfold aX
  split
  · exact h
  · exact h.pc
theorem OBS.ax {K : Mc} {X : MS} {n : Nat} (h : OBS K X) : OBS K (aX X n) := by
  unfold aX
  split
  · exact h
  · exact h.pc
theorem ax_gv {X : MS} {n : Nat} : r_given (aX X n) = r_given X := by unfold aX; split <;> rfl
theorem ax_gt {X : MS} {n : Nat} : r_greatest (aX X n) = r_greatest X := by unfold aX; split <;> rfl
theorem ax_fl {X : MS} {n : Nat} : r_failure (aX X n) = r_failure X := by unfold aX; split <;> rfl
theorem wf_fl {X : MS} {c : Nat} : r_failure (w_failure X c) = c := rfl
section EX2s
variable {Y : MS2} {X : MS} {f g b s w p : Nat}
theorem ex2_pc : r_pc (EX2 Y X f g b s w p) = p := rfl
theorem ex2_fl : r_failure (EX2 Y X f g b s w p) = r_failure X := rfl
theorem ex2_lv : r_level (EX2 Y X f g b s w p) (f + 1) = 0 := va_same _ _ _
theorem ex2_bk : r_back (EX2 Y X f g b s w p) (f + 1) = r_pc X := va_same _ _ _
theorem ex2_bo : r_blockOf (EX2 Y X f g b s w p) (f + 1) = b := va_same _ _ _
theorem ex2_frl {lv : Nat} : FRL f lv X (EX2 Y X f g b s w p) ∧ r_level (EX2 Y X f g b s w p) f = r_level X f := by
  have up : ∀ {α : Type} (h : Nat → α) (z : α) (x : Nat), x ≤ f → va_up h (f + 1) z x = h x := fun h z x hx => by unfold va_up; rw [if_neg (by omega)]
  exact ⟨⟨nx_GR, fun x hx => ⟨up _ _ x hx, up _ _ x hx, up _ _ x hx⟩, fun x hx => up _ _ x (by omega), fun _ _ => ⟨rfl, rfl⟩⟩, up _ _ f (Nat.le_refl _)⟩
end EX2s
theorem ks_ck {K : Mc} {st : Nat → Int32} {f g w c : Nat} : ks (CK K st f g w c) = ks K := rfl
theorem ks_lk {K : Mc} {f : Nat} : ks (LK K f) = ks K := rfl
/-- back in the caller's frame -/
theorem sim_leave {Y : MS2} {K : Mc} {X : MS} {f p : Nat} (h : SIM Y K X (f + 1)) : SIM Y (LK K f) (w_frame (w_pc X p) (some f)) f := by
  obtain ⟨s1, s2, s3, s4, s5, s6⟩ := h
  refine ⟨rfl, rfl, by omega, s4.cong rfl rfl rfl rfl rfl rfl, ?_, ?_⟩
  · have c : CH Y (LK K f) (w_frame (w_pc X p) (some f)) (f + 1) := s5.cong rfl rfl rfl
    exact fun g hg => c g (by omega)
  · have c : MEM Y (LK K f) (w_frame (w_pc X p) (some f)) (f + 1) := s6.cong rfl rfl rfl rfl
    exact fun g s hg => c g s (by omega)
theorem wf_frl {X : MS} {f lv p : Nat} {o : Option Nat} : FRL f lv X (w_frame (w_pc X p) o) := ⟨⟨rfl, rfl, rfl, rfl, rfl⟩, fun _ _ => ⟨rfl, rfl, rfl⟩, fun _ _ => rfl, fun _ _ => ⟨rfl, rfl⟩⟩
theorem frl_down {X X' : MS} {f lv : Nat} (h : FRL (f + 1) 0 X X') (hl : lv ≤ 10) : FRL f lv X X' ∧ r_level X' f = r_level X f := ⟨⟨h.1, fun g hg => h.2.1 g (by omega), fun g hg => h.2.2.1 g (by omega), fun j hj => h.2.2.2 j (by omega)⟩, h.2.2.1 f (by omega)⟩
theorem ARG.x {Y : MS2} {X X' : MS} {f s j : Nat} {st gv : Nat → Int32} (h : ARG Y X f s st gv j) (e : r_blockOf X' = r_blockOf X) : ARG Y X' f s st gv j := by
  unfold ARG COR
  rw [e]
  exact h
theorem ck_ret {K : Mc} {st : Nat → Int32} {f g w c : Nat} : (CK K st f g w c).2.2.1 (f + 1) = c + 1 ∧ ∀ x, x ≤ f → (CK K st f g w c).2.2.1 x = K.2.2.1 x := ⟨va_same _ _ _, fun x hx => by show va_up K.2.2.1 (f + 1) _ x = _; unfold va_up; rw [if_neg (by omega)]⟩
theorem wfr_pc {X : MS} {p : Nat} {o : Option Nat} : r_pc (w_frame (w_pc X p) o) = p := rfl
theorem wfr_fl {X : MS} {p : Nat} {o : Option Nat} : r_failure (w_frame (w_pc X p) o) = r_failure X := rfl
theorem wfr_lv {X : MS} {p : Nat} {o : Option Nat} : r_level (w_frame (w_pc X p) o) = r_level X := rfl
theorem gv_self {X : MS} : w_given X (r_given X) = X := rfl
section CD
variable {T : Tk} {m : Nat} {Y : MS2} {D : Co} {μ ν : Nat → Nat} {N : Nm} {σ bl : Nat → Nat} {f : Nat} {K : Mc} {X : MS}
set_option maxRecDepth 4000 in
theorem ro_call {b : Nat} (pf : PF2 T m Y) (hPG : PG T m Y D μ ν) (hs : ∀ b', b' < b → ∀ n', STMT T m Y D μ ν b' n') {S S1 : CS} {v0 : Nat} (hG : RG T m Y μ ν X) (hN : NB Y N σ bl (r_blockOf X f)) (o : Ok m S) (c : C2 S) (e : S.2.1 = N) (hT : TB D S N) (hk : kd T S.1 = 25) (h : cp_call T S = (.inr v0, S1)) (hD : AGd D (cz S) S1) (hμ : MU T N σ μ S.1 S1.1) (hA : AT Y K X f (cz S) S.1) (hl : r_level X f ≤ 8) (hb : 400 ≤ ks K + b) : RO Y D (cz S) (cz S1) S1.1 (r_level X f) (r_level X f) K X f (rN X) := by
  have t := pf.1
  have tm := t.1
  have o1 := o.1
  have hlt := t.lt o.1 hk (by decide)
  obtain ⟨aa, lim, hPH, hRF, h18, h6, h12, h3, hB0, hBq⟩ := hPG
  have gS := gs_call t S S1 v0 o c hk h
  have oS1 := gS.2.1
  unfold cp_call at h
  rw [e] at h
  split at h
  · cases h
  · rename_i i hi
    split at h
    · rename_i hk2
      have hi1 := (nm_find_lt hi).1
      have nk := hN.2.2.1 i hi1
      have ms := nk.1
      have so3 : Y.2.1 (σ i) = 3 := by rcases nk.2.2.2.1 with q | q | q; exact q.2; omega; omega
      have hq : N.2.2.2.1 i = cnt (pAll Y) (σ i) := nk.2.2.2.2.1 hk2
      obtain ⟨pq, pown, par, pbl, ppar⟩ := hPH (σ i) ms so3
      have zA : cz S < 300 := by unfold C2 at c; omega
      have o2 := ok_add (x := 0) (f := 0) (t := 0) o (by decide)
      have ha := ge_adv (S := cadd S 0 0 0) t o2 hk (by decide)
      have a1 : (adv (cadd S 0 0 0)).1 = S.1 + 1 := ha.2
      have z1 : cz (adv (cadd S 0 0 0)) = cz S + 1 := cz_add zA
      have P1 : PF S (adv (cadd S 0 0 0)) := (PF.rf.add zA).adv
      have cc : Cp (adv (cadd S 0 0 0)) := by unfold Cp; unfold C2 at c; omega
      obtain ⟨w, S2, h1, h2⟩ := bd_inv h
      have gA := ge_args t ha.1.2.1 cc h1
      have q3 := gA.2.2.2.1
      have q5 := gA.1
      have q6 := gA.2.1.1
      have z4 : cz S2 < 300 := by unfold C2 at c; omega
      have pz := gA.2.2.2.2.1
      have nm2 : S2.2.1 = N := gA.2.2.1.trans e
      split at h2
      · rename_i hv
        rw [nm2] at h2
        cases h2
        have z5 := cz_add (x := 18) (f := N.2.2.2.2.2.2.1 - N.2.2.1 i) (t := N.2.2.2.1 i) z4
        have pS1 : (cadd S2 18 (N.2.2.2.2.2.2.1 - N.2.2.1 i) (N.2.2.2.1 i)).1 = S2.1 := rfl
        rw [pS1] at hμ
        -- how many
        have hqp := hT.1 i hi1 hk2
        have tb1 := hT.2 _ hqp
        have wY' : w = Y.2.2.2.2.1 (σ i) := by
          rw [hv, gA.2.2.2.2.2.2.2.1, P1.2.2.2.1, ← tb1.1, hq]
          exact pq.1
        have w3 : w ≤ 3 := by rw [wY']; exact pq.2.1
        have rfE : ∀ k, co_isRef (adv (cadd S 0 0 0)).2.2 (N.2.2.2.1 i) k = decide (k < w ∧ Y.2.1 (σ i + 1 + k) = 2) := by
          intro k
          rw [wY', ← pq.2.2.2.2.1 k, ← hq]
          unfold co_isRef
          rw [tb1.2]
          have : (adv (cadd S 0 0 0)).2.2.2.2.2.2.2.1 = S.2.2.2.2.2.2.2.1 := P1.2.2.2.2
          rw [this]
        have D0 := hD.at (S := S) (x := 0) (f := 0) (t := 0) zA ((PF.rf.adv.tr gA.2.2.2.2).add z4) (Nat.le_refl _)
        have Dc := hD.at (S := S2) z4 PF.rf (by omega)
        have k1 : r_pKind X S.1 = 1 := kind_of hG o.1 hk
        have hs400 : ks K ≤ 400 := hA.1.2.2.2.1.2.2.2.2.2.1
        rcases Nat.lt_or_ge (ks K) 400 with hs4 | hs4
        · have hS1 := at_step hA hs4
          have hGs : RG T m Y μ ν (sX X) := rg_gr hG KP.sx.1
          have hNs : NB Y N σ bl (r_blockOf (sX X) f) := hN
          obtain ⟨hS, b1, b2, b3, b4⟩ := hA
          have s3 := hS.2.2.1
          have b4' : r_failure (sX X) = 0 := b4
          have vst := vm_step (K := K) (st := K.2.2.2.1) (τ := 0) D0.1 D0.2.1 hs4
          rw [← kx_eta b1 b2] at vst
          obtain ⟨i', hi', eμ⟩ := hμ S.1 (Nat.le_refl _) (by omega) hk
          rw [hi] at hi'
          cases hi'
          have mE : r_pMeans X (r_pc X) = σ i := by rw [b3, (hG.2.2.2 S.1 (by omega)).1, eμ]
          have so := hG.2.1 (σ i) (by omega)
          have st400 : r_steps X < 400 := by rw [hS.2.2.2.1.2.2.2.2.1]; exact hs4
          have kk : r_pKind X (r_pc X) = 1 := by rw [b3]; exact k1
          have pc15 : r_pc X < 155 := by omega
          have swE : r_pWants (w_pc (sX X) (r_pc X + 1)) (σ i) = w := so.2.2.2.trans wY'.symm
          have cal : ∀ X1 v Z', eC (σ i) w 0 (w_pc (sX X) (r_pc X + 1)) X1 → rN X1 v Z' → rN X v Z' := by
            intro X1 v Z' hc hr
            refine rN_step hS.1 (by omega) b4 (st_call pc15 kk st400 b4 (by rw [mE]; omega) (by rw [mE]; exact so.1.trans so3) ?_) hr
            rw [mE]
            refine ⟨by omega, ?_⟩
            rw [swE]
            exact hc
          have stE : w_pc (sX X) (r_pc X + 1) = VX (w_given (sX X) (r_given (sX X))) (S.1 + 1) 0 (r_sum (sX X)) (r_term (sX X)) (r_sumSign (sX X)) (r_termSign (sX X)) := by
            rw [wpc_vx _ b4', b3, gv_self]
          -- the arguments
          have args : (∃ k st' gv' su te ss ts p1, VR D k (KX (mc_step K) K.2.2.2.1 0 (cz S + 1)) (KX (mc_step K) st' w (cz S2)) ∧ k + (cz S + 1) ≤ cz S2 ∧ (∀ j, j < w → ARG Y (sX X) f (σ i) st' gv' j) ∧ r_pc (aX (VX (w_given (sX X) gv') p1 0 su te ss ts) w) = S2.1 ∧ ∀ X', eC (σ i) w w (VX (w_given (sX X) gv') p1 0 su te ss ts) X' → eC (σ i) w 0 (w_pc (sX X) (r_pc X + 1)) X') ∨
              (∃ k st' τ' c', VE D k (KX (mc_step K) K.2.2.2.1 0 (cz S + 1)) ARE (KX (mc_step K) st' τ' c') ∧ k + (cz S + 1) ≤ cz S2 ∧ ∃ gv' pc su te ss ts, eC (σ i) w 0 (w_pc (sX X) (r_pc X + 1)) (VX (w_given (sX X) gv') pc 2 su te ss ts)) := by
            unfold cp_args at h1
            by_cases h13 : kd T (adv (cadd S 0 0 0)).1 = 13
            · rw [if_pos h13] at h1
              have gB := ge_adv t ha.1.2.1 h13 (by decide)
              have zB : cz (adv (adv (cadd S 0 0 0))) = cz S + 1 := z1
              have pB : (adv (adv (cadd S 0 0 0))).1 - 1 = S.1 + 1 := by omega
              have cnt0 := (al_count 150 0 _ S2 w h1).2 (by decide)
              have r := ro_al (st := K.2.2.2.1) (gv := r_given (sX X)) (su := r_sum (sX X)) (te := r_term (sX X)) (ss := r_sumSign (sX X)) (ts := r_termSign (sX X)) pf hGs hNs hS1 w3 (by rw [wY']; exact pq.2.2.1) (fun j hj => h3 _ (by have := pq.2.2.2.2.2; omega)) 150 0 (adv (adv (cadd S 0 0 0))) S2 (by omega) gB.1.2.1 (gB.1.cp cc) e h1 rfE ((hD.pf (PF.rf.add z4)).lo (by omega)) (hμ.sub (by omega) (Nat.le_refl _)) (by omega) (fun j hj => by omega)
              unfold AO2 at r
              rw [zB, pB, ← stE] at r
              rcases r with ⟨k, st', gv', su, te, ss, ts, u1, u2, u3, u4⟩ | r
              · left
                refine ⟨k, st', gv', su, te, ss, ts, S2.1 - 1, u1, u2, u3, ?_, u4⟩
                unfold aX
                rw [if_neg (by omega), vx_pc, vx_wpc, vx_pc]
                omega
              · exact Or.inr r
            · rw [if_neg h13] at h1
              cases h1
              left
              refine ⟨0, K.2.2.2.1, r_given (sX X), r_sum (sX X), r_term (sX X), r_sumSign (sX X), r_termSign (sX X), S.1 + 1, by rw [z1]; exact VR.rf, by omega, fun j hj => by omega, ?_, fun X' hX => by rw [stE]; exact hX⟩
              unfold aX
              rw [if_pos rfl, vx_pc, a1]
          rcases args with ⟨k, st', gv', su, te, ss, ts, p1, u1, u2, u3, u4, u5⟩ | ⟨k, st', τ', c', u1, u2, gv', pc', su, te, ss, ts, u3⟩
          · -- the call itself
            have kpZ : KP X (aX (VX (w_given (sX X) gv') p1 0 su te ss ts) w) := ((KP.sx.tr KP.gv).tr KP.vx).tr ax_kp
            have hSZ : SIM Y (mc_step K) (aX (VX (w_given (sX X) gv') p1 0 su te ss ts) w) f := SIM.ax (SIM.vx (SIM.gv hS1))
            have hGZ := rg_gr hG kpZ.1
            have gvZ : r_given (aX (VX (w_given (sX X) gv') p1 0 su te ss ts) w) = gv' := ax_gv.trans (vx_rgv.trans gv_rgv)
            have frZ : r_frame (VX (w_given (sX X) gv') p1 0 su te ss ts) = some f := (((KP.sx.tr KP.gv).tr KP.vx).2.1).trans hS.1
            have hqD : D.2.2.2.2.1 (D.2.2.1 (cz S2)) = w := by rw [Dc.2.2.2, hq, pq.1, wY']
            have fhf : (mc_step K).2.2.2.2.2.1 = f := hS1.2.1
            have blkZ : r_blockOf (aX (VX (w_given (sX X) gv') p1 0 su te ss ts) w) = r_blockOf X := kpZ.2.2.1
            by_cases hf10 : f = 10
            · right
              refine ⟨1 + k + 1, IOE, KX (mc_step K) st' w (cz S2 + 1), w_failure (aX (VX (w_given (sX X) gv') p1 0 su te ss ts) w) 4, f, (vst.tr u1).te (vm_callE (by rw [fhf]; exact hf10) Dc.1 Dc.2.1), ?_, ?_, Or.inr (Or.inr ⟨rfl, wf_fl⟩), hSZ.2.2.2.1.fail.kx, (kpZ.tr KP.fail).1, (kpZ.tr KP.fail).2.1.trans hS.1, by omega, fun v' Z' hr => cal _ _ _ (u5 _ (ec_deep w3 vx_fl (by rw [frZ, hf10]))) hr⟩
              · have q := ks_kx (K := mc_step K) (st := st') (τ := w) (c := cz S2 + 1)
                have q2 := ks_step (K := K)
                rw [z5]; omega
              · have q := ks_kx (K := mc_step K) (st := st') (τ := w) (c := cz S2 + 1)
                have q2 := ks_step (K := K)
                omega
            · have hle := hN.1.2.2.2.2.2.2.2.2 i hi1
              have ch := chain_ok (X := aX (VX (w_given (sX X) gv') p1 0 su te ss ts) w) (K := mc_step K) hN.2.1 hSZ.2.2.2.2.1 (by rw [blkZ]; exact hN.2.2.2.symm) (by omega) (N.2.2.2.2.2.2.1 - N.2.2.1 i) (by omega)
              rw [show N.2.2.2.2.2.2.1 - (N.2.2.2.2.2.2.1 - N.2.2.1 i) = N.2.2.1 i by omega, ← nk.2.2.1] at ch
              obtain ⟨ch1, ch2, ch3⟩ := ch
              have vc := vm_call (D := D) (K := mc_step K) (st := st') (f := f) (w := w) (c := cz S2) fhf (by omega) Dc.1 Dc.2.1 hqD w3
              rw [Dc.2.2.1, Dc.2.2.2] at vc
              have own8 : r_pOwn X (σ i) = Y.2.2.2.1 (σ i) := so.2.2.1
              have ownZ : r_pOwn (VX (w_given (sX X) gv') p1 0 su te ss ts) (σ i) = Y.2.2.2.1 (σ i) := ((rg_gr hG ((KP.sx.tr KP.gv).tr KP.vx).1).2.1 (σ i) (by omega)).2.2.1
              have ownZ2 : r_pOwn (aX (VX (w_given (sX X) gv') p1 0 su te ss ts) w) (σ i) = Y.2.2.2.1 (σ i) := (hGZ.2.1 (σ i) (by omega)).2.2.1
              have rk6 := cnt_lt (p := pAll Y) ms (decide_eq_true so3)
              have own7 : Y.2.2.2.1 (σ i) ≤ 6 := by omega
              have bodyE : r_pBody (aX (VX (w_given (sX X) gv') p1 0 su te ss ts) w) (Y.2.2.2.1 (σ i)) = Y.2.2.2.2.2.2.2.2.2.1 (Y.2.2.2.1 (σ i)) := hGZ.2.2.1 _ (by omega)
              have sim2 := sim_enter (D := D) (st := st') (c := cz S2) (p := Y.2.2.2.2.2.2.2.2.2.1 (Y.2.2.2.1 (σ i))) h12 h6 hPH hRF hSZ (by omega) ms so3 wY'.symm ch1 ch2 (fun j hj => by rw [gvZ]; exact (u3 j hj).x (blkZ.trans KP.sx.2.2.1.symm))
              -- the model enters
              have ent : eC (σ i) w w (VX (w_given (sX X) gv') p1 0 su te ss ts) (EX2 Y (aX (VX (w_given (sX X) gv') p1 0 su te ss ts) w) f (mc_out (mc_step K) (N.2.2.2.2.2.2.1 - N.2.2.1 i) f) (Y.2.2.2.1 (σ i)) (σ i) w (Y.2.2.2.2.2.2.2.2.2.1 (Y.2.2.2.1 (σ i)))) := by
                refine ec_in w3 vx_fl frZ (by omega) (by omega) ?_ ?_ ?_ (g := mc_out (mc_step K) (N.2.2.2.2.2.2.1 - N.2.2.1 i) f)
                · have q := hSZ.2.2.2.1
                  rw [← ax_gt (n := w), q.2.2.2.2.2.2.1]
                  have := q.2.2.2.2.2.2.2
                  omega
                · have hm : r_pHome (VX (w_given (sX X) gv') p1 0 su te ss ts) (σ i) = Y.2.2.1 (σ i) := ((rg_gr hG ((KP.sx.tr KP.gv).tr KP.vx).1).2.1 (σ i) (by omega)).2.1
                  rw [hm]
                  exact ⟨f, kpZ.2.1.trans hS.1, ch3⟩
                · rw [ownZ]
                  have ep := ep_par (X := aX (VX (w_given (sX X) gv') p1 0 su te ss ts) w) (bo := va_up (r_blockOf (aX (VX (w_given (sX X) gv') p1 0 su te ss ts) w)) (f + 1) (Y.2.2.2.1 (σ i))) (ou := va_up (r_outer (aX (VX (w_given (sX X) gv') p1 0 su te ss ts) w)) (f + 1) (some (mc_out (mc_step K) (N.2.2.2.2.2.2.1 - N.2.2.1 i) f))) (ba := va_up (r_back (aX (VX (w_given (sX X) gv') p1 0 su te ss ts) w)) (f + 1) (r_pc (aX (VX (w_given (sX X) gv') p1 0 su te ss ts) w))) (le := va_up (r_level (aX (VX (w_given (sX X) gv') p1 0 su te ss ts) w)) (f + 1) 0) (gr := max (r_greatest (aX (VX (w_given (sX X) gv') p1 0 su te ss ts) w)) (f + 1)) (ce := clr (r_cell (aX (VX (w_given (sX X) gv') p1 0 su te ss ts) w)) (f + 1) 12) (sd := r_stands (aX (VX (w_given (sX X) gv') p1 0 su te ss ts) w)) (p := r_pc (aX (VX (w_given (sX X) gv') p1 0 su te ss ts) w)) (s := σ i) (n := w) (f := f + 1) hGZ h3 h18 h12 (by omega) w3 (by rw [wY']; exact pq.2.2.2.2.2) (fun j hj => by rcases (ppar j (by omega)).2.1 with z | z <;> omega) (by omega) (by rw [ownZ2]; omega)
                  rw [ownZ2, bodyE] at ep
                  exact et_clr (by omega) ep
              -- the body runs
              have hqc : N.2.2.2.1 i < cnt (pAll Y) Y.2.2.2.2.2.1 := by rw [hq]; exact rk6
              obtain ⟨Sb, Sb1, σb, blb, vb, k1', k2', k3', k4', k5', k6', k7', k8', k9', k10', k11', k12', k13', k14', k15', k16', k17'⟩ := hBq _ hqc
              have ownq : Y.2.2.2.1 (σ i) = N.2.2.2.1 i + 1 := by rw [hq]; exact pown
              have hbb : 1 ≤ b := by omega
              have F2 := ex2_frl (Y := Y) (X := aX (VX (w_given (sX X) gv') p1 0 su te ss ts) w) (f := f) (g := mc_out (mc_step K) (N.2.2.2.2.2.2.1 - N.2.2.1 i) f) (b := Y.2.2.2.1 (σ i)) (s := σ i) (w := w) (p := Y.2.2.2.2.2.2.2.2.2.1 (Y.2.2.2.1 (σ i))) (lv := r_level X f)
              have ksK2 : ks (KX (CK (mc_step K) st' f (mc_out (mc_step K) (N.2.2.2.2.2.2.1 - N.2.2.1 i) f) w (cz S2)) st' 0 (D.2.2.2.1 (N.2.2.2.1 i))) = ks K + 1 := by rw [ks_kx, ks_ck, ks_step]
              have F0 : FRL f (r_level X f) X (EX2 Y (aX (VX (w_given (sX X) gv') p1 0 su te ss ts) w) f (mc_out (mc_step K) (N.2.2.2.2.2.2.1 - N.2.2.1 i) f) (Y.2.2.2.1 (σ i)) (σ i) w (Y.2.2.2.2.2.2.2.2.2.1 (Y.2.2.2.1 (σ i)))) := kpZ.frl.tr F2.1
              have bodyR := ro_list (f := f + 1) (N := Sb.2.1) (σ := σb) (bl := blb) (K := KX (CK (mc_step K) st' f (mc_out (mc_step K) (N.2.2.2.2.2.2.1 - N.2.2.1 i) f) w (cz S2)) st' 0 (D.2.2.2.1 (N.2.2.2.1 i))) (X := EX2 Y (aX (VX (w_given (sX X) gv') p1 0 su te ss ts) w) f (mc_out (mc_step K) (N.2.2.2.2.2.2.1 - N.2.2.1 i) f) (Y.2.2.2.1 (σ i)) (σ i) w (Y.2.2.2.2.2.2.2.2.2.1 (Y.2.2.2.1 (σ i)))) pf (hs (b - 1) (by omega) 8) (rg_gr hG F0.1) ⟨k6'.2.1, k8', k9', by rw [ex2_bo, k4', ownq]⟩ k6' k7' rfl ⟨k16'.2, k17'⟩ k10' ⟨Nat.le_of_lt k12', fun j j1 j2 => k11' j (by omega) j2⟩ k14' (k15' ν fun _ _ _ => rfl) ⟨SIM.kx sim2, rfl, by rw [k2']; rfl, by rw [ex2_pc, k1', ownq], by rw [ex2_fl, ax_fl, vx_fl]⟩ (by rw [ex2_lv]) (Or.inl ex2_lv) (by rw [ksK2]; omega)
              obtain ⟨bodyR, L1, L2⟩ := bodyR
              rw [ex2_lv] at bodyR
              have stp : ∀ v Z', rN (EX2 Y (aX (VX (w_given (sX X) gv') p1 0 su te ss ts) w) f (mc_out (mc_step K) (N.2.2.2.2.2.2.1 - N.2.2.1 i) f) (Y.2.2.2.1 (σ i)) (σ i) w (Y.2.2.2.2.2.2.2.2.2.1 (Y.2.2.2.1 (σ i)))) v Z' → rN X v Z' := fun v Z' hr => cal _ _ _ (u5 _ ent) hr
              have gL := gs_stmts t (gs_stm t 8) Sb Sb1 vb k6' k7' trivial k10'
              have szb := gL.2.1.2.2.1
              have szb' : cz Sb1 ≤ 300 := szb
              have pzb := gL.2.2.2.2.1
              rcases bodyR with ⟨kb, K3, X3, r1, r2, r3, r4, r5, r6, r7, r8, r9, r10, r11, r12⟩ | ⟨kb, E, K3, X3, f3, r1, r2, r3, r4, r5, r6, r7, r8, r9⟩
              · rw [ksK2] at r2 r3
                have vr := vm_ret (D := D) (K := K3) (st := K3.2.2.2.1) (τ := 0) (c := cz Sb1) (f := f) r8.2.1 k12' k13'
                rw [← kx_eta r5 r4] at vr
                have ret1 : K3.2.2.1 (f + 1) = cz S2 + 1 := (r11 (f + 1) (Nat.le_refl _)).trans (ck_ret (K := mc_step K) (st := st') (f := f) (g := mc_out (mc_step K) (N.2.2.2.2.2.2.1 - N.2.2.1 i) f) (w := w) (c := cz S2)).1
                rw [ret1] at vr
                have fd := frl_down (lv := r_level X f) r10 (by omega)
                have bk3 : r_back X3 (f + 1) = S2.1 := ((r10.2.1 (f + 1) (Nat.le_refl _)).2.2).trans (ex2_bk.trans u4)
                have hG3 := rg_gr hG (F0.1.tr r10.1)
                refine Or.inl ⟨1 + k + 1 + kb + 1, KX (LK K3 f) K3.2.2.2.1 0 (cz S2 + 1), w_frame (w_pc X3 S2.1) (some f), (((vst.tr u1).tr vc).tr r1).tr vr, ?_, ?_, z5.symm, rfl, wfr_pc, by rw [wfr_fl]; exact r7, SIM.kx (sim_leave r8), ?_, (F0.tr fd.1).tr wf_frl, fun x hx => ?_, fun v Z' hr => stp _ _ (r12 _ _ ?_)⟩
                · have q := ks_kx (K := LK K3 f) (st := K3.2.2.2.1) (τ := 0) (c := cz S2 + 1)
                  have q2 := ks_lk (K := K3) (f := f)
                  rw [z5, q, q2]; omega
                · have q := ks_kx (K := LK K3 f) (st := K3.2.2.2.1) (τ := 0) (c := cz S2 + 1)
                  have q2 := ks_lk (K := K3) (f := f)
                  rw [q, q2]; omega
                · rw [wfr_lv, fd.2, F2.2, kpZ.2.2.2.2.2.1]
                · have q := (r11 x (by omega)).trans ((ck_ret (K := mc_step K) (st := st') (f := f) (g := mc_out (mc_step K) (N.2.2.2.2.2.2.1 - N.2.2.1 i) f) (w := w) (c := cz S2)).2 x hx)
                  exact q
                · refine ov_ret r8.1 (by omega) r9 (by rw [r6]; have := gL.2.1.1; omega) (by rw [r6]; exact kind_ne t hG3 (by have := gL.2.1.1; omega) (k := 11) (by decide) (by rw [L2]; decide)) (by rw [r6]; exact kind_lt t hG3 (by have := gL.2.1.1; omega)) ?_
                  rw [bk3]
                  exact hr
              · rw [ksK2] at r2 r3
                exact Or.inr ⟨1 + k + 1 + kb, E, K3, X3, f3, ((vst.tr u1).tr vc).te r1, by rw [z5]; omega, by omega, r4, r5, F0.1.tr r6, r7, r8, fun v Z' hr => stp _ _ (r9 _ _ hr)⟩
          · right
            refine ⟨1 + k, ARE, _, VX (w_given (sX X) gv') pc' 2 su te ss ts, f, vst.te u1, ?_, ?_, Or.inl ⟨rfl, vx_fl⟩, hS1.2.2.2.1.gv.vx.kx, ((KP.sx.tr KP.gv).tr KP.vx).1, (((KP.sx.tr KP.gv).tr KP.vx).2.1).trans hS.1, by omega, fun v' Z' hr => cal _ _ _ u3 hr⟩
            · have q := ks_kx (K := mc_step K) (st := st') (τ := τ') (c := c')
              have q2 := ks_step (K := K)
              rw [z5]; omega
            · have q := ks_kx (K := mc_step K) (st := st') (τ := τ') (c := c')
              have q2 := ks_step (K := K)
              omega
        · exact ro_step3 t hG.1 hA o.1 (Or.inl k1) D0.1 D0.2.1 (by omega) (by rw [z5]; omega)
      · cases h2
    · cases h
end CD
