/-! ===== running write, the empty statement, lists, begin: class and model ===== -/
theorem KP.rf {X : MS} : KP X X := ⟨GR.rf, rfl, rfl, rfl, rfl, rfl, rfl, rfl⟩
/-- the state with a value more written -/
def oX (X : MS) (x : Int32) : MS := if r_written X = 32 then w_lost X (r_lost X + 1) else w_written (w_output X (upd (r_output X) (r_written X) x)) (r_written X + 1)
theorem ox_mo {X : MS} {x : Int32} (h : r_written X ≤ 32) : mo_write x X (oX X x) := by
  unfold oX
  by_cases h3 : r_written X = 32
  · rw [if_pos h3]; exact ⟨by omega, Or.inl ⟨h3, rfl⟩⟩
  · rw [if_neg h3]; exact ⟨by omega, Or.inr ⟨h3, by omega, rfl⟩⟩
theorem KP.ox {X : MS} {x : Int32} : KP X (oX X x) := by
  unfold oX
  split
  · exact KP.lost
  · exact KP.outp
theorem ox_pc {X : MS} {x : Int32} : r_pc (oX X x) = r_pc X := by unfold oX; split <;> rfl
theorem ox_fl {X : MS} {x : Int32} : r_failure (oX X x) = r_failure X := by unfold oX; split <;> rfl
theorem ox_cell {X : MS} {x : Int32} : r_cell (oX X x) = r_cell X := by unfold oX; split <;> rfl
theorem ox_stands {X : MS} {x : Int32} : r_stands (oX X x) = r_stands X := by unfold oX; split <;> rfl
theorem ox_obs {K : Mc} {X : MS} {x : Int32} (h : OBS K X) : OBS (mc_put K x) (oX X x) := by
  obtain ⟨h1, h2, h3, h4, h5, h6, h7, h8⟩ := h
  unfold oX mc_put
  by_cases hw : r_written X = 32
  · rw [if_pos hw, if_pos (by omega)]
    exact ⟨h1, h2, h3, congrArg (· + 1) h4, h5, h6, h7, h8⟩
  · rw [if_neg hw, if_neg (by omega)]
    refine ⟨congrArg (· + 1) h1, by show _ + 1 ≤ 32; omega, fun j hj => ?_, h4, h5, h6, h7, h8⟩
    have hj : j < K.2.2.2.2.2.2.2.2.1 + 1 := hj
    show upd (r_output X) (r_written X) x j = upd K.2.2.2.2.2.2.2.1 K.2.2.2.2.2.2.2.2.1 x j
    rw [h1]
    unfold upd
    split
    · rfl
    · exact h3 j (by omega)
theorem put_1 {K : Mc} {x : Int32} : (mc_put K x).1 = K.1 ∧ (mc_put K x).2.1 = K.2.1 ∧ (mc_put K x).2.2.1 = K.2.2.1 ∧ (mc_put K x).2.2.2.2.2.1 = K.2.2.2.2.2.1 ∧ ks (mc_put K x) = ks K := by
  unfold mc_put
  split <;> exact ⟨rfl, rfl, rfl, rfl, rfl⟩
theorem SIM.ox {Y : MS2} {K : Mc} {X : MS} {f : Nat} {x : Int32} (h : SIM Y K X f) : SIM Y (mc_put K x) (oX X x) f := by
  have p := put_1 (K := K) (x := x)
  have k := KP.ox (X := X) (x := x)
  exact ⟨k.2.1.trans h.1, p.2.2.2.1.trans h.2.1, h.2.2.1, ox_obs h.2.2.2.1, h.2.2.2.2.1.cong p.2.1 k.2.2.1 k.2.2.2.1, h.2.2.2.2.2.cong p.1 k.2.2.1 ox_cell ox_stands⟩
/-- the level of the frame f is set -/
def lX (X : MS) (f l : Nat) : MS := w_level X (va_up (r_level X) f l)
theorem lx_gr {X : MS} {f l : Nat} : GR X (lX X f l) := ⟨rfl, rfl, rfl, rfl, rfl⟩
theorem lx_frl {X : MS} {f l lv : Nat} : FRL f lv X (lX X f l) := ⟨lx_gr, fun _ _ => ⟨rfl, rfl, rfl⟩, fun g hg => by show va_up (r_level X) f l g = _; unfold va_up; rw [if_neg (by omega)], fun _ _ => ⟨rfl, rfl⟩⟩
theorem lx_lv {X : MS} {f l : Nat} : r_level (lX X f l) f = l := va_same _ _ _
theorem lx_pc {X : MS} {f l : Nat} : r_pc (lX X f l) = r_pc X := rfl
theorem lx_fl {X : MS} {f l : Nat} : r_failure (lX X f l) = r_failure X := rfl
theorem SIM.lx {Y : MS2} {K : Mc} {X : MS} {f g l : Nat} (h : SIM Y K X f) : SIM Y K (lX X g l) f := h.cong rfl rfl rfl rfl rfl rfl rfl rfl rfl rfl rfl rfl rfl rfl
/-- the frame f does one thing more -/
theorem px_frl {X : MS} {f k t lv : Nat} (hl : r_level X f = lv) : FRL f lv X (pX X f k t) := by
  refine ⟨⟨rfl, rfl, rfl, rfl, rfl⟩, fun _ _ => ⟨rfl, rfl, rfl⟩, fun g hg => ?_, fun j hj => ⟨?_, ?_⟩⟩
  · show va_up (r_level X) f _ g = _; unfold va_up; rw [if_neg (by omega)]
  · show va_up (r_doing X) (10 * f + r_level X f) k j = _; unfold va_up; rw [if_neg (by omega)]
  · show va_up (r_doneAt X) (10 * f + r_level X f) t j = _; unfold va_up; rw [if_neg (by omega)]
theorem px_lv {X : MS} {f k t : Nat} : r_level (pX X f k t) f = r_level X f + 1 := va_same _ _ _
theorem px_do {X : MS} {f k t : Nat} : r_doing (pX X f k t) (10 * f + r_level X f) = k := va_same _ _ _
theorem px_at {X : MS} {f k t : Nat} : r_doneAt (pX X f k t) (10 * f + r_level X f) = t := va_same _ _ _
theorem px_fl {X : MS} {f k t : Nat} : r_failure (pX X f k t) = r_failure X := rfl
theorem SIM.px {Y : MS2} {K : Mc} {X : MS} {f g k t : Nat} (h : SIM Y K X f) : SIM Y K (pX X g k t) f := h.cong rfl rfl rfl rfl rfl rfl rfl rfl rfl rfl rfl rfl rfl rfl
theorem wpc_lv {X : MS} {p : Nat} : r_level (w_pc X p) = r_level X := rfl
theorem wpc_fl {X : MS} {p : Nat} : r_failure (w_pc X p) = r_failure X := rfl
theorem wpc_pc {X : MS} {p : Nat} : r_pc (w_pc X p) = p := rfl
theorem wpc_do {X : MS} {p : Nat} : r_doing (w_pc X p) = r_doing X := rfl
theorem wpc_at {X : MS} {p : Nat} : r_doneAt (w_pc X p) = r_doneAt X := rfl
theorem FRK.rf {f : Nat} {K : Mc} : FRK f K K := fun _ _ => rfl
section RW
variable {T : Tk} {m : Nat} {Y : MS2} {D : Co} {μ ν : Nat → Nat} {N : Nm} {σ bl : Nat → Nat} {f : Nat} {K : Mc} {X : MS}
theorem kind_of (hG : RG T m Y μ ν X) {p k : Nat} (hp : p ≤ m) (hk : kd T p = k) : r_pKind X p = kap k := by rw [hG.1.1 _ hp, hk]
theorem kind_ne (t : TkOk T m) (hG : RG T m Y μ ν X) {p k : Nat} (hp : p ≤ m) (hk29 : k < 29) (hk : ¬ kd T p = k) : ¬ r_pKind X p = kap k := by
  rw [hG.1.1 _ hp]
  exact fun q => hk (kap_inj _ (t.some hp).2 _ hk29 q)
theorem kind_lt (t : TkOk T m) (hG : RG T m Y μ ν X) {p : Nat} (hp : p ≤ m) : r_pKind X p < 2147483648 := by
  rw [hG.1.1 _ hp]
  have := kap_lt9 _ (t.some hp).2
  omega
/-- nothing more happens in the machine -/
theorem ro_stay {c t1 lv lv' : Nat} {X' : MS} {P : Nat → MS → Prop} (h1 : K.2.2.2.2.1 = 0) (h2 : K.2.2.2.2.2.2.1 = c) (h3 : r_pc X' = t1) (h4 : r_failure X' = 0) (h5 : SIM Y K X' f) (h6 : r_level X' f = lv') (h7 : FRL f lv X X') (h8 : ∀ v Z', oV X' v Z' → P v Z') : RO Y D c c t1 lv lv' K X f P :=
  Or.inl ⟨0, K, X', VR.rf, by omega, Nat.le_refl _, h2, h1, h3, h4, h5, h6, h7, FRK.rf, h8⟩
theorem ro_empty {S : CS} (pf : PF2 T m Y) (hG : RG T m Y μ ν X) (o : Ok m S) (h1 : ¬ kd T S.1 = 25) (h12 : ¬ kd T S.1 = 9) (h5 : ¬ kd T S.1 = 2) (h7 : ¬ kd T S.1 = 4) (h10 : ¬ kd T S.1 = 7) (hA : AT Y K X f (cz S) S.1) : RO Y D (cz S) (cz S) S.1 (r_level X f) (r_level X f) K X f (rN X) := by
  have t := pf.1
  have tm := t.1
  have o1 := o.1
  obtain ⟨hS, a1, a2, a3, a4⟩ := hA
  refine ro_stay a1 a2 a3 a4 hS rfl FRL.rf fun v Z' hh => ?_
  obtain ⟨n, X1, ho, hr⟩ := hh
  have s3 := hS.2.2.1
  refine rN_step hS.1 (by omega) a4 (st_empty (by omega) ?_ ?_ ?_ ?_ ?_ ?_ ⟨n, ho⟩) hr
  · rw [a3]; exact kind_lt t hG o.1
  · rw [a3]; exact kind_ne t hG o.1 (k := 25) (by decide) h1
  · rw [a3]; exact kind_ne t hG o.1 (k := 2) (by decide) h5
  · rw [a3]; exact kind_ne t hG o.1 (k := 4) (by decide) h7
  · rw [a3]; exact kind_ne t hG o.1 (k := 7) (by decide) h10
  · rw [a3]; exact kind_ne t hG o.1 (k := 9) (by decide) h12
theorem ro_write {S S1 : CS} {v0 : Nat} (pf : PF2 T m Y) (hG : RG T m Y μ ν X) (hN : NB Y N σ bl (r_blockOf X f)) (o : Ok m S) (c : C2 S) (e : S.2.1 = N) (hk : kd T S.1 = 9) (h : cp_write T (adv S) = (.inr v0, S1)) (hD : AGd D (cz S) S1) (hμ : MU T N σ μ S.1 S1.1) (hA : AT Y K X f (cz S) S.1) : RO Y D (cz S) (cz S1) S1.1 (r_level X f) (r_level X f) K X f (rN X) := by
  have t := pf.1
  have tm := t.1
  have o1 := o.1
  have hl := t.lt o.1 hk (by decide)
  have ha := ge_adv t o hk (by decide)
  have sc := step_cp (S := adv S) (S0 := S) rfl ha.2 c (by omega)
  have oA : Ok m (cadd (adv S) 0 0 0) := ok_add ha.1.2.1 (by decide)
  obtain ⟨w2, S2, h1, h2⟩ := bd_inv h
  have e2 := ge_expect t (by decide) oA h1
  obtain ⟨w3, S3, h3, h4⟩ := bd_inv h2
  have c2 : Cp S2 := e2.1.cp sc.2
  have g3 := gx_expr t 8 S2 S3 w3 e2.1.2.1 c2 trivial h3
  obtain ⟨w4, S4, h5, h6⟩ := bd_inv h4
  have e4 := ge_expect t (by decide) g3.1.2.1 h5
  have zA : cz (adv S) < 300 := by show cz S < 300; unfold C2 at c; omega
  have a1 : (cadd (adv S) 0 0 0).1 = S.1 + 1 := ha.2
  have zz : cz (adv S) = cz S := rfl
  have p2 : S2.1 = S.1 + 2 := by rw [e2.2.1, a1]
  have z2 : cz S2 = cz S + 1 := by rw [e2.2.2.1]; exact sc.1
  have z34 : cz S4 = cz S3 := by rw [e4.2.2.1]; rfl
  have q3 := g3.1.2.2.2.1
  have q5 := g3.2.1
  have q6 := e4.1.2.1.1
  have q7 := e4.2.1
  have z4 : cz S4 < 300 := by unfold C2 at c; omega
  cases h6
  have z5 := cz_add (x := 20) (f := 0) (t := 0) z4
  have D0 := hD.at (S := adv S) (x := 0) (f := 0) (t := 0) zA ((e2.1.2.2.2.2.tr (g3.1.2.2.2.2.tr e4.1.2.2.2.2)).add z4) (Nat.le_refl _)
  have D4 := hD.at (S := S4) (x := 20) (f := 0) (t := 0) z4 PF.rf (by have := g3.1.2.2.2.2.1; omega)
  rw [z34] at D4
  have A3 : AGd D (cz S2) S3 := (hD.pf (e4.1.2.2.2.2.add z4)).lo (by omega)
  have hμ' : MU T N σ μ S2.1 S3.1 := hμ.sub (by omega) (by show S3.1 ≤ S4.1; omega)
  have k12 := kind_of hG o.1 hk
  have hs400 : ks K ≤ 400 := hA.1.2.2.2.1.2.2.2.2.2.1
  rcases Nat.lt_or_ge (ks K) 400 with hs | hs
  · have hS1 := at_step hA hs
    have hGs : RG T m Y μ ν (sX X) := hG
    have V1 : VV T N (mc_step K) (sX X) S2.1 S3.1 := vvx pf hGs hN hS1 (by omega) hμ'
    obtain ⟨⟨s1, s2, s3, s4, s5, s6⟩, b1, b2, b3, b4⟩ := hA
    have b4' : r_failure (sX X) = 0 := b4
    have tv := ev_top (K := mc_step K) (X := sX X) (st := K.2.2.2.1) (τ := 0) (su := r_sum X) (te := r_term X) (ss := r_sumSign X) (ts := r_termSign X) t hGs.1 e2.1.2.1 c2 (e2.1.2.2.1.trans e) h3 A3 V1 (by decide)
    have vst := vm_step (K := K) (st := K.2.2.2.1) (τ := 0) (c := cz S) D0.1 D0.2.1 hs
    rw [← kx_eta b1 b2] at vst
    have st400 : r_steps X < 400 := by rw [s4.2.2.2.2.1]; exact hs
    have kk : r_pKind X (r_pc X) = 12 := by rw [b3]; exact k12
    have pc15 : r_pc X < 155 := by omega
    unfold TV at tv
    rw [p2, z2] at tv
    rcases tv with ⟨x, k, st', v1, v2, v3, v4, su', te', ss', ts', v5⟩ | ⟨k, st', τ', c', v1, v2, v, pc', su', te', ss', ts', hpc, v5⟩
    · have hev : mo_evaluate (w_pc (sX X) (r_pc X + 2)) x (VX (sX X) S3.1 0 su' te' ss' ts') := by
        rw [wpc_vx _ b4', b3]; exact v5
      have vp := vm_put (K := mc_step K) (st := st') (τ := 0) D4.1 D4.2.1
      rw [v3] at vp
      have hw32 : r_written (VX (sX X) S3.1 0 su' te' ss' ts') ≤ 32 := by
        have q := (hS1.vx (pc := S3.1) (fl := 0) (su := su') (te := te') (ss := ss') (ts := ts')).2.2.2.1
        rw [q.1]; exact q.2.1
      have kp : KP X (w_pc (oX (VX (sX X) S3.1 0 su' te' ss' ts') x) (S3.1 + 1)) := ((KP.sx.tr KP.vx).tr KP.ox).tr KP.pc
      have pe : r_pc (oX (VX (sX X) S3.1 0 su' te' ss' ts') x) = S3.1 := ox_pc
      left
      refine ⟨1 + k + 1, KX (mc_put (mc_step K) x) st' 0 (cz S3 + 1), w_pc (oX (VX (sX X) S3.1 0 su' te' ss' ts') x) (S3.1 + 1), (vst.tr v1).tr vp, ?_, ?_, ?_, rfl, ?_, ?_, ?_, ?_, kp.frl, fun g hg => ?_, fun v Z' hh => ?_⟩
      · rw [z5, ks_kx, put_1.2.2.2.2, ks_step, z34]; omega
      · rw [ks_kx, put_1.2.2.2.2, ks_step]; omega
      · rw [z5, z34]; rfl
      · rw [wpc_pc]; exact e4.2.1.symm
      · rw [wpc_fl, ox_fl]; rfl
      · exact SIM.kx (SIM.pc (SIM.ox (SIM.vx hS1)))
      · rw [kp.2.2.2.2.2.1]
      · show (mc_put (mc_step K) x).2.2.1 g = _
        rw [put_1.2.2.1]; rfl
      · obtain ⟨n, X1, ho, hr⟩ := hh
        refine rN_step s1 (by omega) b4 (st_write (x := x) (X2 := oX (VX (sX X) S3.1 0 su' te' ss' ts') x) pc15 kk st400 b4 hev rfl (ox_mo hw32) ⟨n, ?_⟩) hr
        rw [pe]; exact ho
    · right
      have hev : mo_evaluate (w_pc (sX X) (r_pc X + 2)) v (VX (sX X) pc' 2 su' te' ss' ts') := by
        rw [wpc_vx _ b4', b3]; exact v5
      refine ⟨1 + k, ARE, _, VX (sX X) pc' 2 su' te' ss' ts', f, vst.te v1, ?_, ?_, Or.inl ⟨rfl, rfl⟩, hS1.2.2.2.1.vx.kx, (KP.sx.tr KP.vx).1, (KP.sx.tr KP.vx).2.1.trans s1, by omega, fun v' Z' hh => ?_⟩
      · rw [z5, ks_kx, ks_step, z34]; omega
      · rw [ks_kx, ks_step]; omega
      · exact rN_step s1 (by omega) b4 (st_writef pc15 kk st400 b4 hev (show ¬ 2 = 0 by decide) (show 2 < 2147483648 by decide)) hh
  · exact ro_step3 t hG.1 hA o.1 (Or.inr (Or.inl k12)) D0.1 D0.2.1 (by omega) (by rw [z5]; have := g3.1.2.2.2.2.1; omega)
/-- the procedures' tables are the program's -/
def TB (D : Co) (S : CS) (N : Nm) : Prop := (∀ i, i < N.2.2.2.2.2.1 → N.2.1 i = 2 → N.2.2.2.1 i < N.2.2.2.2.2.2.2.2) ∧ ∀ q', q' < N.2.2.2.2.2.2.2.2 → D.2.2.2.2.1 q' = S.2.2.2.2.2.2.1 q' ∧ D.2.2.2.2.2.1 q' = S.2.2.2.2.2.2.2.1 q'
theorem TB.pf {D : Co} {S S2 : CS} {N : Nm} (h : TB D S N) (p : PF S S2) : TB D S2 N := ⟨h.1, fun q' hq => by
  rw [p.2.2.2.1, p.2.2.2.2]
  exact h.2 q' hq⟩
/-- a statement runs alike, with b steps left at most -/
def STMT (T : Tk) (m : Nat) (Y : MS2) (D : Co) (μ ν : Nat → Nat) (b n : Nat) : Prop := ∀ S S1 v0 N σ bl f K X, RG T m Y μ ν X → NB Y N σ bl (r_blockOf X f) → Ok m S → C2 S → S.2.1 = N → TB D S N → cp_stm T n S = (.inr v0, S1) → AGd D (cz S) S1 → MU T N σ μ S.1 S1.1 → nxs T ν n S → AT Y K X f (cz S) S.1 → r_level X f + n = 8 → 400 ≤ ks K + b → RO Y D (cz S) (cz S1) S1.1 (r_level X f) (r_level X f) K X f (rN X)
/-- a list is being run: at the frame's bottom or in a begin -/
def inL (X : MS) (f : Nat) : Prop := r_level X f = 0 ∨ r_doing X (10 * f + r_level X f - 1) = 5
theorem ov_semi {v : Nat} {Z' : MS} (hS : SIM Y K X f) (hl : r_level X f ≤ 8) (hL : inL X f) (hp : r_pc X < 155) (hk : r_pKind X (r_pc X) = 59) (h : rN (w_pc X (r_pc X + 1)) v Z') : oV X v Z' := by
  have s3 := hS.2.2.1
  by_cases h0 : r_level X f = 0
  · exact ov_semi0 hS.1 (by omega) h0 hp hk h
  · rcases hL with z | z
    · exact absurd z h0
    · exact ov_semi5 hS.1 (by omega) h0 (by omega) z hp hk h
theorem ro_tail {b n : Nat} (pf : PF2 T m Y) (hs : STMT T m Y D μ ν b n) : ∀ k S S1 v0 N σ bl f K X, RG T m Y μ ν X → NB Y N σ bl (r_blockOf X f) → Ok m S → C2 S → S.2.1 = N → TB D S N → bd (cp_rep T 11 (cp_stm T n) k) (fun _ => cp_expect T 3) S = (.inr v0, S1) → AGd D (cz S) S1 → MU T N σ μ S.1 S1.1 → nxr T (cp_stm T n) (nxs T ν n) k S → AT Y K X f (cz S) S.1 → r_level X f + n = 8 → inL X f → 400 ≤ ks K + b → RO Y D (cz S) (cz S1) (S1.1 - 1) (r_level X f) (r_level X f) K X f (oV X) := by
  have t := pf.1
  have tm := t.1
  have fin : ∀ S S1 v0 f K X, Ok m S → cp_expect T 3 S = (.inr v0, S1) → AT Y K X f (cz S) S.1 → RO Y D (cz S) (cz S1) (S1.1 - 1) (r_level X f) (r_level X f) K X f (oV X) := by
    intro S S1 v0 f K X o h hA
    have e := ge_expect t (by decide) o h
    obtain ⟨hS, a1, a2, a3, a4⟩ := hA
    have hz : cz S1 = cz S := by rw [e.2.2.1]; rfl
    rw [hz]
    exact ro_stay a1 a2 (by omega) a4 hS rfl FRL.rf fun _ _ h => h
  intro k
  induction k with
  | zero =>
    intro S S1 v0 N σ bl f K X hG hN o c e hT h hD hμ hn hA hl hL hb
    rw [bd_rep_0] at h
    exact fin S S1 v0 f K X o h hA
  | succ k ih =>
    intro S S1 v0 N σ bl f K X hG hN o c e hT h hD hμ hn hA hl hL hb
    have o1 := o.1
    by_cases h11 : kd T S.1 = 11
    · rw [bd_rep_t h11] at h
      have e1 := adv_1 t o h11 (by decide)
      have ga := gs_adv t o h11 (by decide)
      obtain ⟨w, S2, h1, h2⟩ := bd_inv h
      have g2 := gs_stm t n (adv S) S2 w ga.2.1 (ga.c2 c) trivial h1
      obtain ⟨w3, S3, i1, i2⟩ := bd_inv h2
      have k1 := gs_rep t (by decide) (gs_stm t n) k S2 S3 w3 g2.2.1 (g2.c2 (ga.c2 c)) trivial i1
      have k2 := gs_expect t (by decide) k1.2.1 i2
      have k3 := k1.tr k2
      have g21 := g2.1
      have k31 := k3.1
      have nn := hn h11
      obtain ⟨hS, a1, a2, a3, a4⟩ := hA
      have zz : cz (adv S) = cz S := rfl
      have stm := hs (adv S) S2 w N σ bl f K (w_pc X (r_pc X + 1)) (rg_gr hG KP.pc.1) hN ga.2.1 (ga.c2 c) e hT h1 (hD.pf k3.2.2.2.2) (hμ.sub (by omega) k31) nn.1 ⟨SIM.pc hS, a1, a2, by rw [wpc_pc, a3, e1], by rw [wpc_fl]; exact a4⟩ (by rw [wpc_lv]; exact hl) hb
      rw [wpc_lv] at stm
      have stm2 : RO Y D (cz S) (cz S2) S2.1 (r_level X f) (r_level X f) K X f (oV X) := RO.pre stm VR.rf (by rw [zz]; omega) (Nat.le_refl _) KP.pc.frl FRK.rf fun v Z' hh => ov_semi hS (by omega) hL (by omega) (by rw [a3]; exact kind_of hG o.1 h11) hh
      refine RO.seq stm2 (fun K' X' b1 b2 b3 b4 b5 b6 b7 b8 b9 => ?_) (by have := k3.2.2.2.2.1; omega)
      have hbk : r_blockOf X' f = r_blockOf X f := (b7.2.1 f (Nat.le_refl _)).1
      have r := ih S2 S1 v0 N σ bl f K' X' (rg_gr hG b7.1) (by rw [hbk]; exact hN) g2.2.1 (g2.c2 (ga.c2 c)) (g2.2.2.1.trans e) (hT.pf (ga.2.2.2.2.tr g2.2.2.2.2)) h2 (hD.lo (by have := g2.2.2.2.2.1; omega)) (hμ.sub (by omega) (Nat.le_refl _)) (nn.2 w S2 h1) ⟨b5, b2, b1, b3, b4⟩ (by rw [b6]; exact hl) ?_ (by omega)
      · rw [b6] at r; exact r
      · unfold inL
        rw [b6]
        rcases hL with z | z
        · exact Or.inl z
        · rcases Nat.eq_zero_or_pos (r_level X f) with y | y
          · exact Or.inl y
          · right
            rw [(b7.2.2.2 _ (by omega)).1]; exact z
    · rw [bd_rep_f h11] at h
      exact fin S S1 v0 f K X o h hA
theorem ro_list {b n : Nat} (pf : PF2 T m Y) (hs : STMT T m Y D μ ν b n) {S S1 : CS} {v0 : Nat} (hG : RG T m Y μ ν X) (hN : NB Y N σ bl (r_blockOf X f)) (o : Ok m S) (c : C2 S) (e : S.2.1 = N) (hT : TB D S N) (h : cp_stmts T (cp_stm T n) S = (.inr v0, S1)) (hD : AGd D (cz S) S1) (hμ : MU T N σ μ S.1 S1.1) (hn : nxl T (cp_stm T n) (nxs T ν n) S) (hA : AT Y K X f (cz S) S.1) (hl : r_level X f + n = 8) (hL : inL X f) (hb : 400 ≤ ks K + b) : RO Y D (cz S) (cz S1) (S1.1 - 1) (r_level X f) (r_level X f) K X f (rN X) ∧ 1 ≤ S1.1 ∧ kd T (S1.1 - 1) = 3 := by
  have t := pf.1
  obtain ⟨w, S2, h1, h2⟩ := bd_inv h
  have g2 := gs_stm t n S S2 w o c trivial h1
  obtain ⟨w3, S3, i1, i2⟩ := bd_inv h2
  have k1 := gs_rep t (by decide) (gs_stm t n) 150 S2 S3 w3 g2.2.1 (g2.c2 c) trivial i1
  have k2 := gs_expect t (by decide) k1.2.1 i2
  have e3 := ge_expect t (by decide) k1.2.1 i2
  have k3 := k1.tr k2
  have g21 := g2.1
  have k31 := k3.1
  have stm := hs S S2 w N σ bl f K X hG hN o c e hT h1 (hD.pf k3.2.2.2.2) (hμ.sub (Nat.le_refl _) k31) hn.1 hA hl hb
  refine ⟨RO.seq stm (fun K' X' b1 b2 b3 b4 b5 b6 b7 b8 b9 => ?_) (k3.2.2.2.2.1), by omega, by rw [show S1.1 - 1 = S3.1 by omega]; exact e3.2.2.2⟩
  have hbk : r_blockOf X' f = r_blockOf X f := (b7.2.1 f (Nat.le_refl _)).1
  have r := ro_tail pf hs 150 S2 S1 v0 N σ bl f K' X' (rg_gr hG b7.1) (by rw [hbk]; exact hN) g2.2.1 (g2.c2 c) (g2.2.2.1.trans e) (hT.pf g2.2.2.2.2) h2 (hD.lo (g2.2.2.2.2.1)) (hμ.sub (by omega) (Nat.le_refl _)) (hn.2 w S2 h1) ⟨b5, b2, b1, b3, b4⟩ (by rw [b6]; exact hl) ?_ (by omega)
  · rw [b6] at r; exact r
  · unfold inL
    rw [b6]
    rcases hL with z | z
    · exact Or.inl z
    · rcases Nat.eq_zero_or_pos (r_level X f) with y | y
      · exact Or.inl y
      · right
        rw [(b7.2.2.2 _ (by omega)).1]; exact z
theorem ro_begin {b n : Nat} (pf : PF2 T m Y) (hs : STMT T m Y D μ ν b n) {S S1 : CS} {v0 : Nat} (hG : RG T m Y μ ν X) (hN : NB Y N σ bl (r_blockOf X f)) (o : Ok m S) (c : C2 S) (e : S.2.1 = N) (hT : TB D S N) (hk : kd T S.1 = 2) (h : cp_stmts T (cp_stm T n) (adv S) = (.inr v0, S1)) (hD : AGd D (cz S) S1) (hμ : MU T N σ μ S.1 S1.1) (hn : nxl T (cp_stm T n) (nxs T ν n) (adv S)) (hA : AT Y K X f (cz S) S.1) (hl : r_level X f + (n + 1) = 8) (hb : 400 ≤ ks K + b) : RO Y D (cz S) (cz S1) S1.1 (r_level X f) (r_level X f) K X f (rN X) := by
  have t := pf.1
  have tm := t.1
  have o1 := o.1
  have hlt := t.lt o.1 hk (by decide)
  have e1 := adv_1 t o hk (by decide)
  have ga := gs_adv t o hk (by decide)
  have gL := gs_stmts t (gs_stm t n) (adv S) S1 v0 ga.2.1 (ga.c2 c) trivial h
  have oS1 := gL.2.1.1
  obtain ⟨hS, a1, a2, a3, a4⟩ := hA
  have s3 := hS.2.2.1
  have zz : cz (adv S) = cz S := rfl
  have fp : FRL f (r_level X f) X (w_pc (pX X f 5 (r_pc X)) (r_pc X + 1)) := (px_frl rfl).tr KP.pc.frl
  have lvE : r_level (w_pc (pX X f 5 (r_pc X)) (r_pc X + 1)) f = r_level X f + 1 := by rw [wpc_lv]; exact px_lv
  have doE : r_doing (w_pc (pX X f 5 (r_pc X)) (r_pc X + 1)) (10 * f + r_level X f) = 5 := by rw [wpc_do]; exact px_do
  have L := ro_list (X := w_pc (pX X f 5 (r_pc X)) (r_pc X + 1)) (K := K) pf hs (rg_gr hG fp.1) (by rw [(fp.2.1 f (Nat.le_refl _)).1]; exact hN) ga.2.1 (ga.c2 c) e hT h hD (hμ.sub (by omega) (Nat.le_refl _)) hn ⟨SIM.pc (SIM.px hS), a1, a2, by rw [wpc_pc, a3, e1], by rw [wpc_fl, px_fl]; exact a4⟩ (by rw [lvE]; omega) (Or.inr (by rw [lvE, show 10 * f + (r_level X f + 1) - 1 = 10 * f + r_level X f by omega]; exact doE)) hb
  obtain ⟨L, L1, L2⟩ := L
  rw [lvE] at L
  have bg : ∀ v Z', rN (w_pc (pX X f 5 (r_pc X)) (r_pc X + 1)) v Z' → rN X v Z' := fun v Z' hh => rN_step hS.1 (by omega) a4 (st_begin (by omega) (by rw [a3]; exact kind_of hG o.1 hk) hS.1 (by omega) (by omega)) hh
  -- behind its end
  rcases L with ⟨k, K', X', h1, h2, h3, h4, h5, h6, h7, h8, h9, h10, h11, h12⟩ | ⟨k, E, K', X', f', h1, h2, h3, h4, h5, h6, h7, h8, h9⟩
  · have hG' := rg_gr hG (fp.1.tr h10.1)
    refine Or.inl ⟨k, K', w_pc (lX X' f (r_level X f)) S1.1, h1, by rw [zz] at h2; exact h2, h3, h4, h5, wpc_pc, by rw [wpc_fl, lx_fl]; exact h7, SIM.pc (SIM.lx h8), by rw [wpc_lv]; exact lx_lv, ((fp.tr (h10.weak (by omega))).tr lx_frl).tr KP.pc.frl, h11, fun v Z' hh => bg _ _ (h12 _ _ ?_)⟩
    -- the begin's own entry is still on top
    have top : r_doing X' (10 * f + r_level X' f - 1) = 5 := by
      rw [h9, show 10 * f + (r_level X f + 1) - 1 = 10 * f + r_level X f by omega, (h10.2.2.2 _ (by omega)).1]
      exact doE
    refine ov_end5 h8.1 (by omega) (by omega) (by omega) top (by rw [h6]; omega) ?_ ?_ ?_
    · rw [h6]; exact kind_ne t hG' (by omega) (k := 11) (by decide) (by rw [L2]; decide)
    · rw [h6]; exact kind_lt t hG' (by omega)
    · have q : w_pc (w_level X' (va_up (r_level X') f (r_level X' f - 1))) (r_pc X' + 1) = w_pc (lX X' f (r_level X f)) S1.1 := by
        rw [h9, h6, show r_level X f + 1 - 1 = r_level X f by omega, show S1.1 - 1 + 1 = S1.1 by omega]
        rfl
      rw [q]; exact hh
  · exact Or.inr ⟨k, E, K', X', f', h1, by rw [zz] at h2; exact h2, h3, h4, h5, fp.1.tr h6, h7, h8, fun v Z' hh => bg _ _ (h9 _ _ hh)⟩
end RW
