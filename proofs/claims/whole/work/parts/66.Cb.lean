/-! ===== arguments: class and model ===== -/
theorem vx_gv {B : MS} {p fl : Nat} {su te : Nat → Int32} {ss ts : Nat → Nat} {g : Nat → Int32} : w_given (VX B p fl su te ss ts) g = VX (w_given B g) p fl su te ss ts := rfl
theorem gv_gv {B : MS} {g h : Nat → Int32} : w_given (w_given B g) h = w_given B h := rfl
theorem vx_rgv {B : MS} {p fl : Nat} {su te : Nat → Int32} {ss ts : Nat → Nat} : r_given (VX B p fl su te ss ts) = r_given B := rfl
theorem gv_rgv {B : MS} {g : Nat → Int32} : r_given (w_given B g) = g := rfl
theorem KP.gv {X : MS} {g : Nat → Int32} : KP X (w_given X g) := ⟨⟨rfl, rfl, rfl, rfl, rfl⟩, rfl, rfl, rfl, rfl, rfl, rfl, rfl⟩
theorem SIM.gv {Y : MS2} {K : Mc} {X : MS} {f : Nat} {g : Nat → Int32} (h : SIM Y K X f) : SIM Y K (w_given X g) f := h.cong rfl rfl rfl rfl rfl rfl rfl rfl rfl rfl rfl rfl rfl rfl
theorem COR.gv {Y : MS2} {X : MS} {h a p : Nat} {g : Nat → Int32} (c : COR Y X h a p) : COR Y (w_given X g) h a p := c
theorem COR.gv' {Y : MS2} {X : MS} {h a p : Nat} {g : Nat → Int32} (c : COR Y (w_given X g) h a p) : COR Y X h a p := c
theorem OBS.gv {K : Mc} {X : MS} {g : Nat → Int32} (h : OBS K X) : OBS K (w_given X g) := h.cong rfl rfl rfl rfl rfl rfl
section CB
variable {T : Tk} {m : Nat} {Y : MS2} {D : Co} {μ ν : Nat → Nat} {N : Nm} {σ bl : Nat → Nat} {f : Nat} {K : Mc} {X : MS}
/-- an expression of one name -/
theorem name_one {S S1 : CS} {v : Nat} (t : TkOk T m) (o : Ok m S) (c : Cp S) (e : S.2.1 = N) (hk : kd T S.1 = 25) (h : cp_expr T 8 S = (.inr v, S1)) (hz : cz S1 = cz S + 1) : ∃ i, nm_find N (T.2.2.1 S.1) = some i ∧ N.2.1 i ≠ 2 ∧ S1 = adv (cadd S (if N.2.1 i = 1 then 3 else 2) (N.2.2.2.2.2.2.1 - N.2.2.1 i) (N.2.2.2.1 i)) := by
  have tm := t.1
  rw [cp_expr_eq] at h
  have gf := gx_fact t (gx_brk t (gx_expr t 7))
  have gt := gx_term t gf
  unfold cp_ex at h
  rw [if_neg (by omega)] at h
  obtain ⟨w, S2, h1, h2⟩ := bd_inv h
  obtain ⟨w3, S3, h3, h4⟩ := bd_inv h1
  have g3 := gf S S3 w3 o c trivial h3
  have g4 := gt_tl t gf 150 S3 S2 w g3.1.2.1 (g3.1.cp c) h4
  have g2 := gt_sl t gt 150 S2 S1 v g4.1.2.1 (g4.1.cp (g3.1.cp c)) h2
  have p4 := g4.1.2.2.2.2.1
  have p2 := g2.1.2.2.2.2.1
  have e4 : S2 = S3 := by rcases g4.2 with q | q; exact q; omega
  have e2 : S1 = S2 := by rcases g2.2 with q | q; exact q; omega
  unfold cp_fact at h3
  rw [if_neg (by omega), if_pos hk] at h3
  unfold cp_var at h3
  rw [e] at h3
  split at h3
  · cases h3
  · rename_i i hi
    split at h3
    · cases h3
    · rename_i hk2
      cases h3
      exact ⟨i, hi, hk2, by rw [e2, e4]⟩
theorem adr_op {W : CS} {k : Nat} (hk : k < cz W) : (cadr W k).2.2.1 k = (if W.2.2.1 k = 3 then 2 else 4) ∧ (∀ i, i ≠ k → (cadr W k).2.2.1 i = W.2.2.1 i) ∧ (cadr W k).2.2.2.1 = W.2.2.2.1 ∧ (cadr W k).2.2.2.2.1 = W.2.2.2.2.1 := by
  have e : cadr W k = (W.1, W.2.1, co_addr W.2.2 k) := rfl
  unfold co_addr at e
  rw [if_neg (show ¬ W.2.2.2.2.2.2.2.2.1 ≤ k from Nat.not_le.mpr hk)] at e
  rw [e]
  refine ⟨va_same _ _ _, fun i hi => ?_, rfl, rfl⟩
  show va_up W.2.2.1 k _ i = _
  unfold va_up; rw [if_neg hi]
/-- what was given: values, and addresses of the same variables -/
def ARG (Y : MS2) (X : MS) (f s : Nat) (st gv : Nat → Int32) (j : Nat) : Prop := (Y.2.1 (s + 1 + j) ≠ 2 → st j = gv j) ∧ (Y.2.1 (s + 1 + j) = 2 → ∃ a p, COR Y X f a p ∧ st j = nI a ∧ gv j = nI p)
theorem ARG.cong {s j : Nat} {st gv st' gv' : Nat → Int32} (h : ARG Y X f s st gv j) (e1 : st' j = st j) (e2 : gv' j = gv j) : ARG Y X f s st' gv' j := by
  unfold ARG
  rw [e1, e2]
  exact h
/-- the arguments from the r-th on -/
def AO2 (Y : MS2) (D : Co) (K : Mc) (X : MS) (f s w : Nat) (c0 c1 p1 : Nat) (st : Nat → Int32) (r : Nat) (P : MS → Prop) : Prop :=
  (∃ k st' gv' su te ss ts, VR D k (KX K st r c0) (KX K st' w c1) ∧ k + c0 ≤ c1 ∧ (∀ j, j < w → ARG Y X f s st' gv' j) ∧ ∀ X', eC s w w (VX (w_given X gv') p1 0 su te ss ts) X' → P X') ∨
  (∃ k st' τ' c', VE D k (KX K st r c0) ARE (KX K st' τ' c') ∧ k + c0 ≤ c1 ∧ ∃ gv' pc su te ss ts, P (VX (w_given X gv') pc 2 su te ss ts))
theorem al_count {q : Nat} : ∀ n r S S1 v, cp_al T q n r S = (.inr v, S1) → r ≤ v ∧ (0 < n → r < v) := by
  intro n
  induction n with
  | zero => intro r S S1 v h; obtain ⟨w2, S2, i1, i2⟩ := bd_inv h; cases i2; exact ⟨Nat.le_refl _, fun z => by omega⟩
  | succ n ih =>
    intro r S S1 v h
    rw [cp_al] at h
    obtain ⟨w2, S2, i1, i2⟩ := bd_inv h
    have fin : ∀ Z, (if kd T S2.1 = 12 then cp_al T q n (r + 1) (adv Z) else bd (cp_expect T 14) (fun _ => cret (r + 1)) Z) = (.inr v, S1) → r < v := by
      intro Z hZ
      split at hZ
      · have := (ih _ _ _ _ hZ).1; omega
      · obtain ⟨w3, S3, i3, i4⟩ := bd_inv hZ; cases i4; omega
    have : r < v := by
      split at i2
      · split at i2
        · exact fin _ i2
        · cases i2
      · exact fin _ i2
    exact ⟨by omega, fun _ => this⟩
theorem isRef_cong {C C' : Co} {q k : Nat} (e : C'.2.2.2.2.2.1 = C.2.2.2.2.2.1) : co_isRef C' q k = co_isRef C q k := by unfold co_isRef; rw [e]
set_option maxRecDepth 4000 in
theorem ro_al {q s w : Nat} (pf : PF2 T m Y) (hG : RG T m Y μ ν X) (hN : NB Y N σ bl (r_blockOf X f)) (hS : SIM Y K X f) (hw : w ≤ 3) (hsw : s + 1 + w ≤ 18) (hso : ∀ j, j < w → Y.2.1 (s + 1 + j) ≤ 3) : ∀ n r S S1 st gv su te ss ts, m < S.1 + n → Ok m S → Cp S → S.2.1 = N → cp_al T q n r S = (.inr w, S1) → (∀ k, co_isRef S.2.2 q k = decide (k < w ∧ Y.2.1 (s + 1 + k) = 2)) → AGd D (cz S) S1 → MU T N σ μ S.1 S1.1 → 1 ≤ S.1 → (∀ j, j < r → ARG Y X f s st gv j) → AO2 Y D K X f s w (cz S) (cz S1) (S1.1 - 1) st r (eC s w r (VX (w_given X gv) (S.1 - 1) 0 su te ss ts)) := by
  have t := pf.1
  have tm := t.1
  intro n
  induction n with
  | zero =>
    intro r S S1 st gv su te ss ts hm o
    have := o.1
    omega
  | succ n ih =>
    intro r S S1 st gv su te ss ts hm o c e h hr hD hμ h1 ha
    have o1 := o.1
    have hrw : r < w := (al_count (n + 1) r S S1 w h).2 (by omega)
    have gS1 := (ge_al t (n + 1) r S S1 w o c h).1
    have ltS1 := (ge_al t (n + 1) r S S1 w o c h).2
    have oS1 := gS1.2.1.1
    rw [cp_al] at h
    obtain ⟨w2, S2, i1, i2⟩ := bd_inv h
    have g2 := gx_expr t 8 S S2 w2 o c trivial i1
    have g21 := g2.2.1
    have oS2 := g2.1.2.1.1
    have c2 : Cp S2 := g2.1.cp c
    have hGB : RG T m Y μ ν (w_given X gv) := rg_gr hG KP.gv.1
    have hNB : NB Y N σ bl (r_blockOf (w_given X gv) f) := hN
    have hSB : SIM Y K (w_given X gv) f := hS.gv
    have so18 := hG.2.1 (s + 1 + r) (by omega)
    have fZ : r_failure (VX (w_given X gv) (S.1 - 1) 0 su te ss ts) = 0 := vx_fl
    have pZ : r_pc (VX (w_given X gv) (S.1 - 1) 0 su te ss ts) = S.1 - 1 := vx_pc
    have gZ : r_given (VX (w_given X gv) (S.1 - 1) 0 su te ss ts) = gv := vx_rgv.trans gv_rgv
    have srt : r_pSort (VX (w_given X gv) (S.1 - 1) 0 su te ss ts) (s + 1 + r) = Y.2.1 (s + 1 + r) := so18.1
    -- behind this argument
    have rest : ∀ (Z : CS) (k : Nat) (st' gv' su' te' : Nat → Int32) (ss' ts' : Nat → Nat), Z.1 = S2.1 → cz Z = cz S2 → GE m S Z → (if kd T S2.1 = 12 then cp_al T q n (r + 1) (adv Z) else bd (cp_expect T 14) (fun _ => cret (r + 1)) Z) = (.inr w, S1) → VR D k (KX K st r (cz S)) (KX K st' (r + 1) (cz S2)) → k + cz S ≤ cz S2 → (∀ j, j < r + 1 → ARG Y X f s st' gv' j) → (∀ X', eC s w (r + 1) (VX (w_given X gv') S2.1 0 su' te' ss' ts') X' → eC s w r (VX (w_given X gv) (S.1 - 1) 0 su te ss ts) X') → AO2 Y D K X f s w (cz S) (cz S1) (S1.1 - 1) st r (eC s w r (VX (w_given X gv) (S.1 - 1) 0 su te ss ts)) := by
      intro Z k st' gv' su' te' ss' ts' eZ zZ gZ' hZ hv hb har hP
      by_cases h12 : kd T S2.1 = 12
      · rw [if_pos h12] at hZ
        rw [← eZ] at h12
        have gA := ge_adv t gZ'.2.1 h12 (by decide)
        have gR := (ge_al t n (r + 1) (adv Z) S1 w gA.1.2.1 (gA.1.cp (gZ'.cp c)) hZ).1
        have zA : cz (adv Z) = cz S2 := zZ
        have pA : (adv Z).1 - 1 = S2.1 := by omega
        have r2 := ih (r + 1) (adv Z) S1 st' gv' su' te' ss' ts' (by omega) gA.1.2.1 (gA.1.cp (gZ'.cp c)) (gZ'.2.2.1.trans e) hZ (fun k => by rw [← hr k]; exact isRef_cong gZ'.2.2.2.2.2.2.2.2) (hD.lo (by have := gZ'.2.2.2.2.1; show cz S ≤ cz Z; omega)) (hμ.sub (by omega) (Nat.le_refl _)) (by omega) har
        unfold AO2 at r2
        rw [zA, pA] at r2
        rcases r2 with ⟨k2, st2, gv2, su2, te2, ss2, ts2, u1, u2, u3, u4⟩ | ⟨k2, st2, τ2, c2', u1, u2, gv2, pc2, su2, te2, ss2, ts2, u3⟩
        · exact Or.inl ⟨k + k2, st2, gv2, su2, te2, ss2, ts2, hv.tr u1, by omega, u3, fun X' hX => hP _ (u4 _ hX)⟩
        · exact Or.inr ⟨k + k2, st2, τ2, c2', hv.te u1, by omega, gv2, pc2, su2, te2, ss2, ts2, hP _ u3⟩
      · rw [if_neg h12] at hZ
        obtain ⟨w3, S3, i3, i4⟩ := bd_inv hZ
        have e3 := ge_expect t (by decide) gZ'.2.1 i3
        cases i4
        have z3 : cz S1 = cz S2 := by rw [e3.2.2.1]; exact zZ
        have p3 : S1.1 - 1 = S2.1 := by rw [e3.2.1, eZ]; omega
        unfold AO2
        rw [z3, p3]
        exact Or.inl ⟨k, st', gv', su', te', ss', ts', hv, hb, har, hP⟩
    by_cases hrf : co_isRef S2.2.2 q r = true
    · rw [if_pos hrf] at i2
      have hrf2 : r < w ∧ Y.2.1 (s + 1 + r) = 2 := by
        have q1 := isRef_cong (q := q) (k := r) g2.1.2.2.2.2.2.2.2.2
        rw [q1, hr r] at hrf
        exact of_decide_eq_true hrf
      split at i2
      · rename_i hal
        have hz2 : cz S2 = cz S + 1 := hal.2
        obtain ⟨i, hi, hk2, hS2⟩ := name_one t o c e hal.1 i1 hz2
        have hlt := t.lt o.1 hal.1 (by decide)
        have z0 : cz S < 300 := by unfold Cp at c; omega
        have gA := ge_adr (k := cz S) g2.1 (Nat.le_refl _)
        obtain ⟨i', hi', eμ⟩ := hμ S.1 (Nat.le_refl _) (by omega) hal.1
        rw [hi] at hi'
        cases hi'
        obtain ⟨a, p, q1, q2, q3, q4⟩ := place_ok (X := w_given X gv) (K := K) (i := i) hGB pf.2.1 pf.2.2.1 pf.2.2.2 hN.1 hN.2.1 hN.2.2.1 hSB hN.2.2.2.symm (nm_find_lt hi).1 hk2
        -- the instruction
        have gE := gS1
        have ao := adr_op (W := S2) (k := cz S) (by omega)
        have at1 := add_at (S := S) (x := if N.2.1 i = 1 then 3 else 2) (f := N.2.2.2.2.2.2.1 - N.2.2.1 i) (t := N.2.2.2.1 i) z0
        have fin2 : PF (cadr S2 (cz S)) S1 := by
          by_cases h12 : kd T S2.1 = 12
          · have i2' := i2
            rw [if_pos h12] at i2'
            have gA1 := ge_adv (S := cadr S2 (cz S)) t gA.2.1 h12 (by decide)
            exact gA1.1.2.2.2.2.tr (ge_al t n (r + 1) _ S1 w gA1.1.2.1 (gA1.1.cp (gA.cp c)) i2').1.2.2.2.2
          · have i2' := i2
            rw [if_neg h12] at i2'
            obtain ⟨w3, S3, i3, i4⟩ := bd_inv i2'
            have e3 := ge_expect t (by decide) gA.2.1 i3
            cases i4
            exact e3.1.2.2.2.2
        have hDa := hD.pf fin2
        have dA := hDa.2 (cz S) (Nat.le_refl _) (by rw [cz_adr]; omega)
        rw [ao.1, ao.2.2.1, ao.2.2.2] at dA
        have s2op : S2.2.2.1 (cz S) = (if N.2.1 i = 1 then 3 else 2) ∧ S2.2.2.2.1 (cz S) = N.2.2.2.2.2.2.1 - N.2.2.1 i ∧ S2.2.2.2.2.1 (cz S) = N.2.2.2.1 i := by rw [hS2]; exact at1
        rw [s2op.1, s2op.2.1, s2op.2.2] at dA
        have csz : cz S < D.2.2.2.2.2.2.1 := by have := hDa.1; rw [cz_adr] at this; omega
        have vp : VR D 1 (KX K st r (cz S)) (KX K (upd st r (nI a)) (r + 1) (cz S + 1)) := by
          refine vm1 csz ?_
          by_cases hn1 : N.2.1 i = 1
          · rw [if_pos hn1, if_pos rfl] at dA
            rw [dA.1, dA.2.1, dA.2.2]
            show (none, mc_push (KX K st r (cz S + 1)) (mc_ld K (nI (mc_addr (KX K st r (cz S + 1)) _ _)))) = _
            rw [kx_addr, q3 hn1, kx_push (by omega)]
          · rw [if_neg hn1, if_neg (by decide)] at dA
            rw [dA.1, dA.2.1, dA.2.2]
            show (none, mc_push (KX K st r (cz S + 1)) (nI (mc_addr (KX K st r (cz S + 1)) _ _))) = _
            rw [kx_addr, q4 hn1, kx_push (by omega)]
        rw [← hz2] at vp
        have p2 : S2.1 = S.1 + 1 := (gx_name t o c hal.1 i1).mpr hz2
        refine rest (cadr S2 (cz S)) 1 (upd st r (nI a)) (upd gv r (nI p)) su te ss ts rfl cz_adr gA i2 vp (by omega) (fun j hj => ?_) (fun X' hX => ?_)
        · rcases Nat.lt_or_ge j r with z | z
          · refine (ha j z).cong ?_ ?_
            · unfold upd; rw [if_neg (by omega)]
            · unfold upd; rw [if_neg (by omega)]
          · have : j = r := by omega
            subst this
            exact ⟨fun z => absurd hrf2.2 z, fun _ => ⟨a, p, COR.gv' q1, upd_same _ _ _, upd_same _ _ _⟩⟩
        · refine ec_ref (v := p) hrw hw fZ (by omega) (srt.trans hrf2.2) (by rw [pZ]; omega) ?_ ?_
          · rw [pZ, show S.1 - 1 + 1 = S.1 by omega, vx_wpc]
            have mE : r_pMeans (VX (w_given X gv) (S.1 - 1) 0 su te ss ts) S.1 = σ i := ((rg_gr hGB KP.vx.1).2.2.2 S.1 (by omega)).1.trans eμ
            rw [mE]
            exact q2 _ _ _ _ _ _
          · rw [pZ, gZ, show S.1 - 1 + 1 = S.1 by omega, show S.1 - 1 + 2 = S2.1 by omega, vx_wpc, vx_gv, gv_gv, vx_wpc]
            exact hX
      · cases i2
    · rw [if_neg hrf] at i2
      have hrf2 : ¬ Y.2.1 (s + 1 + r) = 2 := by
        have q1 := isRef_cong (q := q) (k := r) g2.1.2.2.2.2.2.2.2.2
        rw [q1, hr r] at hrf
        exact fun z => hrf (decide_eq_true ⟨hrw, z⟩)
      have pfS2 : PF S2 S1 := by
        by_cases h12 : kd T S2.1 = 12
        · have i2' := i2
          rw [if_pos h12] at i2'
          have gA1 := ge_adv (S := S2) t g2.1.2.1 h12 (by decide)
          exact gA1.1.2.2.2.2.tr (ge_al t n (r + 1) _ S1 w gA1.1.2.1 (gA1.1.cp c2) i2').1.2.2.2.2
        · have i2' := i2
          rw [if_neg h12] at i2'
          obtain ⟨w3, S3, i3, i4⟩ := bd_inv i2'
          have e3 := ge_expect t (by decide) g2.1.2.1 i3
          cases i4
          exact e3.1.2.2.2.2
      have pos2 : S2.1 ≤ S1.1 := by
        by_cases h12 : kd T S2.1 = 12
        · have i2' := i2
          rw [if_pos h12] at i2'
          have gA1 := ge_adv (S := S2) t g2.1.2.1 h12 (by decide)
          have := (ge_al t n (r + 1) _ S1 w gA1.1.2.1 (gA1.1.cp c2) i2').1.1
          omega
        · have i2' := i2
          rw [if_neg h12] at i2'
          obtain ⟨w3, S3, i3, i4⟩ := bd_inv i2'
          have e3 := ge_expect t (by decide) g2.1.2.1 i3
          cases i4
          omega
      have V1 : VV T N K (w_given X gv) S.1 S2.1 := vvx pf hGB hNB hSB oS2 (hμ.sub (Nat.le_refl _) pos2)
      have tv := ev_top (K := K) (X := w_given X gv) (st := st) (τ := r) (su := su) (te := te) (ss := ss) (ts := ts) t hGB.1 o c e i1 (hD.pf pfS2) V1 (by omega)
      have ste : ∀ x X1 X', mo_evaluate (VX (w_given X gv) S.1 0 su te ss ts) x X1 → eC s w (r + 1) (w_given X1 (upd (r_given X1) r x)) X' → eC s w r (VX (w_given X gv) (S.1 - 1) 0 su te ss ts) X' := by
        intro x X1 X' hx hX
        refine ec_val (x := x) (X1 := X1) hrw hw fZ (by omega) (by rw [srt]; have := hso r hrw; omega) (fun z => hrf2 (srt.symm.trans z)) ?_ hX
        rw [pZ, show S.1 - 1 + 1 = S.1 by omega, vx_wpc]
        exact hx
      rcases tv with ⟨x, k, st', v1, v2, v3, v4, su', te', ss', ts', v5⟩ | ⟨k, st', τ', c', v1, v2, v, pc', su', te', ss', ts', hpc, v5⟩
      · refine rest S2 k st' (upd gv r x) su' te' ss' ts' rfl rfl g2.1 i2 v1 v2 (fun j hj => ?_) (fun X' hX => ste x _ X' v5 ?_)
        · rcases Nat.lt_or_ge j r with z | z
          · refine (ha j z).cong (v4 j z) ?_
            unfold upd; rw [if_neg (by omega)]
          · have : j = r := by omega
            subst this
            exact ⟨fun _ => by rw [v3, upd_same], fun z => absurd z hrf2⟩
        · rw [vx_rgv, gv_rgv, vx_gv, gv_gv]
          exact hX
      · right
        refine ⟨k, st', τ', c', v1, by have := pfS2.1; omega, upd gv r v, pc' + 1, su', te', ss', ts', ste v _ _ v5 ?_⟩
        rw [vx_rgv, gv_rgv, vx_gv, gv_gv]
        have ef := ec_fail (X := VX (w_given X (upd gv r v)) pc' 2 su' te' ss' ts') (s := s) (n := w) (k := r + 1) (by omega) hw (by omega) (by rw [vx_fl]; decide) (by rw [vx_fl]; decide)
        rw [vx_pc, vx_wpc] at ef
        exact ef
end CB
