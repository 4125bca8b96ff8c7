/-! ===== an expression's value: class and model ===== -/
def vld (K : Mc) (kk h s : Nat) : Int32 := if kk = 1 then mc_ld K (mc_ld K (nI (mc_addr K h s))) else mc_ld K (nI (mc_addr K h s))
/-- the model's program is the class's tokens -/
def RT (T : Tk) (m : Nat) (X : MS) : Prop := (∀ i, i ≤ m → r_pKind X i = kap (kd T i)) ∧ ∀ i, i < m → kd T i = 26 → r_pWord X i = (T.2.2.1 i).toInt32
/-- the variables named from a to b have the same values -/
def VV (T : Tk) (N : Nm) (K : Mc) (X : MS) (a b : Nat) : Prop := ∀ t, a ≤ t → t < b → kd T t = 25 → ∀ i, nm_find N (T.2.2.1 t) = some i → N.2.1 i ≠ 2 → ∃ pl, pl < 132 ∧ (∀ pc fl su te ss ts, mo_place (r_pMeans X t) (VX X pc fl su te ss ts) pl (VX X pc fl su te ss ts)) ∧ r_cell X pl = vld K (N.2.1 i) (N.2.2.2.2.2.2.1 - N.2.2.1 i) (N.2.2.2.1 i)
theorem VV.sub {T : Tk} {N : Nm} {K : Mc} {X : MS} {a b a' b' : Nat} (h : VV T N K X a b) (ha : a ≤ a') (hb : b' ≤ b) : VV T N K X a' b' := fun t h1 h2 => h t (by omega) (by omega)
section E1
variable {T : Tk} {m : Nat} {N : Nm} {D : Co} {K : Mc} {X : MS}
/-- the registers below d stay -/
def RB4 (d : Nat) (su te su' te' : Nat → Int32) (ss ts ss' ts' : Nat → Nat) : Prop := ∀ j, j < d → su' j = su j ∧ te' j = te j ∧ ss' j = ss j ∧ ts' j = ts j
theorem RB4.rf {d : Nat} {su te : Nat → Int32} {ss ts : Nat → Nat} : RB4 d su te su te ss ts ss ts := fun _ _ => ⟨rfl, rfl, rfl, rfl⟩
theorem RB4.tr {d : Nat} {su te su' te' su2 te2 : Nat → Int32} {ss ts ss' ts' ss2 ts2 : Nat → Nat} (h : RB4 d su te su' te' ss ts ss' ts') (k : RB4 d su' te' su2 te2 ss' ts' ss2 ts2) : RB4 d su te su2 te2 ss ts ss2 ts2 := fun j hj => by
  have a := h j hj
  have b := k j hj
  exact ⟨b.1.trans a.1, b.2.1.trans a.2.1, b.2.2.1.trans a.2.2.1, b.2.2.2.trans a.2.2.2⟩
/-- what evaluation comes to: a value on both sides, or the failure on both -/
def EO (D : Co) (K : Mc) (X : MS) (S S1 : CS) (st : Nat → Int32) (τ0 τ1 τ : Nat) (P : Int32 → MS → Prop) (G : Int32 → Prop) : Prop :=
  (∃ a k st', VR D k (KX K st τ0 (cz S)) (KX K st' τ1 (cz S1)) ∧ k + cz S ≤ cz S1 ∧ st' τ = a ∧ (∀ j, j < τ → st' j = st j) ∧ G a) ∨
  (∃ k st' τ' c', VE D k (KX K st τ0 (cz S)) ARE (KX K st' τ' c') ∧ k + cz S ≤ cz S1 ∧ ∃ v pc su te ss ts, pc < 155 ∧ P v (VX X pc 2 su te ss ts))
/-- a factor: its value is multiplied to the term at d -/
def GF (X : MS) (d : Nat) (S1 : CS) (su te : Nat → Int32) (ss ts : Nat → Nat) (P : Int32 → MS → Prop) (f : Int32) : Prop := ∃ su' te' ss' ts', RB4 (d + 1) su te su' te' ss ts ss' ts' ∧ ∀ v Z', (∀ r, mulR (ts d) (te d) f = some r → eA d (VX X S1.1 0 su' (upd te' d r) ss' ts') v Z') → (mulR (ts d) (te d) f = none → eA d (VX X S1.1 2 su' te' ss' ts') v Z') → P v Z'
/-- a term: its value stands at d -/
def GM (X : MS) (d : Nat) (S1 : CS) (su te : Nat → Int32) (ss ts : Nat → Nat) (P : Int32 → MS → Prop) (t : Int32) : Prop := ∃ su' te' ss' ts', RB4 d su te su' te' ss ts ss' ts' ∧ su' d = su d ∧ ss' d = ss d ∧ te' d = t ∧ ∀ v Z', eA d (VX X S1.1 0 su' te' ss' ts') v Z' → P v Z'
/-- a sum -/
def GX2 (X : MS) (d : Nat) (S1 : CS) (su te : Nat → Int32) (ss ts : Nat → Nat) (P : Int32 → MS → Prop) (a : Int32) : Prop := ∃ su' te' ss' ts', RB4 d su te su' te' ss ts ss' ts' ∧ ss' d < 2147483648 ∧ addR (su' d) (ss' d) (te' d) = a ∧ ∀ v Z', eA d (VX X S1.1 0 su' te' ss' ts') v Z' → P v Z'
def tsok (ts : Nat → Nat) (d : Nat) : Prop := ts d = 0 ∨ ts d = 42 ∨ ts d = 47 ∨ ts d = 37
/-- a factor's evaluation -/
def EF (T : Tk) (m : Nat) (N : Nm) (D : Co) (K : Mc) (X : MS) (d : Nat) (x : CS → CR) (p : CS → Prop) : Prop := ∀ S S1 v0 st τ su te ss ts, Ok m S → Cp S → S.2.1 = N → p S → x S = (.inr v0, S1) → AGd D (cz S) S1 → VV T N K X S.1 S1.1 → τ ≤ 4 + 2 * d → tsok ts d → EO D K X S S1 st τ (τ + 1) τ (eH d (VX X S.1 0 su te ss ts)) (GF X d S1 su te ss ts (eH d (VX X S.1 0 su te ss ts)))
def ET (T : Tk) (m : Nat) (N : Nm) (D : Co) (K : Mc) (X : MS) (d : Nat) (x : CS → CR) : Prop := ∀ S S1 v0 st τ su te ss ts, Ok m S → Cp S → S.2.1 = N → x S = (.inr v0, S1) → AGd D (cz S) S1 → VV T N K X S.1 S1.1 → τ ≤ 3 + 2 * d → ts d = 0 → ss d < 2147483648 → EO D K X S S1 st τ (τ + 1) τ (eH d (VX X S.1 0 su te ss ts)) (GM X d S1 su te ss ts (eH d (VX X S.1 0 su te ss ts)))
def EE (T : Tk) (m : Nat) (N : Nm) (D : Co) (K : Mc) (X : MS) (d : Nat) (x : CS → CR) : Prop := ∀ S S1 v0 st τ su te ss ts, Ok m S → Cp S → S.2.1 = N → x S = (.inr v0, S1) → AGd D (cz S) S1 → VV T N K X S.1 S1.1 → τ ≤ 2 + 2 * d → EO D K X S S1 st τ (τ + 1) τ (eE d (VX X S.1 0 su te ss ts)) (GX2 X d S1 su te ss ts (eE d (VX X S.1 0 su te ss ts)))
theorem ev_fact {d : Nat} {x : CS → CR} (t : TkOk T m) (hR : RT T m X) (hd : d ≤ 8) (hx : EF T m N D K X d x (fun S => kd T S.1 = 13)) : EF T m N D K X d (cp_fact T x) (fun _ => True) := by
  intro S S1 v0 st τ su te ss ts o c e _ h hA hV hτ hts
  have tm := t.1
  have o1 := o.1
  have htl : ts d < 2147483648 := by unfold tsok at hts; omega
  unfold cp_fact at h
  split at h
  · rename_i hk
    have hl := t.lt o.1 hk (by decide)
    have hz : cz S < 300 := by unfold Cp at c; omega
    have k2 : r_pKind X S.1 = 2 := by rw [hR.1 _ o.1, hk]; rfl
    cases h
    have e1 : (adv (cadd S 1 (i32n (T.2.2.1 S.1).toInt32) 0)).1 = S.1 + 1 := adv_1 (S := cadd S 1 (i32n (T.2.2.1 S.1).toInt32) 0) t (ok_add o (by decide)) hk (by decide)
    have e2 : cz (adv (cadd S 1 (i32n (T.2.2.1 S.1).toInt32) 0)) = cz S + 1 := cz_add hz
    obtain ⟨a1, a2, a3, a4⟩ := hA.at (S := S) (x := 1) (f := i32n (T.2.2.1 S.1).toInt32) (t := 0) hz PF.rf (Nat.le_refl _)
    left
    refine ⟨(T.2.2.1 S.1).toInt32, 1, upd st τ (T.2.2.1 S.1).toInt32, ?_, by omega, upd_same _ _ _, fun j hj => ?_, ?_⟩
    · rw [e2]
      refine vm1 a1 ?_
      rw [a2, a3]
      show (none, mc_push (KX K st τ (cz S + 1)) (nI (i32n (T.2.2.1 S.1).toInt32))) = _
      rw [nI_i32n, kx_push (by omega)]
    · unfold upd; rw [if_neg (by omega)]
    · refine ⟨su, te, ss, ts, RB4.rf, fun v Z' h1 h2 => ?_⟩
      rw [e1] at h1 h2
      rw [← hR.2 _ hl hk] at h1 h2
      rcases hm : mulR (ts d) (te d) (r_pWord X S.1) with _ | r
      · exact eH_num (by omega) k2 (mul_no (by omega) htl hm) (h2 hm)
      · exact eH_num (by omega) k2 (mul_ok (by omega) htl hts hm) (h1 r hm)
  · rename_i h26
    split at h
    · rename_i hk
      have hl := t.lt o.1 hk (by decide)
      have hz : cz S < 300 := by unfold Cp at c; omega
      have k1 : r_pKind X S.1 = 1 := by rw [hR.1 _ o.1, hk]; rfl
      unfold cp_var at h
      rw [e] at h
      split at h
      · cases h
      · rename_i i hi
        split at h
        · cases h
        · rename_i hk2
          have e1 : ∀ x f u, x ≤ 20 → (adv (cadd S x f u)).1 = S.1 + 1 ∧ cz (adv (cadd S x f u)) = cz S + 1 := fun x f u hx => ⟨adv_1 (S := cadd S x f u) t (ok_add o hx) hk (by decide), cz_add hz⟩
          have hS1 := e1 (if N.2.1 i = 1 then 3 else 2) (N.2.2.2.2.2.2.1 - N.2.2.1 i) (N.2.2.2.1 i) (by split <;> decide)
          cases h
          obtain ⟨a1, a2, a3, a4⟩ := hA.at (S := S) (x := if N.2.1 i = 1 then 3 else 2) (f := N.2.2.2.2.2.2.1 - N.2.2.1 i) (t := N.2.2.2.1 i) hz PF.rf (Nat.le_refl _)
          obtain ⟨pl, p1, p2, p3⟩ := hV S.1 (Nat.le_refl _) (by rw [hS1.1]; omega) hk i hi hk2
          left
          refine ⟨r_cell X pl, 1, upd st τ (r_cell X pl), ?_, by rw [hS1.2]; omega, upd_same _ _ _, fun j hj => ?_, ?_⟩
          · rw [hS1.2]
            refine vm1 a1 ?_
            rw [a2, a3, a4, p3]
            unfold vld
            by_cases h1 : N.2.1 i = 1
            · rw [if_pos h1, if_pos h1]
              show (none, mc_push (KX K st τ (cz S + 1)) (mc_ld K (mc_ld K (nI (mc_addr (KX K st τ (cz S + 1)) _ _))))) = _
              rw [kx_addr, kx_push (by omega)]
            · rw [if_neg h1, if_neg h1]
              show (none, mc_push (KX K st τ (cz S + 1)) (mc_ld K (nI (mc_addr (KX K st τ (cz S + 1)) _ _)))) = _
              rw [kx_addr, kx_push (by omega)]
          · unfold upd; rw [if_neg (by omega)]
          · refine ⟨su, te, ss, ts, RB4.rf, fun v Z' h1 h2 => ?_⟩
            rw [hS1.1] at h1 h2
            rcases hm : mulR (ts d) (te d) (r_cell X pl) with _ | r
            · exact eH_var (by omega) k1 p1 (p2 _ _ _ _ _ _) (mul_no (by omega) htl hm) (h2 hm)
            · exact eH_var (by omega) k1 p1 (p2 _ _ _ _ _ _) (mul_ok (by omega) htl hts hm) (h1 r hm)
    · split at h
      · exact hx S S1 v0 st τ su te ss ts o c e (by assumption) h hA hV hτ hts
      · cases h
theorem mul_cal {k x : Nat} (hk : (k = 21 ∧ x = 10) ∨ (k = 22 ∧ x = 11) ∨ (k = 23 ∧ x = 12)) (u f r : Int32) (h : mulR (kap k) u f = some r) : mc_cal x u f = r ∧ (x = 10 ∨ f ≠ 0) := by
  rcases hk with ⟨rfl, rfl⟩ | ⟨rfl, rfl⟩ | ⟨rfl, rfl⟩
  · unfold mulR at h
    rw [if_neg (by decide), if_pos (by decide)] at h
    cases h
    exact ⟨rfl, Or.inl rfl⟩
  · unfold mulR at h
    rw [if_neg (by decide), if_neg (by decide), if_pos (by decide)] at h
    split at h
    · cases h
    · cases h; exact ⟨rfl, Or.inr (by assumption)⟩
  · unfold mulR at h
    rw [if_neg (by decide), if_neg (by decide), if_neg (by decide), if_pos (by decide)] at h
    split at h
    · cases h
    · cases h; exact ⟨rfl, Or.inr (by assumption)⟩
theorem mul_cal0 {k x : Nat} (hk : (k = 21 ∧ x = 10) ∨ (k = 22 ∧ x = 11) ∨ (k = 23 ∧ x = 12)) (u f : Int32) (h : mulR (kap k) u f = none) : (x = 11 ∨ x = 12) ∧ f = 0 := by
  rcases hk with ⟨rfl, rfl⟩ | ⟨rfl, rfl⟩ | ⟨rfl, rfl⟩
  · unfold mulR at h
    rw [if_neg (by decide), if_pos (by decide)] at h
    cases h
  · unfold mulR at h
    rw [if_neg (by decide), if_neg (by decide), if_pos (by decide)] at h
    split at h
    · exact ⟨Or.inl rfl, by assumption⟩
    · cases h
  · unfold mulR at h
    rw [if_neg (by decide), if_neg (by decide), if_neg (by decide), if_pos (by decide)] at h
    split at h
    · exact ⟨Or.inr rfl, by assumption⟩
    · cases h
theorem mulop_k {k x : Nat} (h : mulop k = some x) : (k = 21 ∧ x = 10) ∨ (k = 22 ∧ x = 11) ∨ (k = 23 ∧ x = 12) := by
  unfold mulop at h
  split at h
  · cases h; omega
  · split at h
    · cases h; omega
    · split at h
      · cases h; omega
      · cases h
/-- the machine's two-place operations -/
theorem kx_op {st : Nat → Int32} {τ c x : Nat} (hτ : τ < 21) (hc : c < D.2.2.2.2.2.2.1) (hx : D.1 c = x) (h8 : 8 ≤ x) (h15 : x ≤ 15) (h0 : (x = 11 ∨ x = 12) → st (τ + 1) ≠ 0) : VR D 1 (KX K st (τ + 2) c) (KX K (upd st τ (if 13 ≤ x then bI (mc_cmp x (st τ) (st (τ + 1))) else mc_cal x (st τ) (st (τ + 1)))) (τ + 1) (c + 1)) := by
  refine vm1 hc ?_
  rw [hx]
  have cb : mc_comb (KX K st (τ + 2) (c + 1)) x = KX K (upd st τ (if 13 ≤ x then bI (mc_cmp x (st τ) (st (τ + 1))) else mc_cal x (st τ) (st (τ + 1)))) (τ + 1) (c + 1) := by
    unfold mc_comb
    rw [kx_two, kx_push hτ]
  rcases (show x = 8 ∨ x = 9 ∨ x = 10 ∨ x = 11 ∨ x = 12 ∨ x = 13 ∨ x = 14 ∨ x = 15 by omega) with rfl | rfl | rfl | rfl | rfl | rfl | rfl | rfl
  · show (none, mc_comb (KX K st (τ + 2) (c + 1)) 8) = _; rw [cb]
  · show (none, mc_comb (KX K st (τ + 2) (c + 1)) 9) = _; rw [cb]
  · show (none, mc_comb (KX K st (τ + 2) (c + 1)) 10) = _; rw [cb]
  · show (if (mc_two (KX K st (τ + 2) (c + 1))).2.1 = 0 then _ else _) = _
    rw [kx_two, if_neg (h0 (Or.inl rfl)), cb]
  · show (if (mc_two (KX K st (τ + 2) (c + 1))).2.1 = 0 then _ else _) = _
    rw [kx_two, if_neg (h0 (Or.inr rfl)), cb]
  · show (none, mc_comb (KX K st (τ + 2) (c + 1)) 13) = _; rw [cb]
  · show (none, mc_comb (KX K st (τ + 2) (c + 1)) 14) = _; rw [cb]
  · show (none, mc_comb (KX K st (τ + 2) (c + 1)) 15) = _; rw [cb]
theorem kx_op0 {st : Nat → Int32} {τ c x : Nat} (hc : c < D.2.2.2.2.2.2.1) (hx : D.1 c = x) (h12 : x = 11 ∨ x = 12) (h0 : st (τ + 1) = 0) : VE D 1 (KX K st (τ + 2) c) ARE (KX K st τ (c + 1)) := by
  refine vmE hc ?_
  rw [hx]
  rcases h12 with rfl | rfl
  · show (if (mc_two (KX K st (τ + 2) (c + 1))).2.1 = 0 then _ else _) = _
    rw [kx_two, if_pos h0]
  · show (if (mc_two (KX K st (τ + 2) (c + 1))).2.1 = 0 then _ else _) = _
    rw [kx_two, if_pos h0]
theorem kx_neg {st : Nat → Int32} {τ c : Nat} (hτ : τ < 21) (hc : c < D.2.2.2.2.2.2.1) (hx : D.1 c = 7) : VR D 1 (KX K st (τ + 1) c) (KX K (upd st τ (-(st τ))) (τ + 1) (c + 1)) := by
  refine vm1 hc ?_
  rw [hx]
  show (none, mc_push (mc_pop (KX K st (τ + 1) (c + 1))).2 (-(mc_pop (KX K st (τ + 1) (c + 1))).1)) = _
  rw [kx_pop, kx_push hτ]
theorem ev_tl {d : Nat} {f : CS → CR} (t : TkOk T m) (hR : RT T m X) (hd : d ≤ 8) (gf : GX m f (fun _ => True)) (hf : EF T m N D K X d f (fun _ => True)) : ∀ n S S1 v0 st τ su te ss ts, Ok m S → Cp S → S.2.1 = N → cp_tl T f n S = (.inr v0, S1) → AGd D (cz S) S1 → VV T N K X S.1 S1.1 → τ ≤ 3 + 2 * d → ss d < 2147483648 → te d = st τ → EO D K X S S1 st (τ + 1) (τ + 1) τ (eA d (VX X S.1 0 su te ss ts)) (GM X d S1 su te ss ts (eA d (VX X S.1 0 su te ss ts))) := by
  have tm := t.1
  intro n
  induction n with
  | zero =>
    intro S S1 v0 st τ su te ss ts o c e h hA hV hτ hss hte
    cases h
    exact Or.inl ⟨st τ, 0, st, VR.rf, by omega, rfl, fun _ _ => rfl, su, te, ss, ts, RB4.rf, rfl, rfl, hte, fun _ _ h => h⟩
  | succ n ih =>
    intro S S1 v0 st τ su te ss ts o c e h hA hV hτ hss hte
    have o1 := o.1
    unfold cp_tl at h
    split at h
    · cases h
      exact Or.inl ⟨st τ, 0, st, VR.rf, by omega, rfl, fun _ _ => rfl, su, te, ss, ts, RB4.rf, rfl, rfl, hte, fun _ _ h => h⟩
    · rename_i x hx
      have hkx := mulop_k hx
      obtain ⟨w, S2, h1, h2⟩ := bd_inv h
      have g := ge_op t gf o c rfl (mulop_lt hx).1 (mulop_lt hx).2 h1
      have gA := ge_adv t o rfl (mulop_lt hx).1
      have zz : cz (adv S) = cz S := rfl
      have r := gt_tl t gf n _ _ _ g.1.2.1 (g.1.cp c) h2
      have p2 : PF S2 (cadd S2 x 0 0) := by
        have : cz S2 < 300 := by have := g.2.2.2.1.2.2.2.1; have := g.2.2.2.1.2.1.1; unfold Cp at c; omega
        exact PF.rf.add this
      have hz2 : cz S2 < 300 := by have := g.2.2.2.1.2.2.2.1; have := g.2.2.2.1.2.1.1; unfold Cp at c; omega
      have s21 : S2.1 ≤ S1.1 := r.1.1
      have A1 : AGd D (cz S) (cadd S2 x 0 0) := hA.pf r.1.2.2.2.2
      obtain ⟨a1, a2, a3, a4⟩ := A1.at hz2 PF.rf (by have := g.2.2.2.1.2.2.2.2.1; omega)
      have kk : r_pKind X S.1 = kap (kd T S.1) := hR.1 _ o.1
      have hk3 : r_pKind X S.1 = 42 ∨ r_pKind X S.1 = 47 ∨ r_pKind X S.1 = 37 := by
        rw [kk]
        rcases hkx with q | q | q <;> rw [q.1] <;> decide
      have hlt := t.lt o.1 rfl (mulop_lt hx).1
      have tsk : tsok (va_up ts d (r_pKind X S.1)) d := by unfold tsok; rw [va_same]; omega
      have stp := fun v Z' => eA_mul (X := X) (pc := S.1) (fl := 0) (d := d) (su := su) (te := te) (ss := ss) (ts := ts) (v := v) (Z' := Z') (by omega) (by omega) hk3
      have q := hf (adv S) S2 w st (τ + 1) su te ss (va_up ts d (r_pKind X S.1)) gA.1.2.1 (gA.1.cp c) e trivial h1 (A1.pf p2) (hV.sub (by omega) s21) (by omega) tsk
      rcases q with ⟨fv, k1, st1, v1, v2, v3, v4, su1, te1, ss1, ts1, w1, w2⟩ | ⟨k1, st1, τ1, c1, v1, v2, v, pc', su1, te1, ss1, ts1, hpc, w1⟩
      · rw [va_same] at w2
        have t1 : st1 τ = te d := (v4 τ (by omega)).trans hte.symm
        rcases hm : mulR (r_pKind X S.1) (te d) fv with _ | rv
        · -- a division by zero
          have mc0 := mul_cal0 hkx (te d) fv (by rw [← kk]; exact hm)
          right
          refine ⟨k1 + 1, st1, τ, cz S2 + 1, v1.te (kx_op0 (τ := τ) a1 a2 mc0.1 (v3.trans mc0.2)), ?_, ?_⟩
          · have := r.1.2.2.2.2.1; rw [g.2.2.2.2] at this; omega
          · have w1d := w1 d (by omega)
            obtain ⟨v, pc', su', te', ss', ts', hpc, hh⟩ := eA_fail (X := X) (pc := S2.1) (d := d) (su := su1) (te := te1) (ss := ss1) (ts := ts1) (by have := g.2.2.2.1.2.1.1; omega) (by omega) (by rw [w1d.2.2.1]; exact hss) (by rw [hR.1 _ g.2.2.2.1.2.1.1]; have := kap_lt9 _ (t.some g.2.2.2.1.2.1.1).2; omega)
            refine ⟨v, pc', su', te', ss', ts', hpc, stp _ _ ?_⟩
            rw [gA.2] at w2
            refine w2 v _ (fun r hr => ?_) (fun _ => hh)
            rw [hm] at hr; cases hr
        · have mc1 := mul_cal hkx (te d) fv rv (by rw [← kk]; exact hm)
          have vop := kx_op (K := K) (D := D) (st := st1) (τ := τ) (c := cz S2) (x := x) (by omega) a1 a2 (by omega) (by omega) (fun hh => by
            rw [v3]
            rcases mc1.2 with z | z
            · omega
            · exact z)
          rw [if_neg (show ¬ 13 ≤ x by omega), t1, v3, mc1.1] at vop
          have w1d := w1 d (by omega)
          have ihq := ih (cadd S2 x 0 0) S1 v0 (upd st1 τ rv) τ su1 (upd te1 d rv) ss1 ts1 g.1.2.1 (g.1.cp c) (by show S2.2.1 = N; rw [g.2.2.2.1.2.2.1]; exact e) h2 (hA.lo (by have := g.2.2.1; omega)) (hV.sub (by have := g.2.1; show S.1 ≤ S2.1; omega) (Nat.le_refl _)) hτ (by rw [w1d.2.2.1]; exact hss) (by rw [upd_same, upd_same])
          have hz : cz (cadd S2 x 0 0) = cz S2 + 1 := g.2.2.2.2
          unfold EO at ihq
          rw [hz] at ihq
          have stp2 : ∀ v Z', eA d (VX X S2.1 0 su1 (upd te1 d rv) ss1 ts1) v Z' → eA d (VX X S.1 0 su te ss ts) v Z' := by
            intro v Z' hh
            refine stp v Z' ?_
            rw [gA.2] at w2
            refine w2 v Z' (fun r hr => ?_) (fun hn => ?_)
            · rw [hm] at hr; cases hr; exact hh
            · rw [hm] at hn; cases hn
          have rb : RB4 d su te su1 (upd te1 d rv) ss ts ss1 ts1 := fun j hj => by
            have z := w1 j (by omega)
            have zt : va_up ts d (r_pKind X S.1) j = ts j := by unfold va_up; rw [if_neg (by omega)]
            have zu : upd te1 d rv j = te1 j := by unfold upd; rw [if_neg (by omega)]
            exact ⟨z.1, zu.trans z.2.1, z.2.2.1, z.2.2.2.trans zt⟩
          rcases ihq with ⟨a, k2, st2, u1, u2, u3, u4, su2, te2, ss2, ts2, y1, y2, y3, y4, y5⟩ | ⟨k2, st2, τ2, c2, u1, u2, v, pc', su2, te2, ss2, ts2, hpc, y1⟩
          · left
            refine ⟨a, k1 + 1 + k2, st2, (v1.tr vop).tr u1, by omega, u3, fun j hj => ?_, su2, te2, ss2, ts2, rb.tr y1, y2.trans w1d.1, y3.trans w1d.2.2.1, y4, fun v Z' hh => stp2 _ _ (y5 _ _ hh)⟩
            rw [u4 j hj]
            unfold upd
            rw [if_neg (by omega), v4 j (by omega)]
          · right
            exact ⟨k1 + 1 + k2, st2, τ2, c2, (v1.tr vop).te u1, by omega, v, pc', su2, te2, ss2, ts2, hpc, stp2 _ _ y1⟩
      · right
        have := r.1.2.2.2.2.1
        rw [g.2.2.2.2] at this
        refine ⟨k1, st1, τ1, c1, v1, by omega, v, pc', su1, te1, ss1, ts1, hpc, stp _ _ ?_⟩
        rw [gA.2] at w1
        exact w1
end E1
